theorem dX0_init_0 : decode cX0_init 0 = .ok (.aload_n 0, 1) := by decide +kernel
theorem dX0_init_1 : decode cX0_init 1 = .ok (.invokespecial 3, 3) := by decide +kernel
theorem dX0_init_4 : decode cX0_init 4 = .ok (.aload_n 0, 1) := by decide +kernel
theorem dX0_init_5 : decode cX0_init 5 = .ok (.bipush 40, 2) := by decide +kernel
theorem dX0_init_7 : decode cX0_init 7 = .ok (.newarray .int, 2) := by decide +kernel
theorem dX0_init_9 : decode cX0_init 9 = .ok (.putfield 9, 3) := by decide +kernel
theorem dX0_init_12 : decode cX0_init 12 = .ok (.aload_n 0, 1) := by decide +kernel
theorem dX0_init_13 : decode cX0_init 13 = .ok (.bipush 40, 2) := by decide +kernel
theorem dX0_init_15 : decode cX0_init 15 = .ok (.newarray .int, 2) := by decide +kernel
theorem dX0_init_17 : decode cX0_init 17 = .ok (.putfield 15, 3) := by decide +kernel
theorem dX0_init_20 : decode cX0_init 20 = .ok (.aload_n 0, 1) := by decide +kernel
theorem dX0_init_21 : decode cX0_init 21 = .ok (.bipush 40, 2) := by decide +kernel
theorem dX0_init_23 : decode cX0_init 23 = .ok (.newarray .int, 2) := by decide +kernel
theorem dX0_init_25 : decode cX0_init 25 = .ok (.putfield 18, 3) := by decide +kernel
theorem dX0_init_28 : decode cX0_init 28 = .ok (.aload_n 0, 1) := by decide +kernel
theorem dX0_init_29 : decode cX0_init 29 = .ok (.bipush 40, 2) := by decide +kernel
theorem dX0_init_31 : decode cX0_init 31 = .ok (.newarray .int, 2) := by decide +kernel
theorem dX0_init_33 : decode cX0_init 33 = .ok (.putfield 21, 3) := by decide +kernel
theorem dX0_init_36 : decode cX0_init 36 = .ok (.aload_n 0, 1) := by decide +kernel
theorem dX0_init_37 : decode cX0_init 37 = .ok (.bipush 40, 2) := by decide +kernel
theorem dX0_init_39 : decode cX0_init 39 = .ok (.newarray .int, 2) := by decide +kernel
theorem dX0_init_41 : decode cX0_init 41 = .ok (.putfield 24, 3) := by decide +kernel
theorem dX0_init_44 : decode cX0_init 44 = .ok (.aload_n 0, 1) := by decide +kernel
theorem dX0_init_45 : decode cX0_init 45 = .ok (.bipush 40, 2) := by decide +kernel
theorem dX0_init_47 : decode cX0_init 47 = .ok (.newarray .int, 2) := by decide +kernel
theorem dX0_init_49 : decode cX0_init 49 = .ok (.putfield 27, 3) := by decide +kernel
theorem dX0_init_52 : decode cX0_init 52 = .ok (.aload_n 0, 1) := by decide +kernel
theorem dX0_init_53 : decode cX0_init 53 = .ok (.bipush 40, 2) := by decide +kernel
theorem dX0_init_55 : decode cX0_init 55 = .ok (.newarray .long, 2) := by decide +kernel
theorem dX0_init_57 : decode cX0_init 57 = .ok (.putfield 30, 3) := by decide +kernel
theorem dX0_init_60 : decode cX0_init 60 = .ok (.aload_n 0, 1) := by decide +kernel
theorem dX0_init_61 : decode cX0_init 61 = .ok (.iconst 0, 1) := by decide +kernel
theorem dX0_init_62 : decode cX0_init 62 = .ok (.putfield 34, 3) := by decide +kernel
theorem dX0_init_65 : decode cX0_init 65 = .ok (.return_, 1) := by decide +kernel
set_option maxRecDepth 20000 in
theorem ggX0_append_X0_greatestOf : GoodIn wsX0_append wsX0_greatestOf := goodIn_r _ [13, 14, 15, 16, 17] (by decide +kernel) (by decide +kernel)
set_option maxRecDepth 20000 in
theorem gX0_append_X0_greatestOf : GoodIn wsX0_append (wsV RX0 38 RX0 yX0_greatestOf wsX0_greatestOf) := goodIn_app (goodIn_of _ (by decide +kernel)) ggX0_append_X0_greatestOf
set_option maxRecDepth 20000 in
theorem ggX0_append_X0_neededOf : GoodIn wsX0_append wsX0_neededOf := goodIn_r _ [21, 8, 22, 23, 24, 25, 26, 27, 28, 29] (by decide +kernel) (by decide +kernel)
set_option maxRecDepth 20000 in
theorem gX0_append_X0_neededOf : GoodIn wsX0_append (wsV RX0 42 RX0 yX0_neededOf wsX0_neededOf) := goodIn_app (goodIn_of _ (by decide +kernel)) ggX0_append_X0_neededOf
theorem dX0_append_0 : decode cX0_append 0 = .ok (.aload_n 0, 1) := by decide +kernel
theorem dX0_append_1 : decode cX0_append 1 = .ok (.getfield 34, 3) := by decide +kernel
theorem dX0_append_4 : decode cX0_append 4 = .ok (.istore 5, 2) := by decide +kernel
theorem dX0_append_6 : decode cX0_append 6 = .ok (.aload_n 0, 1) := by decide +kernel
theorem dX0_append_7 : decode cX0_append 7 = .ok (.getfield 9, 3) := by decide +kernel
theorem dX0_append_10 : decode cX0_append 10 = .ok (.iload 5, 2) := by decide +kernel
theorem dX0_append_12 : decode cX0_append 12 = .ok (.iload_n 1, 1) := by decide +kernel
theorem dX0_append_13 : decode cX0_append 13 = .ok (.iastore, 1) := by decide +kernel
theorem dX0_append_14 : decode cX0_append 14 = .ok (.aload_n 0, 1) := by decide +kernel
theorem dX0_append_15 : decode cX0_append 15 = .ok (.getfield 15, 3) := by decide +kernel
theorem dX0_append_18 : decode cX0_append 18 = .ok (.iload 5, 2) := by decide +kernel
theorem dX0_append_20 : decode cX0_append 20 = .ok (.iload_n 2, 1) := by decide +kernel
theorem dX0_append_21 : decode cX0_append 21 = .ok (.iastore, 1) := by decide +kernel
theorem dX0_append_22 : decode cX0_append 22 = .ok (.aload_n 0, 1) := by decide +kernel
theorem dX0_append_23 : decode cX0_append 23 = .ok (.getfield 18, 3) := by decide +kernel
theorem dX0_append_26 : decode cX0_append 26 = .ok (.iload 5, 2) := by decide +kernel
theorem dX0_append_28 : decode cX0_append 28 = .ok (.iload_n 3, 1) := by decide +kernel
theorem dX0_append_29 : decode cX0_append 29 = .ok (.iastore, 1) := by decide +kernel
theorem dX0_append_30 : decode cX0_append 30 = .ok (.aload_n 0, 1) := by decide +kernel
theorem dX0_append_31 : decode cX0_append 31 = .ok (.getfield 21, 3) := by decide +kernel
theorem dX0_append_34 : decode cX0_append 34 = .ok (.iload 5, 2) := by decide +kernel
theorem dX0_append_36 : decode cX0_append 36 = .ok (.iload 4, 2) := by decide +kernel
theorem dX0_append_38 : decode cX0_append 38 = .ok (.iastore, 1) := by decide +kernel
theorem dX0_append_39 : decode cX0_append 39 = .ok (.iload_n 1, 1) := by decide +kernel
theorem dX0_append_40 : decode cX0_append 40 = .ok (.iconst 3, 1) := by decide +kernel
theorem dX0_append_41 : decode cX0_append 41 = .ok (.if_icmp .eq 13, 3) := by decide +kernel
theorem dX0_append_44 : decode cX0_append 44 = .ok (.iload_n 1, 1) := by decide +kernel
theorem dX0_append_45 : decode cX0_append 45 = .ok (.iconst 4, 1) := by decide +kernel
theorem dX0_append_46 : decode cX0_append 46 = .ok (.if_icmp .eq 8, 3) := by decide +kernel
theorem dX0_append_49 : decode cX0_append 49 = .ok (.iload_n 1, 1) := by decide +kernel
theorem dX0_append_50 : decode cX0_append 50 = .ok (.iconst 5, 1) := by decide +kernel
theorem dX0_append_51 : decode cX0_append 51 = .ok (.if_icmp .ne 7, 3) := by decide +kernel
theorem dX0_append_54 : decode cX0_append 54 = .ok (.iconst 1, 1) := by decide +kernel
theorem dX0_append_55 : decode cX0_append 55 = .ok (.goto 4, 3) := by decide +kernel
theorem dX0_append_58 : decode cX0_append 58 = .ok (.iconst 0, 1) := by decide +kernel
theorem dX0_append_59 : decode cX0_append 59 = .ok (.istore 6, 2) := by decide +kernel
theorem dX0_append_61 : decode cX0_append 61 = .ok (.aload_n 0, 1) := by decide +kernel
theorem dX0_append_62 : decode cX0_append 62 = .ok (.getfield 24, 3) := by decide +kernel
theorem dX0_append_65 : decode cX0_append 65 = .ok (.iload 5, 2) := by decide +kernel
theorem dX0_append_67 : decode cX0_append 67 = .ok (.aload_n 0, 1) := by decide +kernel
theorem dX0_append_68 : decode cX0_append 68 = .ok (.aload_n 0, 1) := by decide +kernel
theorem dX0_append_69 : decode cX0_append 69 = .ok (.getfield 24, 3) := by decide +kernel
theorem dX0_append_72 : decode cX0_append 72 = .ok (.iload_n 3, 1) := by decide +kernel
theorem dX0_append_73 : decode cX0_append 73 = .ok (.iload 4, 2) := by decide +kernel
theorem dX0_append_75 : decode cX0_append 75 = .ok (.invokevirtual 38, 3) := by decide +kernel
theorem dX0_append_78 : decode cX0_append 78 = .ok (.iload 6, 2) := by decide +kernel
theorem dX0_append_80 : decode cX0_append 80 = .ok (.ifCond .eq 7, 3) := by decide +kernel
theorem dX0_append_83 : decode cX0_append 83 = .ok (.iconst 1, 1) := by decide +kernel
theorem dX0_append_84 : decode cX0_append 84 = .ok (.goto 4, 3) := by decide +kernel
theorem dX0_append_87 : decode cX0_append 87 = .ok (.iconst 0, 1) := by decide +kernel
theorem dX0_append_88 : decode cX0_append 88 = .ok (.iadd, 1) := by decide +kernel
theorem dX0_append_89 : decode cX0_append 89 = .ok (.iastore, 1) := by decide +kernel
theorem dX0_append_90 : decode cX0_append 90 = .ok (.aload_n 0, 1) := by decide +kernel
theorem dX0_append_91 : decode cX0_append 91 = .ok (.getfield 27, 3) := by decide +kernel
theorem dX0_append_94 : decode cX0_append 94 = .ok (.iload 5, 2) := by decide +kernel
theorem dX0_append_96 : decode cX0_append 96 = .ok (.aload_n 0, 1) := by decide +kernel
theorem dX0_append_97 : decode cX0_append 97 = .ok (.aload_n 0, 1) := by decide +kernel
theorem dX0_append_98 : decode cX0_append 98 = .ok (.getfield 27, 3) := by decide +kernel
theorem dX0_append_101 : decode cX0_append 101 = .ok (.iload_n 3, 1) := by decide +kernel
theorem dX0_append_102 : decode cX0_append 102 = .ok (.iload 4, 2) := by decide +kernel
theorem dX0_append_104 : decode cX0_append 104 = .ok (.invokevirtual 38, 3) := by decide +kernel
theorem dX0_append_107 : decode cX0_append 107 = .ok (.iload_n 1, 1) := by decide +kernel
theorem dX0_append_108 : decode cX0_append 108 = .ok (.bipush 6, 2) := by decide +kernel
theorem dX0_append_110 : decode cX0_append 110 = .ok (.if_icmp .ne 7, 3) := by decide +kernel
theorem dX0_append_113 : decode cX0_append 113 = .ok (.iconst 1, 1) := by decide +kernel
theorem dX0_append_114 : decode cX0_append 114 = .ok (.goto 4, 3) := by decide +kernel
theorem dX0_append_117 : decode cX0_append 117 = .ok (.iconst 0, 1) := by decide +kernel
theorem dX0_append_118 : decode cX0_append 118 = .ok (.iadd, 1) := by decide +kernel
theorem dX0_append_119 : decode cX0_append 119 = .ok (.iastore, 1) := by decide +kernel
theorem dX0_append_120 : decode cX0_append 120 = .ok (.iload_n 1, 1) := by decide +kernel
theorem dX0_append_121 : decode cX0_append 121 = .ok (.bipush 6, 2) := by decide +kernel
theorem dX0_append_123 : decode cX0_append 123 = .ok (.if_icmp .ne 7, 3) := by decide +kernel
theorem dX0_append_126 : decode cX0_append 126 = .ok (.lconst 0, 1) := by decide +kernel
theorem dX0_append_127 : decode cX0_append 127 = .ok (.goto 9, 3) := by decide +kernel
theorem dX0_append_130 : decode cX0_append 130 = .ok (.aload_n 0, 1) := by decide +kernel
theorem dX0_append_131 : decode cX0_append 131 = .ok (.iload 4, 2) := by decide +kernel
theorem dX0_append_133 : decode cX0_append 133 = .ok (.invokevirtual 42, 3) := by decide +kernel
theorem dX0_append_136 : decode cX0_append 136 = .ok (.lstore 7, 2) := by decide +kernel
theorem dX0_append_138 : decode cX0_append 138 = .ok (.aload_n 0, 1) := by decide +kernel
theorem dX0_append_139 : decode cX0_append 139 = .ok (.getfield 30, 3) := by decide +kernel
theorem dX0_append_142 : decode cX0_append 142 = .ok (.iload 5, 2) := by decide +kernel
theorem dX0_append_144 : decode cX0_append 144 = .ok (.lconst 1, 1) := by decide +kernel
theorem dX0_append_145 : decode cX0_append 145 = .ok (.iload 5, 2) := by decide +kernel
theorem dX0_append_147 : decode cX0_append 147 = .ok (.lshl, 1) := by decide +kernel
theorem dX0_append_148 : decode cX0_append 148 = .ok (.aload_n 0, 1) := by decide +kernel
theorem dX0_append_149 : decode cX0_append 149 = .ok (.iload_n 3, 1) := by decide +kernel
theorem dX0_append_150 : decode cX0_append 150 = .ok (.invokevirtual 42, 3) := by decide +kernel
theorem dX0_append_153 : decode cX0_append 153 = .ok (.lor, 1) := by decide +kernel
theorem dX0_append_154 : decode cX0_append 154 = .ok (.lload 7, 2) := by decide +kernel
theorem dX0_append_156 : decode cX0_append 156 = .ok (.lor, 1) := by decide +kernel
theorem dX0_append_157 : decode cX0_append 157 = .ok (.lastore, 1) := by decide +kernel
theorem dX0_append_158 : decode cX0_append 158 = .ok (.aload_n 0, 1) := by decide +kernel
theorem dX0_append_159 : decode cX0_append 159 = .ok (.iload 5, 2) := by decide +kernel
theorem dX0_append_161 : decode cX0_append 161 = .ok (.iconst 1, 1) := by decide +kernel
theorem dX0_append_162 : decode cX0_append 162 = .ok (.iadd, 1) := by decide +kernel
theorem dX0_append_163 : decode cX0_append 163 = .ok (.putfield 34, 3) := by decide +kernel
theorem dX0_append_166 : decode cX0_append 166 = .ok (.iload 5, 2) := by decide +kernel
theorem dX0_append_168 : decode cX0_append 168 = .ok (.ireturn, 1) := by decide +kernel
theorem dX0_greatestOf_0 : decode cX0_greatestOf 0 = .ok (.iload_n 2, 1) := by decide +kernel
theorem dX0_greatestOf_1 : decode cX0_greatestOf 1 = .ok (.iconst (-1), 1) := by decide +kernel
theorem dX0_greatestOf_2 : decode cX0_greatestOf 2 = .ok (.if_icmp .ne 7, 3) := by decide +kernel
theorem dX0_greatestOf_5 : decode cX0_greatestOf 5 = .ok (.iconst 0, 1) := by decide +kernel
theorem dX0_greatestOf_6 : decode cX0_greatestOf 6 = .ok (.goto 6, 3) := by decide +kernel
theorem dX0_greatestOf_9 : decode cX0_greatestOf 9 = .ok (.aload_n 1, 1) := by decide +kernel
theorem dX0_greatestOf_10 : decode cX0_greatestOf 10 = .ok (.iload_n 2, 1) := by decide +kernel
theorem dX0_greatestOf_11 : decode cX0_greatestOf 11 = .ok (.iaload, 1) := by decide +kernel
theorem dX0_greatestOf_12 : decode cX0_greatestOf 12 = .ok (.istore 4, 2) := by decide +kernel
theorem dX0_greatestOf_14 : decode cX0_greatestOf 14 = .ok (.iload_n 3, 1) := by decide +kernel
theorem dX0_greatestOf_15 : decode cX0_greatestOf 15 = .ok (.iconst (-1), 1) := by decide +kernel
theorem dX0_greatestOf_16 : decode cX0_greatestOf 16 = .ok (.if_icmp .ne 7, 3) := by decide +kernel
theorem dX0_greatestOf_19 : decode cX0_greatestOf 19 = .ok (.iconst 0, 1) := by decide +kernel
theorem dX0_greatestOf_20 : decode cX0_greatestOf 20 = .ok (.goto 6, 3) := by decide +kernel
theorem dX0_greatestOf_23 : decode cX0_greatestOf 23 = .ok (.aload_n 1, 1) := by decide +kernel
theorem dX0_greatestOf_24 : decode cX0_greatestOf 24 = .ok (.iload_n 3, 1) := by decide +kernel
theorem dX0_greatestOf_25 : decode cX0_greatestOf 25 = .ok (.iaload, 1) := by decide +kernel
theorem dX0_greatestOf_26 : decode cX0_greatestOf 26 = .ok (.istore 5, 2) := by decide +kernel
theorem dX0_greatestOf_28 : decode cX0_greatestOf 28 = .ok (.iload 4, 2) := by decide +kernel
theorem dX0_greatestOf_30 : decode cX0_greatestOf 30 = .ok (.iload 5, 2) := by decide +kernel
theorem dX0_greatestOf_32 : decode cX0_greatestOf 32 = .ok (.invokestatic 46, 3) := by decide +kernel
theorem dX0_greatestOf_35 : decode cX0_greatestOf 35 = .ok (.ireturn, 1) := by decide +kernel
theorem dX0_neededOf_0 : decode cX0_neededOf 0 = .ok (.iload_n 1, 1) := by decide +kernel
theorem dX0_neededOf_1 : decode cX0_neededOf 1 = .ok (.iconst (-1), 1) := by decide +kernel
theorem dX0_neededOf_2 : decode cX0_neededOf 2 = .ok (.if_icmp .ne 7, 3) := by decide +kernel
theorem dX0_neededOf_5 : decode cX0_neededOf 5 = .ok (.lconst 0, 1) := by decide +kernel
theorem dX0_neededOf_6 : decode cX0_neededOf 6 = .ok (.goto 9, 3) := by decide +kernel
theorem dX0_neededOf_9 : decode cX0_neededOf 9 = .ok (.aload_n 0, 1) := by decide +kernel
theorem dX0_neededOf_10 : decode cX0_neededOf 10 = .ok (.getfield 30, 3) := by decide +kernel
theorem dX0_neededOf_13 : decode cX0_neededOf 13 = .ok (.iload_n 1, 1) := by decide +kernel
theorem dX0_neededOf_14 : decode cX0_neededOf 14 = .ok (.laload, 1) := by decide +kernel
theorem dX0_neededOf_15 : decode cX0_neededOf 15 = .ok (.lreturn, 1) := by decide +kernel
set_option maxRecDepth 20000 in
theorem ggX0_addTo_X4_mixed : GoodIn wsX0_addTo wsX4_mixed := goodIn_r _ [7, 8] (by decide +kernel) (by decide +kernel)
set_option maxRecDepth 20000 in
theorem gX0_addTo_X4_mixed_n52 : GoodIn wsX0_addTo (wsX4_mixed) := ggX0_addTo_X4_mixed
theorem dX0_addTo_0 : decode cX0_addTo 0 = .ok (.lload_n 1, 1) := by decide +kernel
theorem dX0_addTo_1 : decode cX0_addTo 1 = .ok (.aload_n 0, 1) := by decide +kernel
theorem dX0_addTo_2 : decode cX0_addTo 2 = .ok (.getfield 34, 3) := by decide +kernel
theorem dX0_addTo_5 : decode cX0_addTo 5 = .ok (.invokestatic 52, 3) := by decide +kernel
theorem dX0_addTo_8 : decode cX0_addTo 8 = .ok (.lstore_n 3, 1) := by decide +kernel
theorem dX0_addTo_9 : decode cX0_addTo 9 = .ok (.iconst 0, 1) := by decide +kernel
theorem dX0_addTo_10 : decode cX0_addTo 10 = .ok (.istore 5, 2) := by decide +kernel
theorem dX0_addTo_12 : decode cX0_addTo 12 = .ok (.iload 5, 2) := by decide +kernel
theorem dX0_addTo_14 : decode cX0_addTo 14 = .ok (.aload_n 0, 1) := by decide +kernel
theorem dX0_addTo_15 : decode cX0_addTo 15 = .ok (.getfield 34, 3) := by decide +kernel
theorem dX0_addTo_18 : decode cX0_addTo 18 = .ok (.if_icmp .ge 45, 3) := by decide +kernel
theorem dX0_addTo_21 : decode cX0_addTo 21 = .ok (.lload_n 3, 1) := by decide +kernel
theorem dX0_addTo_22 : decode cX0_addTo 22 = .ok (.aload_n 0, 1) := by decide +kernel
theorem dX0_addTo_23 : decode cX0_addTo 23 = .ok (.getfield 9, 3) := by decide +kernel
theorem dX0_addTo_26 : decode cX0_addTo 26 = .ok (.iload 5, 2) := by decide +kernel
theorem dX0_addTo_28 : decode cX0_addTo 28 = .ok (.iaload, 1) := by decide +kernel
theorem dX0_addTo_29 : decode cX0_addTo 29 = .ok (.invokestatic 52, 3) := by decide +kernel
theorem dX0_addTo_32 : decode cX0_addTo 32 = .ok (.lstore_n 3, 1) := by decide +kernel
theorem dX0_addTo_33 : decode cX0_addTo 33 = .ok (.lload_n 3, 1) := by decide +kernel
theorem dX0_addTo_34 : decode cX0_addTo 34 = .ok (.aload_n 0, 1) := by decide +kernel
theorem dX0_addTo_35 : decode cX0_addTo 35 = .ok (.getfield 24, 3) := by decide +kernel
theorem dX0_addTo_38 : decode cX0_addTo 38 = .ok (.iload 5, 2) := by decide +kernel
theorem dX0_addTo_40 : decode cX0_addTo 40 = .ok (.iaload, 1) := by decide +kernel
theorem dX0_addTo_41 : decode cX0_addTo 41 = .ok (.invokestatic 52, 3) := by decide +kernel
theorem dX0_addTo_44 : decode cX0_addTo 44 = .ok (.lstore_n 3, 1) := by decide +kernel
theorem dX0_addTo_45 : decode cX0_addTo 45 = .ok (.lload_n 3, 1) := by decide +kernel
theorem dX0_addTo_46 : decode cX0_addTo 46 = .ok (.aload_n 0, 1) := by decide +kernel
theorem dX0_addTo_47 : decode cX0_addTo 47 = .ok (.getfield 27, 3) := by decide +kernel
theorem dX0_addTo_50 : decode cX0_addTo 50 = .ok (.iload 5, 2) := by decide +kernel
theorem dX0_addTo_52 : decode cX0_addTo 52 = .ok (.iaload, 1) := by decide +kernel
theorem dX0_addTo_53 : decode cX0_addTo 53 = .ok (.invokestatic 52, 3) := by decide +kernel
theorem dX0_addTo_56 : decode cX0_addTo 56 = .ok (.lstore_n 3, 1) := by decide +kernel
theorem dX0_addTo_57 : decode cX0_addTo 57 = .ok (.iinc 5 1, 3) := by decide +kernel
theorem dX0_addTo_60 : decode cX0_addTo 60 = .ok (.goto (-48), 3) := by decide +kernel
theorem dX0_addTo_63 : decode cX0_addTo 63 = .ok (.lload_n 3, 1) := by decide +kernel
theorem dX0_addTo_64 : decode cX0_addTo 64 = .ok (.lreturn, 1) := by decide +kernel
theorem dX1_init_0 : decode cX1_init 0 = .ok (.aload_n 0, 1) := by decide +kernel
theorem dX1_init_1 : decode cX1_init 1 = .ok (.invokespecial 3, 3) := by decide +kernel
theorem dX1_init_4 : decode cX1_init 4 = .ok (.aload_n 0, 1) := by decide +kernel
theorem dX1_init_5 : decode cX1_init 5 = .ok (.aload_n 1, 1) := by decide +kernel
theorem dX1_init_6 : decode cX1_init 6 = .ok (.putfield 9, 3) := by decide +kernel
theorem dX1_init_9 : decode cX1_init 9 = .ok (.aload_n 0, 1) := by decide +kernel
theorem dX1_init_10 : decode cX1_init 10 = .ok (.bipush 24, 2) := by decide +kernel
theorem dX1_init_12 : decode cX1_init 12 = .ok (.newarray .int, 2) := by decide +kernel
theorem dX1_init_14 : decode cX1_init 14 = .ok (.putfield 15, 3) := by decide +kernel
theorem dX1_init_17 : decode cX1_init 17 = .ok (.aload_n 0, 1) := by decide +kernel
theorem dX1_init_18 : decode cX1_init 18 = .ok (.iconst 4, 1) := by decide +kernel
theorem dX1_init_19 : decode cX1_init 19 = .ok (.bipush 24, 2) := by decide +kernel
theorem dX1_init_21 : decode cX1_init 21 = .ok (.multianewarray 19 2, 4) := by decide +kernel
theorem dX1_init_25 : decode cX1_init 25 = .ok (.putfield 21, 3) := by decide +kernel
theorem dX1_init_28 : decode cX1_init 28 = .ok (.aload_n 0, 1) := by decide +kernel
theorem dX1_init_29 : decode cX1_init 29 = .ok (.bipush 24, 2) := by decide +kernel
theorem dX1_init_31 : decode cX1_init 31 = .ok (.newarray .int, 2) := by decide +kernel
theorem dX1_init_33 : decode cX1_init 33 = .ok (.putfield 24, 3) := by decide +kernel
theorem dX1_init_36 : decode cX1_init 36 = .ok (.return_, 1) := by decide +kernel
set_option maxRecDepth 20000 in
theorem ggX1_findClasses_X1_noteSeenClasses : GoodIn wsX1_findClasses wsX1_noteSeenClasses := goodIn_r _ [8, 1, 2, 9, 10, 11, 12, 13, 7, 14, 3, 15, 16, 17, 18, 19, 38, 39, 40, 41, 42, 43, 44, 45] (by decide +kernel) (by decide +kernel)
set_option maxRecDepth 20000 in
theorem gX1_findClasses_X1_noteSeenClasses : GoodIn wsX1_findClasses (wsV RX1 33 RX1 yX1_noteSeenClasses wsX1_noteSeenClasses) := goodIn_app (goodIn_of _ (by decide +kernel)) ggX1_findClasses_X1_noteSeenClasses
set_option maxRecDepth 20000 in
theorem ggX1_findClasses_X1_split : GoodIn wsX1_findClasses wsX1_split := goodIn_r _ [23, 1, 2, 24, 3, 25, 26, 27, 28, 29, 30, 31, 7, 32, 33, 34, 35, 36, 37, 9, 38, 39, 40, 41, 42, 43, 44, 45] (by decide +kernel) (by decide +kernel)
set_option maxRecDepth 20000 in
theorem gX1_findClasses_X1_split : GoodIn wsX1_findClasses (wsV RX1 36 RX1 yX1_split wsX1_split) := goodIn_app (goodIn_of _ (by decide +kernel)) ggX1_findClasses_X1_split
theorem dX1_findClasses_0 : decode cX1_findClasses 0 = .ok (.iconst 0, 1) := by decide +kernel
theorem dX1_findClasses_1 : decode cX1_findClasses 1 = .ok (.istore_n 1, 1) := by decide +kernel
theorem dX1_findClasses_2 : decode cX1_findClasses 2 = .ok (.iload_n 1, 1) := by decide +kernel
theorem dX1_findClasses_3 : decode cX1_findClasses 3 = .ok (.aload_n 0, 1) := by decide +kernel
theorem dX1_findClasses_4 : decode cX1_findClasses 4 = .ok (.getfield 9, 3) := by decide +kernel
theorem dX1_findClasses_7 : decode cX1_findClasses 7 = .ok (.getfield 27, 3) := by decide +kernel
theorem dX1_findClasses_10 : decode cX1_findClasses 10 = .ok (.if_icmp .ge 16, 3) := by decide +kernel
theorem dX1_findClasses_13 : decode cX1_findClasses 13 = .ok (.aload_n 0, 1) := by decide +kernel
theorem dX1_findClasses_14 : decode cX1_findClasses 14 = .ok (.getfield 15, 3) := by decide +kernel
theorem dX1_findClasses_17 : decode cX1_findClasses 17 = .ok (.iload_n 1, 1) := by decide +kernel
theorem dX1_findClasses_18 : decode cX1_findClasses 18 = .ok (.iconst 0, 1) := by decide +kernel
theorem dX1_findClasses_19 : decode cX1_findClasses 19 = .ok (.iastore, 1) := by decide +kernel
theorem dX1_findClasses_20 : decode cX1_findClasses 20 = .ok (.iinc 1 1, 3) := by decide +kernel
theorem dX1_findClasses_23 : decode cX1_findClasses 23 = .ok (.goto (-21), 3) := by decide +kernel
theorem dX1_findClasses_26 : decode cX1_findClasses 26 = .ok (.iconst 1, 1) := by decide +kernel
theorem dX1_findClasses_27 : decode cX1_findClasses 27 = .ok (.istore_n 1, 1) := by decide +kernel
theorem dX1_findClasses_28 : decode cX1_findClasses 28 = .ok (.iconst 0, 1) := by decide +kernel
theorem dX1_findClasses_29 : decode cX1_findClasses 29 = .ok (.istore_n 2, 1) := by decide +kernel
theorem dX1_findClasses_30 : decode cX1_findClasses 30 = .ok (.iload_n 2, 1) := by decide +kernel
theorem dX1_findClasses_31 : decode cX1_findClasses 31 = .ok (.aload_n 0, 1) := by decide +kernel
theorem dX1_findClasses_32 : decode cX1_findClasses 32 = .ok (.getfield 9, 3) := by decide +kernel
theorem dX1_findClasses_35 : decode cX1_findClasses 35 = .ok (.getfield 27, 3) := by decide +kernel
theorem dX1_findClasses_38 : decode cX1_findClasses 38 = .ok (.if_icmp .ge 28, 3) := by decide +kernel
theorem dX1_findClasses_41 : decode cX1_findClasses 41 = .ok (.aload_n 0, 1) := by decide +kernel
theorem dX1_findClasses_42 : decode cX1_findClasses 42 = .ok (.invokevirtual 33, 3) := by decide +kernel
theorem dX1_findClasses_45 : decode cX1_findClasses 45 = .ok (.aload_n 0, 1) := by decide +kernel
theorem dX1_findClasses_46 : decode cX1_findClasses 46 = .ok (.invokevirtual 36, 3) := by decide +kernel
theorem dX1_findClasses_49 : decode cX1_findClasses 49 = .ok (.istore_n 3, 1) := by decide +kernel
theorem dX1_findClasses_50 : decode cX1_findClasses 50 = .ok (.iload_n 3, 1) := by decide +kernel
theorem dX1_findClasses_51 : decode cX1_findClasses 51 = .ok (.iload_n 1, 1) := by decide +kernel
theorem dX1_findClasses_52 : decode cX1_findClasses 52 = .ok (.if_icmp .ne 6, 3) := by decide +kernel
theorem dX1_findClasses_55 : decode cX1_findClasses 55 = .ok (.goto 11, 3) := by decide +kernel
theorem dX1_findClasses_58 : decode cX1_findClasses 58 = .ok (.iload_n 3, 1) := by decide +kernel
theorem dX1_findClasses_59 : decode cX1_findClasses 59 = .ok (.istore_n 1, 1) := by decide +kernel
theorem dX1_findClasses_60 : decode cX1_findClasses 60 = .ok (.iinc 2 1, 3) := by decide +kernel
theorem dX1_findClasses_63 : decode cX1_findClasses 63 = .ok (.goto (-33), 3) := by decide +kernel
theorem dX1_findClasses_66 : decode cX1_findClasses 66 = .ok (.return_, 1) := by decide +kernel
set_option maxRecDepth 20000 in
theorem ggX1_noteSeenClasses_X1_classesIn : GoodIn wsX1_noteSeenClasses wsX1_classesIn := goodIn_r _ [9, 1, 2, 10, 11, 12, 13, 14, 15, 16, 17, 18, 19, 20, 21, 22, 23] (by decide +kernel) (by decide +kernel)
set_option maxRecDepth 20000 in
theorem gX1_noteSeenClasses_X1_classesIn : GoodIn wsX1_noteSeenClasses (wsV RX1 43 RX1 yX1_classesIn wsX1_classesIn) := goodIn_app (goodIn_of _ (by decide +kernel)) ggX1_noteSeenClasses_X1_classesIn
theorem dX1_noteSeenClasses_0 : decode cX1_noteSeenClasses 0 = .ok (.iconst 0, 1) := by decide +kernel
theorem dX1_noteSeenClasses_1 : decode cX1_noteSeenClasses 1 = .ok (.istore_n 1, 1) := by decide +kernel
theorem dX1_noteSeenClasses_2 : decode cX1_noteSeenClasses 2 = .ok (.iload_n 1, 1) := by decide +kernel
theorem dX1_noteSeenClasses_3 : decode cX1_noteSeenClasses 3 = .ok (.iconst 4, 1) := by decide +kernel
theorem dX1_noteSeenClasses_4 : decode cX1_noteSeenClasses 4 = .ok (.if_icmp .ge 51, 3) := by decide +kernel
theorem dX1_noteSeenClasses_7 : decode cX1_noteSeenClasses 7 = .ok (.iconst 0, 1) := by decide +kernel
theorem dX1_noteSeenClasses_8 : decode cX1_noteSeenClasses 8 = .ok (.istore_n 2, 1) := by decide +kernel
theorem dX1_noteSeenClasses_9 : decode cX1_noteSeenClasses 9 = .ok (.iload_n 2, 1) := by decide +kernel
theorem dX1_noteSeenClasses_10 : decode cX1_noteSeenClasses 10 = .ok (.aload_n 0, 1) := by decide +kernel
theorem dX1_noteSeenClasses_11 : decode cX1_noteSeenClasses 11 = .ok (.getfield 9, 3) := by decide +kernel
theorem dX1_noteSeenClasses_14 : decode cX1_noteSeenClasses 14 = .ok (.getfield 27, 3) := by decide +kernel
theorem dX1_noteSeenClasses_17 : decode cX1_noteSeenClasses 17 = .ok (.if_icmp .ge 32, 3) := by decide +kernel
theorem dX1_noteSeenClasses_20 : decode cX1_noteSeenClasses 20 = .ok (.aload_n 0, 1) := by decide +kernel
theorem dX1_noteSeenClasses_21 : decode cX1_noteSeenClasses 21 = .ok (.getfield 21, 3) := by decide +kernel
theorem dX1_noteSeenClasses_24 : decode cX1_noteSeenClasses 24 = .ok (.iload_n 1, 1) := by decide +kernel
theorem dX1_noteSeenClasses_25 : decode cX1_noteSeenClasses 25 = .ok (.aaload, 1) := by decide +kernel
theorem dX1_noteSeenClasses_26 : decode cX1_noteSeenClasses 26 = .ok (.iload_n 2, 1) := by decide +kernel
theorem dX1_noteSeenClasses_27 : decode cX1_noteSeenClasses 27 = .ok (.aload_n 0, 1) := by decide +kernel
theorem dX1_noteSeenClasses_28 : decode cX1_noteSeenClasses 28 = .ok (.aload_n 0, 1) := by decide +kernel
theorem dX1_noteSeenClasses_29 : decode cX1_noteSeenClasses 29 = .ok (.getfield 9, 3) := by decide +kernel
theorem dX1_noteSeenClasses_32 : decode cX1_noteSeenClasses 32 = .ok (.getfield 40, 3) := by decide +kernel
theorem dX1_noteSeenClasses_35 : decode cX1_noteSeenClasses 35 = .ok (.iload_n 1, 1) := by decide +kernel
theorem dX1_noteSeenClasses_36 : decode cX1_noteSeenClasses 36 = .ok (.aaload, 1) := by decide +kernel
theorem dX1_noteSeenClasses_37 : decode cX1_noteSeenClasses 37 = .ok (.iload_n 2, 1) := by decide +kernel
theorem dX1_noteSeenClasses_38 : decode cX1_noteSeenClasses 38 = .ok (.iaload, 1) := by decide +kernel
theorem dX1_noteSeenClasses_39 : decode cX1_noteSeenClasses 39 = .ok (.invokevirtual 43, 3) := by decide +kernel
theorem dX1_noteSeenClasses_42 : decode cX1_noteSeenClasses 42 = .ok (.iastore, 1) := by decide +kernel
theorem dX1_noteSeenClasses_43 : decode cX1_noteSeenClasses 43 = .ok (.iinc 2 1, 3) := by decide +kernel
theorem dX1_noteSeenClasses_46 : decode cX1_noteSeenClasses 46 = .ok (.goto (-37), 3) := by decide +kernel
theorem dX1_noteSeenClasses_49 : decode cX1_noteSeenClasses 49 = .ok (.iinc 1 1, 3) := by decide +kernel
theorem dX1_noteSeenClasses_52 : decode cX1_noteSeenClasses 52 = .ok (.goto (-50), 3) := by decide +kernel
theorem dX1_noteSeenClasses_55 : decode cX1_noteSeenClasses 55 = .ok (.return_, 1) := by decide +kernel
set_option maxRecDepth 20000 in
theorem ggX1_classesIn_X4_contains : GoodIn wsX1_classesIn wsX4_contains := goodIn_r _ [6] (by decide +kernel) (by decide +kernel)
set_option maxRecDepth 20000 in
theorem gX1_classesIn_X4_contains_n47 : GoodIn wsX1_classesIn (wsX4_contains) := ggX1_classesIn_X4_contains
set_option maxRecDepth 20000 in
theorem ggX1_classesIn_X4_single : GoodIn wsX1_classesIn wsX4_single := goodIn_r _ [8] (by decide +kernel) (by decide +kernel)
set_option maxRecDepth 20000 in
theorem gX1_classesIn_X4_single_n51 : GoodIn wsX1_classesIn (wsX4_single) := ggX1_classesIn_X4_single
theorem dX1_classesIn_0 : decode cX1_classesIn 0 = .ok (.iconst 0, 1) := by decide +kernel
theorem dX1_classesIn_1 : decode cX1_classesIn 1 = .ok (.istore_n 2, 1) := by decide +kernel
theorem dX1_classesIn_2 : decode cX1_classesIn 2 = .ok (.iconst 0, 1) := by decide +kernel
theorem dX1_classesIn_3 : decode cX1_classesIn 3 = .ok (.istore_n 3, 1) := by decide +kernel
theorem dX1_classesIn_4 : decode cX1_classesIn 4 = .ok (.iload_n 3, 1) := by decide +kernel
theorem dX1_classesIn_5 : decode cX1_classesIn 5 = .ok (.aload_n 0, 1) := by decide +kernel
theorem dX1_classesIn_6 : decode cX1_classesIn 6 = .ok (.getfield 9, 3) := by decide +kernel
theorem dX1_classesIn_9 : decode cX1_classesIn 9 = .ok (.getfield 27, 3) := by decide +kernel
theorem dX1_classesIn_12 : decode cX1_classesIn 12 = .ok (.if_icmp .ge 29, 3) := by decide +kernel
theorem dX1_classesIn_15 : decode cX1_classesIn 15 = .ok (.iload_n 1, 1) := by decide +kernel
theorem dX1_classesIn_16 : decode cX1_classesIn 16 = .ok (.iload_n 3, 1) := by decide +kernel
theorem dX1_classesIn_17 : decode cX1_classesIn 17 = .ok (.invokestatic 47, 3) := by decide +kernel
theorem dX1_classesIn_20 : decode cX1_classesIn 20 = .ok (.ifCond .eq 15, 3) := by decide +kernel
theorem dX1_classesIn_23 : decode cX1_classesIn 23 = .ok (.iload_n 2, 1) := by decide +kernel
theorem dX1_classesIn_24 : decode cX1_classesIn 24 = .ok (.aload_n 0, 1) := by decide +kernel
theorem dX1_classesIn_25 : decode cX1_classesIn 25 = .ok (.getfield 15, 3) := by decide +kernel
theorem dX1_classesIn_28 : decode cX1_classesIn 28 = .ok (.iload_n 3, 1) := by decide +kernel
theorem dX1_classesIn_29 : decode cX1_classesIn 29 = .ok (.iaload, 1) := by decide +kernel
theorem dX1_classesIn_30 : decode cX1_classesIn 30 = .ok (.invokestatic 51, 3) := by decide +kernel
theorem dX1_classesIn_33 : decode cX1_classesIn 33 = .ok (.ior, 1) := by decide +kernel
theorem dX1_classesIn_34 : decode cX1_classesIn 34 = .ok (.istore_n 2, 1) := by decide +kernel
theorem dX1_classesIn_35 : decode cX1_classesIn 35 = .ok (.iinc 3 1, 3) := by decide +kernel
theorem dX1_classesIn_38 : decode cX1_classesIn 38 = .ok (.goto (-34), 3) := by decide +kernel
theorem dX1_classesIn_41 : decode cX1_classesIn 41 = .ok (.iload_n 2, 1) := by decide +kernel
theorem dX1_classesIn_42 : decode cX1_classesIn 42 = .ok (.ireturn, 1) := by decide +kernel
set_option maxRecDepth 20000 in
theorem ggX1_split_X1_firstTwinOf : GoodIn wsX1_split wsX1_firstTwinOf := goodIn_r _ [13, 14, 15, 16, 12, 17, 4, 1, 18, 19, 20, 21, 22, 23, 24, 25, 26, 27] (by decide +kernel) (by decide +kernel)
set_option maxRecDepth 20000 in
theorem gX1_split_X1_firstTwinOf : GoodIn wsX1_split (wsV RX1 54 RX1 yX1_firstTwinOf wsX1_firstTwinOf) := goodIn_app (goodIn_of _ (by decide +kernel)) ggX1_split_X1_firstTwinOf
theorem dX1_split_0 : decode cX1_split 0 = .ok (.iconst 0, 1) := by decide +kernel
theorem dX1_split_1 : decode cX1_split 1 = .ok (.istore_n 1, 1) := by decide +kernel
theorem dX1_split_2 : decode cX1_split 2 = .ok (.iconst 0, 1) := by decide +kernel
theorem dX1_split_3 : decode cX1_split 3 = .ok (.istore_n 2, 1) := by decide +kernel
theorem dX1_split_4 : decode cX1_split 4 = .ok (.iload_n 2, 1) := by decide +kernel
theorem dX1_split_5 : decode cX1_split 5 = .ok (.aload_n 0, 1) := by decide +kernel
theorem dX1_split_6 : decode cX1_split 6 = .ok (.getfield 9, 3) := by decide +kernel
theorem dX1_split_9 : decode cX1_split 9 = .ok (.getfield 27, 3) := by decide +kernel
theorem dX1_split_12 : decode cX1_split 12 = .ok (.if_icmp .ge 45, 3) := by decide +kernel
theorem dX1_split_15 : decode cX1_split 15 = .ok (.aload_n 0, 1) := by decide +kernel
theorem dX1_split_16 : decode cX1_split 16 = .ok (.iload_n 2, 1) := by decide +kernel
theorem dX1_split_17 : decode cX1_split 17 = .ok (.invokevirtual 54, 3) := by decide +kernel
theorem dX1_split_20 : decode cX1_split 20 = .ok (.istore_n 3, 1) := by decide +kernel
theorem dX1_split_21 : decode cX1_split 21 = .ok (.iload_n 3, 1) := by decide +kernel
theorem dX1_split_22 : decode cX1_split 22 = .ok (.iload_n 2, 1) := by decide +kernel
theorem dX1_split_23 : decode cX1_split 23 = .ok (.if_icmp .ne 16, 3) := by decide +kernel
theorem dX1_split_26 : decode cX1_split 26 = .ok (.aload_n 0, 1) := by decide +kernel
theorem dX1_split_27 : decode cX1_split 27 = .ok (.getfield 24, 3) := by decide +kernel
theorem dX1_split_30 : decode cX1_split 30 = .ok (.iload_n 2, 1) := by decide +kernel
theorem dX1_split_31 : decode cX1_split 31 = .ok (.iload_n 1, 1) := by decide +kernel
theorem dX1_split_32 : decode cX1_split 32 = .ok (.iastore, 1) := by decide +kernel
theorem dX1_split_33 : decode cX1_split 33 = .ok (.iinc 1 1, 3) := by decide +kernel
theorem dX1_split_36 : decode cX1_split 36 = .ok (.goto 15, 3) := by decide +kernel
theorem dX1_split_39 : decode cX1_split 39 = .ok (.aload_n 0, 1) := by decide +kernel
theorem dX1_split_40 : decode cX1_split 40 = .ok (.getfield 24, 3) := by decide +kernel
theorem dX1_split_43 : decode cX1_split 43 = .ok (.iload_n 2, 1) := by decide +kernel
theorem dX1_split_44 : decode cX1_split 44 = .ok (.aload_n 0, 1) := by decide +kernel
theorem dX1_split_45 : decode cX1_split 45 = .ok (.getfield 24, 3) := by decide +kernel
theorem dX1_split_48 : decode cX1_split 48 = .ok (.iload_n 3, 1) := by decide +kernel
theorem dX1_split_49 : decode cX1_split 49 = .ok (.iaload, 1) := by decide +kernel
theorem dX1_split_50 : decode cX1_split 50 = .ok (.iastore, 1) := by decide +kernel
theorem dX1_split_51 : decode cX1_split 51 = .ok (.iinc 2 1, 3) := by decide +kernel
theorem dX1_split_54 : decode cX1_split 54 = .ok (.goto (-50), 3) := by decide +kernel
theorem dX1_split_57 : decode cX1_split 57 = .ok (.aload_n 0, 1) := by decide +kernel
theorem dX1_split_58 : decode cX1_split 58 = .ok (.getfield 24, 3) := by decide +kernel
theorem dX1_split_61 : decode cX1_split 61 = .ok (.iconst 0, 1) := by decide +kernel
theorem dX1_split_62 : decode cX1_split 62 = .ok (.aload_n 0, 1) := by decide +kernel
theorem dX1_split_63 : decode cX1_split 63 = .ok (.getfield 15, 3) := by decide +kernel
theorem dX1_split_66 : decode cX1_split 66 = .ok (.iconst 0, 1) := by decide +kernel
theorem dX1_split_67 : decode cX1_split 67 = .ok (.bipush 24, 2) := by decide +kernel
theorem dX1_split_69 : decode cX1_split 69 = .ok (.invokestatic 57, 3) := by decide +kernel
theorem dX1_split_72 : decode cX1_split 72 = .ok (.iload_n 1, 1) := by decide +kernel
theorem dX1_split_73 : decode cX1_split 73 = .ok (.ireturn, 1) := by decide +kernel
set_option maxRecDepth 20000 in
theorem ggX1_firstTwinOf_X1_areTwins : GoodIn wsX1_firstTwinOf wsX1_areTwins := goodIn_r _ [5, 6, 7, 8, 9, 10, 11, 12, 13, 14, 15, 16, 17] (by decide +kernel) (by decide +kernel)
set_option maxRecDepth 20000 in
theorem gX1_firstTwinOf_X1_areTwins : GoodIn wsX1_firstTwinOf (wsV RX1 63 RX1 yX1_areTwins wsX1_areTwins) := goodIn_app (goodIn_of _ (by decide +kernel)) ggX1_firstTwinOf_X1_areTwins
theorem dX1_firstTwinOf_0 : decode cX1_firstTwinOf 0 = .ok (.iconst 0, 1) := by decide +kernel
theorem dX1_firstTwinOf_1 : decode cX1_firstTwinOf 1 = .ok (.istore_n 2, 1) := by decide +kernel
theorem dX1_firstTwinOf_2 : decode cX1_firstTwinOf 2 = .ok (.iload_n 2, 1) := by decide +kernel
theorem dX1_firstTwinOf_3 : decode cX1_firstTwinOf 3 = .ok (.iload_n 1, 1) := by decide +kernel
theorem dX1_firstTwinOf_4 : decode cX1_firstTwinOf 4 = .ok (.if_icmp .ge 20, 3) := by decide +kernel
theorem dX1_firstTwinOf_7 : decode cX1_firstTwinOf 7 = .ok (.aload_n 0, 1) := by decide +kernel
theorem dX1_firstTwinOf_8 : decode cX1_firstTwinOf 8 = .ok (.iload_n 2, 1) := by decide +kernel
theorem dX1_firstTwinOf_9 : decode cX1_firstTwinOf 9 = .ok (.iload_n 1, 1) := by decide +kernel
theorem dX1_firstTwinOf_10 : decode cX1_firstTwinOf 10 = .ok (.invokevirtual 63, 3) := by decide +kernel
theorem dX1_firstTwinOf_13 : decode cX1_firstTwinOf 13 = .ok (.ifCond .eq 5, 3) := by decide +kernel
theorem dX1_firstTwinOf_16 : decode cX1_firstTwinOf 16 = .ok (.iload_n 2, 1) := by decide +kernel
theorem dX1_firstTwinOf_17 : decode cX1_firstTwinOf 17 = .ok (.ireturn, 1) := by decide +kernel
theorem dX1_firstTwinOf_18 : decode cX1_firstTwinOf 18 = .ok (.iinc 2 1, 3) := by decide +kernel
theorem dX1_firstTwinOf_21 : decode cX1_firstTwinOf 21 = .ok (.goto (-19), 3) := by decide +kernel
theorem dX1_firstTwinOf_24 : decode cX1_firstTwinOf 24 = .ok (.iload_n 1, 1) := by decide +kernel
theorem dX1_firstTwinOf_25 : decode cX1_firstTwinOf 25 = .ok (.ireturn, 1) := by decide +kernel
theorem dX1_areTwins_0 : decode cX1_areTwins 0 = .ok (.aload_n 0, 1) := by decide +kernel
theorem dX1_areTwins_1 : decode cX1_areTwins 1 = .ok (.getfield 15, 3) := by decide +kernel
theorem dX1_areTwins_4 : decode cX1_areTwins 4 = .ok (.iload_n 1, 1) := by decide +kernel
theorem dX1_areTwins_5 : decode cX1_areTwins 5 = .ok (.iaload, 1) := by decide +kernel
theorem dX1_areTwins_6 : decode cX1_areTwins 6 = .ok (.aload_n 0, 1) := by decide +kernel
theorem dX1_areTwins_7 : decode cX1_areTwins 7 = .ok (.getfield 15, 3) := by decide +kernel
theorem dX1_areTwins_10 : decode cX1_areTwins 10 = .ok (.iload_n 2, 1) := by decide +kernel
theorem dX1_areTwins_11 : decode cX1_areTwins 11 = .ok (.iaload, 1) := by decide +kernel
theorem dX1_areTwins_12 : decode cX1_areTwins 12 = .ok (.if_icmp .ne 24, 3) := by decide +kernel
theorem dX1_areTwins_15 : decode cX1_areTwins 15 = .ok (.aload_n 0, 1) := by decide +kernel
theorem dX1_areTwins_16 : decode cX1_areTwins 16 = .ok (.getfield 9, 3) := by decide +kernel
theorem dX1_areTwins_19 : decode cX1_areTwins 19 = .ok (.getfield 66, 3) := by decide +kernel
theorem dX1_areTwins_22 : decode cX1_areTwins 22 = .ok (.iload_n 1, 1) := by decide +kernel
theorem dX1_areTwins_23 : decode cX1_areTwins 23 = .ok (.iaload, 1) := by decide +kernel
theorem dX1_areTwins_24 : decode cX1_areTwins 24 = .ok (.aload_n 0, 1) := by decide +kernel
theorem dX1_areTwins_25 : decode cX1_areTwins 25 = .ok (.getfield 9, 3) := by decide +kernel
theorem dX1_areTwins_28 : decode cX1_areTwins 28 = .ok (.getfield 66, 3) := by decide +kernel
theorem dX1_areTwins_31 : decode cX1_areTwins 31 = .ok (.iload_n 2, 1) := by decide +kernel
theorem dX1_areTwins_32 : decode cX1_areTwins 32 = .ok (.iaload, 1) := by decide +kernel
theorem dX1_areTwins_33 : decode cX1_areTwins 33 = .ok (.if_icmp .eq 5, 3) := by decide +kernel
theorem dX1_areTwins_36 : decode cX1_areTwins 36 = .ok (.iconst 0, 1) := by decide +kernel
theorem dX1_areTwins_37 : decode cX1_areTwins 37 = .ok (.ireturn, 1) := by decide +kernel
theorem dX1_areTwins_38 : decode cX1_areTwins 38 = .ok (.iconst 0, 1) := by decide +kernel
theorem dX1_areTwins_39 : decode cX1_areTwins 39 = .ok (.istore_n 3, 1) := by decide +kernel
theorem dX1_areTwins_40 : decode cX1_areTwins 40 = .ok (.iload_n 3, 1) := by decide +kernel
theorem dX1_areTwins_41 : decode cX1_areTwins 41 = .ok (.iconst 4, 1) := by decide +kernel
theorem dX1_areTwins_42 : decode cX1_areTwins 42 = .ok (.if_icmp .ge 30, 3) := by decide +kernel
theorem dX1_areTwins_45 : decode cX1_areTwins 45 = .ok (.aload_n 0, 1) := by decide +kernel
theorem dX1_areTwins_46 : decode cX1_areTwins 46 = .ok (.getfield 21, 3) := by decide +kernel
theorem dX1_areTwins_49 : decode cX1_areTwins 49 = .ok (.iload_n 3, 1) := by decide +kernel
theorem dX1_areTwins_50 : decode cX1_areTwins 50 = .ok (.aaload, 1) := by decide +kernel
theorem dX1_areTwins_51 : decode cX1_areTwins 51 = .ok (.iload_n 1, 1) := by decide +kernel
theorem dX1_areTwins_52 : decode cX1_areTwins 52 = .ok (.iaload, 1) := by decide +kernel
theorem dX1_areTwins_53 : decode cX1_areTwins 53 = .ok (.aload_n 0, 1) := by decide +kernel
theorem dX1_areTwins_54 : decode cX1_areTwins 54 = .ok (.getfield 21, 3) := by decide +kernel
theorem dX1_areTwins_57 : decode cX1_areTwins 57 = .ok (.iload_n 3, 1) := by decide +kernel
theorem dX1_areTwins_58 : decode cX1_areTwins 58 = .ok (.aaload, 1) := by decide +kernel
theorem dX1_areTwins_59 : decode cX1_areTwins 59 = .ok (.iload_n 2, 1) := by decide +kernel
theorem dX1_areTwins_60 : decode cX1_areTwins 60 = .ok (.iaload, 1) := by decide +kernel
theorem dX1_areTwins_61 : decode cX1_areTwins 61 = .ok (.if_icmp .eq 5, 3) := by decide +kernel
theorem dX1_areTwins_64 : decode cX1_areTwins 64 = .ok (.iconst 0, 1) := by decide +kernel
theorem dX1_areTwins_65 : decode cX1_areTwins 65 = .ok (.ireturn, 1) := by decide +kernel
theorem dX1_areTwins_66 : decode cX1_areTwins 66 = .ok (.iinc 3 1, 3) := by decide +kernel
theorem dX1_areTwins_69 : decode cX1_areTwins 69 = .ok (.goto (-29), 3) := by decide +kernel
theorem dX1_areTwins_72 : decode cX1_areTwins 72 = .ok (.iconst 1, 1) := by decide +kernel
theorem dX1_areTwins_73 : decode cX1_areTwins 73 = .ok (.ireturn, 1) := by decide +kernel
theorem dX2_init_0 : decode cX2_init 0 = .ok (.aload_n 0, 1) := by decide +kernel
theorem dX2_init_1 : decode cX2_init 1 = .ok (.invokespecial 3, 3) := by decide +kernel
theorem dX2_init_4 : decode cX2_init 4 = .ok (.aload_n 0, 1) := by decide +kernel
theorem dX2_init_5 : decode cX2_init 5 = .ok (.aload_n 1, 1) := by decide +kernel
theorem dX2_init_6 : decode cX2_init 6 = .ok (.putfield 9, 3) := by decide +kernel
theorem dX2_init_9 : decode cX2_init 9 = .ok (.aload_n 0, 1) := by decide +kernel
theorem dX2_init_10 : decode cX2_init 10 = .ok (.aload_n 2, 1) := by decide +kernel
theorem dX2_init_11 : decode cX2_init 11 = .ok (.putfield 15, 3) := by decide +kernel
theorem dX2_init_14 : decode cX2_init 14 = .ok (.aload_n 0, 1) := by decide +kernel
theorem dX2_init_15 : decode cX2_init 15 = .ok (.iconst 3, 1) := by decide +kernel
theorem dX2_init_16 : decode cX2_init 16 = .ok (.bipush 40, 2) := by decide +kernel
theorem dX2_init_18 : decode cX2_init 18 = .ok (.multianewarray 19 2, 4) := by decide +kernel
theorem dX2_init_22 : decode cX2_init 22 = .ok (.putfield 21, 3) := by decide +kernel
theorem dX2_init_25 : decode cX2_init 25 = .ok (.return_, 1) := by decide +kernel
set_option maxRecDepth 20000 in
theorem ggX2_worldsOf_X3_all : GoodIn wsX2_worldsOf wsX3_all := goodIn_r _ [6, 7, 56, 57, 58, 59] (by decide +kernel) (by decide +kernel)
set_option maxRecDepth 20000 in
theorem gX2_worldsOf_X3_all : GoodIn wsX2_worldsOf (wsV RX2 24 RX3 yX3_all wsX3_all) := goodIn_app (goodIn_of _ (by decide +kernel)) ggX2_worldsOf_X3_all
set_option maxRecDepth 20000 in
theorem ggX2_worldsOf_X2_valueIn : GoodIn wsX2_worldsOf wsX2_valueIn := goodIn_r _ [12, 13, 14, 15, 16, 17, 18, 11, 19, 20, 21, 22, 23, 1, 24, 25, 26, 5, 27, 7, 28, 29, 30, 31, 32, 33, 34, 35, 36, 37, 38, 39, 40, 41, 42, 43, 44, 3, 4, 6, 45, 46, 47, 48, 49, 50, 51, 52, 8, 9, 10, 53, 54, 55, 60, 61, 62, 63, 64, 65, 66, 67, 56, 57, 58, 59] (by decide +kernel) (by decide +kernel)
set_option maxRecDepth 20000 in
theorem gX2_worldsOf_X2_valueIn : GoodIn wsX2_worldsOf (wsV RX2 30 RX2 yX2_valueIn wsX2_valueIn) := goodIn_app (goodIn_of _ (by decide +kernel)) ggX2_worldsOf_X2_valueIn
theorem dX2_worldsOf_0 : decode cX2_worldsOf 0 = .ok (.aload_n 0, 1) := by decide +kernel
theorem dX2_worldsOf_1 : decode cX2_worldsOf 1 = .ok (.iconst 0, 1) := by decide +kernel
theorem dX2_worldsOf_2 : decode cX2_worldsOf 2 = .ok (.aload_n 0, 1) := by decide +kernel
theorem dX2_worldsOf_3 : decode cX2_worldsOf 3 = .ok (.getfield 9, 3) := by decide +kernel
theorem dX2_worldsOf_6 : decode cX2_worldsOf 6 = .ok (.invokevirtual 24, 3) := by decide +kernel
theorem dX2_worldsOf_9 : decode cX2_worldsOf 9 = .ok (.iload_n 1, 1) := by decide +kernel
theorem dX2_worldsOf_10 : decode cX2_worldsOf 10 = .ok (.invokevirtual 30, 3) := by decide +kernel
theorem dX2_worldsOf_13 : decode cX2_worldsOf 13 = .ok (.ireturn, 1) := by decide +kernel
set_option maxRecDepth 20000 in
theorem ggX2_valueIn_X2_valueFromParts : GoodIn wsX2_valueIn wsX2_valueFromParts := goodIn_r _ [8, 1, 9, 10, 11, 3, 12, 13, 14, 15, 16, 17, 18, 19, 20, 21, 22, 23, 24, 25, 26, 27, 28, 7, 29, 30, 31, 32, 33, 34, 35, 36, 37, 38, 39, 40, 41, 42, 43, 44, 45, 46, 47, 48, 49, 50, 0, 2, 4, 5, 6, 51, 52, 53, 54, 55, 56, 57, 58, 59, 60, 61, 62, 63, 64, 65] (by decide +kernel) (by decide +kernel)
set_option maxRecDepth 20000 in
theorem gX2_valueIn_X2_valueFromParts : GoodIn wsX2_valueIn (wsV RX2 40 RX2 yX2_valueFromParts wsX2_valueFromParts) := goodIn_app (goodIn_of _ (by decide +kernel)) ggX2_valueIn_X2_valueFromParts
theorem dX2_valueIn_0 : decode cX2_valueIn 0 = .ok (.iload_n 1, 1) := by decide +kernel
theorem dX2_valueIn_1 : decode cX2_valueIn 1 = .ok (.iconst 2, 1) := by decide +kernel
theorem dX2_valueIn_2 : decode cX2_valueIn 2 = .ok (.if_icmp .le 5, 3) := by decide +kernel
theorem dX2_valueIn_5 : decode cX2_valueIn 5 = .ok (.iconst 0, 1) := by decide +kernel
theorem dX2_valueIn_6 : decode cX2_valueIn 6 = .ok (.ireturn, 1) := by decide +kernel
theorem dX2_valueIn_7 : decode cX2_valueIn 7 = .ok (.aload_n 0, 1) := by decide +kernel
theorem dX2_valueIn_8 : decode cX2_valueIn 8 = .ok (.getfield 15, 3) := by decide +kernel
theorem dX2_valueIn_11 : decode cX2_valueIn 11 = .ok (.getfield 34, 3) := by decide +kernel
theorem dX2_valueIn_14 : decode cX2_valueIn 14 = .ok (.iload_n 3, 1) := by decide +kernel
theorem dX2_valueIn_15 : decode cX2_valueIn 15 = .ok (.laload, 1) := by decide +kernel
theorem dX2_valueIn_16 : decode cX2_valueIn 16 = .ok (.lstore 4, 2) := by decide +kernel
theorem dX2_valueIn_18 : decode cX2_valueIn 18 = .ok (.iconst 0, 1) := by decide +kernel
theorem dX2_valueIn_19 : decode cX2_valueIn 19 = .ok (.istore 6, 2) := by decide +kernel
theorem dX2_valueIn_21 : decode cX2_valueIn 21 = .ok (.iload 6, 2) := by decide +kernel
theorem dX2_valueIn_23 : decode cX2_valueIn 23 = .ok (.iload_n 3, 1) := by decide +kernel
theorem dX2_valueIn_24 : decode cX2_valueIn 24 = .ok (.if_icmp .gt 38, 3) := by decide +kernel
theorem dX2_valueIn_27 : decode cX2_valueIn 27 = .ok (.lload 4, 2) := by decide +kernel
theorem dX2_valueIn_29 : decode cX2_valueIn 29 = .ok (.iload 6, 2) := by decide +kernel
theorem dX2_valueIn_31 : decode cX2_valueIn 31 = .ok (.lshr, 1) := by decide +kernel
theorem dX2_valueIn_32 : decode cX2_valueIn 32 = .ok (.lconst 1, 1) := by decide +kernel
theorem dX2_valueIn_33 : decode cX2_valueIn 33 = .ok (.land, 1) := by decide +kernel
theorem dX2_valueIn_34 : decode cX2_valueIn 34 = .ok (.lconst 0, 1) := by decide +kernel
theorem dX2_valueIn_35 : decode cX2_valueIn 35 = .ok (.lcmp, 1) := by decide +kernel
theorem dX2_valueIn_36 : decode cX2_valueIn 36 = .ok (.ifCond .eq 20, 3) := by decide +kernel
theorem dX2_valueIn_39 : decode cX2_valueIn 39 = .ok (.aload_n 0, 1) := by decide +kernel
theorem dX2_valueIn_40 : decode cX2_valueIn 40 = .ok (.getfield 21, 3) := by decide +kernel
theorem dX2_valueIn_43 : decode cX2_valueIn 43 = .ok (.iload_n 1, 1) := by decide +kernel
theorem dX2_valueIn_44 : decode cX2_valueIn 44 = .ok (.aaload, 1) := by decide +kernel
theorem dX2_valueIn_45 : decode cX2_valueIn 45 = .ok (.iload 6, 2) := by decide +kernel
theorem dX2_valueIn_47 : decode cX2_valueIn 47 = .ok (.aload_n 0, 1) := by decide +kernel
theorem dX2_valueIn_48 : decode cX2_valueIn 48 = .ok (.iload_n 1, 1) := by decide +kernel
theorem dX2_valueIn_49 : decode cX2_valueIn 49 = .ok (.iload_n 2, 1) := by decide +kernel
theorem dX2_valueIn_50 : decode cX2_valueIn 50 = .ok (.iload 6, 2) := by decide +kernel
theorem dX2_valueIn_52 : decode cX2_valueIn 52 = .ok (.invokevirtual 40, 3) := by decide +kernel
theorem dX2_valueIn_55 : decode cX2_valueIn 55 = .ok (.iastore, 1) := by decide +kernel
theorem dX2_valueIn_56 : decode cX2_valueIn 56 = .ok (.iinc 6 1, 3) := by decide +kernel
theorem dX2_valueIn_59 : decode cX2_valueIn 59 = .ok (.goto (-38), 3) := by decide +kernel
theorem dX2_valueIn_62 : decode cX2_valueIn 62 = .ok (.aload_n 0, 1) := by decide +kernel
theorem dX2_valueIn_63 : decode cX2_valueIn 63 = .ok (.getfield 21, 3) := by decide +kernel
theorem dX2_valueIn_66 : decode cX2_valueIn 66 = .ok (.iload_n 1, 1) := by decide +kernel
theorem dX2_valueIn_67 : decode cX2_valueIn 67 = .ok (.aaload, 1) := by decide +kernel
theorem dX2_valueIn_68 : decode cX2_valueIn 68 = .ok (.iload_n 3, 1) := by decide +kernel
theorem dX2_valueIn_69 : decode cX2_valueIn 69 = .ok (.iaload, 1) := by decide +kernel
theorem dX2_valueIn_70 : decode cX2_valueIn 70 = .ok (.ireturn, 1) := by decide +kernel
set_option maxRecDepth 20000 in
theorem ggX2_valueFromParts_X3_worldsWith : GoodIn wsX2_valueFromParts wsX3_worldsWith := goodIn_r _ [12, 13, 14, 15, 16, 17, 18, 19, 62, 63, 64, 65] (by decide +kernel) (by decide +kernel)
set_option maxRecDepth 20000 in
theorem gX2_valueFromParts_X3_worldsWith : GoodIn wsX2_valueFromParts (wsV RX2 56 RX3 yX3_worldsWith wsX3_worldsWith) := goodIn_app (goodIn_of _ (by decide +kernel)) ggX2_valueFromParts_X3_worldsWith
set_option maxRecDepth 20000 in
theorem ggX2_valueFromParts_X2_whereAllSeenAreIn : GoodIn wsX2_valueFromParts wsX2_whereAllSeenAreIn := goodIn_r _ [24, 7, 25, 15, 16, 17, 26, 27, 28, 11, 29, 30, 31, 32, 33, 34, 13, 18, 19, 51, 52, 53, 62, 63, 64, 65] (by decide +kernel) (by decide +kernel)
set_option maxRecDepth 20000 in
theorem gX2_valueFromParts_X2_whereAllSeenAreIn : GoodIn wsX2_valueFromParts (wsV RX2 60 RX2 yX2_whereAllSeenAreIn wsX2_whereAllSeenAreIn) := goodIn_app (goodIn_of _ (by decide +kernel)) ggX2_valueFromParts_X2_whereAllSeenAreIn
set_option maxRecDepth 20000 in
theorem ggX2_valueFromParts_X2_whereAllReachedAreIn : GoodIn wsX2_valueFromParts wsX2_whereAllReachedAreIn := goodIn_r _ [38, 7, 25, 15, 16, 17, 39, 40, 41, 11, 42, 30, 18, 19, 51, 52, 53, 62, 63, 64, 65] (by decide +kernel) (by decide +kernel)
set_option maxRecDepth 20000 in
theorem gX2_valueFromParts_X2_whereAllReachedAreIn : GoodIn wsX2_valueFromParts (wsV RX2 63 RX2 yX2_whereAllReachedAreIn wsX2_whereAllReachedAreIn) := goodIn_app (goodIn_of _ (by decide +kernel)) ggX2_valueFromParts_X2_whereAllReachedAreIn
set_option maxRecDepth 20000 in
theorem ggX2_valueFromParts_X2_valueIn : GoodIn wsX2_valueFromParts wsX2_valueIn := goodIn_r _ [46, 1, 47, 5, 48, 49, 50, 23, 0, 2, 3, 4, 6, 7, 8, 9, 10, 11, 12, 13, 14, 15, 16, 17, 18, 19, 20, 21, 22, 24, 25, 26, 27, 28, 29, 30, 31, 32, 33, 34, 35, 36, 37, 38, 39, 40, 41, 42, 43, 44, 45, 51, 52, 53, 54, 55, 56, 57, 58, 59, 60, 61, 62, 63, 64, 65] (by decide +kernel) (by decide +kernel)
set_option maxRecDepth 20000 in
theorem gX2_valueFromParts_X2_valueIn : GoodIn wsX2_valueFromParts (wsV RX2 30 RX2 yX2_valueIn wsX2_valueIn) := goodIn_app (goodIn_of _ (by decide +kernel)) ggX2_valueFromParts_X2_valueIn
theorem dX2_valueFromParts_0 : decode cX2_valueFromParts 0 = .ok (.aload_n 0, 1) := by decide +kernel
theorem dX2_valueFromParts_1 : decode cX2_valueFromParts 1 = .ok (.getfield 15, 3) := by decide +kernel
theorem dX2_valueFromParts_4 : decode cX2_valueFromParts 4 = .ok (.getfield 43, 3) := by decide +kernel
theorem dX2_valueFromParts_7 : decode cX2_valueFromParts 7 = .ok (.iload_n 3, 1) := by decide +kernel
theorem dX2_valueFromParts_8 : decode cX2_valueFromParts 8 = .ok (.iaload, 1) := by decide +kernel
theorem dX2_valueFromParts_9 : decode cX2_valueFromParts 9 = .ok (.istore 4, 2) := by decide +kernel
theorem dX2_valueFromParts_11 : decode cX2_valueFromParts 11 = .ok (.aload_n 0, 1) := by decide +kernel
theorem dX2_valueFromParts_12 : decode cX2_valueFromParts 12 = .ok (.getfield 15, 3) := by decide +kernel
theorem dX2_valueFromParts_15 : decode cX2_valueFromParts 15 = .ok (.getfield 47, 3) := by decide +kernel
theorem dX2_valueFromParts_18 : decode cX2_valueFromParts 18 = .ok (.iload_n 3, 1) := by decide +kernel
theorem dX2_valueFromParts_19 : decode cX2_valueFromParts 19 = .ok (.iaload, 1) := by decide +kernel
theorem dX2_valueFromParts_20 : decode cX2_valueFromParts 20 = .ok (.istore 5, 2) := by decide +kernel
theorem dX2_valueFromParts_22 : decode cX2_valueFromParts 22 = .ok (.aload_n 0, 1) := by decide +kernel
theorem dX2_valueFromParts_23 : decode cX2_valueFromParts 23 = .ok (.getfield 15, 3) := by decide +kernel
theorem dX2_valueFromParts_26 : decode cX2_valueFromParts 26 = .ok (.getfield 50, 3) := by decide +kernel
theorem dX2_valueFromParts_29 : decode cX2_valueFromParts 29 = .ok (.iload_n 3, 1) := by decide +kernel
theorem dX2_valueFromParts_30 : decode cX2_valueFromParts 30 = .ok (.iaload, 1) := by decide +kernel
theorem dX2_valueFromParts_31 : decode cX2_valueFromParts 31 = .ok (.istore 6, 2) := by decide +kernel
theorem dX2_valueFromParts_33 : decode cX2_valueFromParts 33 = .ok (.iload 5, 2) := by decide +kernel
theorem dX2_valueFromParts_35 : decode cX2_valueFromParts 35 = .ok (.iconst (-1), 1) := by decide +kernel
theorem dX2_valueFromParts_36 : decode cX2_valueFromParts 36 = .ok (.if_icmp .ne 7, 3) := by decide +kernel
theorem dX2_valueFromParts_39 : decode cX2_valueFromParts 39 = .ok (.iconst 0, 1) := by decide +kernel
theorem dX2_valueFromParts_40 : decode cX2_valueFromParts 40 = .ok (.goto 12, 3) := by decide +kernel
theorem dX2_valueFromParts_43 : decode cX2_valueFromParts 43 = .ok (.aload_n 0, 1) := by decide +kernel
theorem dX2_valueFromParts_44 : decode cX2_valueFromParts 44 = .ok (.getfield 21, 3) := by decide +kernel
theorem dX2_valueFromParts_47 : decode cX2_valueFromParts 47 = .ok (.iload_n 1, 1) := by decide +kernel
theorem dX2_valueFromParts_48 : decode cX2_valueFromParts 48 = .ok (.aaload, 1) := by decide +kernel
theorem dX2_valueFromParts_49 : decode cX2_valueFromParts 49 = .ok (.iload 5, 2) := by decide +kernel
theorem dX2_valueFromParts_51 : decode cX2_valueFromParts 51 = .ok (.iaload, 1) := by decide +kernel
theorem dX2_valueFromParts_52 : decode cX2_valueFromParts 52 = .ok (.istore 7, 2) := by decide +kernel
theorem dX2_valueFromParts_54 : decode cX2_valueFromParts 54 = .ok (.aload_n 0, 1) := by decide +kernel
theorem dX2_valueFromParts_55 : decode cX2_valueFromParts 55 = .ok (.getfield 15, 3) := by decide +kernel
theorem dX2_valueFromParts_58 : decode cX2_valueFromParts 58 = .ok (.getfield 53, 3) := by decide +kernel
theorem dX2_valueFromParts_61 : decode cX2_valueFromParts 61 = .ok (.iload_n 3, 1) := by decide +kernel
theorem dX2_valueFromParts_62 : decode cX2_valueFromParts 62 = .ok (.iaload, 1) := by decide +kernel
theorem dX2_valueFromParts_63 : decode cX2_valueFromParts 63 = .ok (.tableswitch 132 0 6 #[41, 53, 60, 83, 93, 83, 103], 41) := by decide +kernel
theorem dX2_valueFromParts_104 : decode cX2_valueFromParts 104 = .ok (.iload_n 2, 1) := by decide +kernel
theorem dX2_valueFromParts_105 : decode cX2_valueFromParts 105 = .ok (.aload_n 0, 1) := by decide +kernel
theorem dX2_valueFromParts_106 : decode cX2_valueFromParts 106 = .ok (.getfield 9, 3) := by decide +kernel
theorem dX2_valueFromParts_109 : decode cX2_valueFromParts 109 = .ok (.iload 4, 2) := by decide +kernel
theorem dX2_valueFromParts_111 : decode cX2_valueFromParts 111 = .ok (.invokevirtual 56, 3) := by decide +kernel
theorem dX2_valueFromParts_114 : decode cX2_valueFromParts 114 = .ok (.iand, 1) := by decide +kernel
theorem dX2_valueFromParts_115 : decode cX2_valueFromParts 115 = .ok (.ireturn, 1) := by decide +kernel
theorem dX2_valueFromParts_116 : decode cX2_valueFromParts 116 = .ok (.iload_n 2, 1) := by decide +kernel
theorem dX2_valueFromParts_117 : decode cX2_valueFromParts 117 = .ok (.iload 7, 2) := by decide +kernel
theorem dX2_valueFromParts_119 : decode cX2_valueFromParts 119 = .ok (.iconst (-1), 1) := by decide +kernel
theorem dX2_valueFromParts_120 : decode cX2_valueFromParts 120 = .ok (.ixor, 1) := by decide +kernel
theorem dX2_valueFromParts_121 : decode cX2_valueFromParts 121 = .ok (.iand, 1) := by decide +kernel
theorem dX2_valueFromParts_122 : decode cX2_valueFromParts 122 = .ok (.ireturn, 1) := by decide +kernel
theorem dX2_valueFromParts_123 : decode cX2_valueFromParts 123 = .ok (.iload 6, 2) := by decide +kernel
theorem dX2_valueFromParts_125 : decode cX2_valueFromParts 125 = .ok (.iconst (-1), 1) := by decide +kernel
theorem dX2_valueFromParts_126 : decode cX2_valueFromParts 126 = .ok (.if_icmp .ne 7, 3) := by decide +kernel
theorem dX2_valueFromParts_129 : decode cX2_valueFromParts 129 = .ok (.iconst 0, 1) := by decide +kernel
theorem dX2_valueFromParts_130 : decode cX2_valueFromParts 130 = .ok (.goto 15, 3) := by decide +kernel
theorem dX2_valueFromParts_133 : decode cX2_valueFromParts 133 = .ok (.iload 7, 2) := by decide +kernel
theorem dX2_valueFromParts_135 : decode cX2_valueFromParts 135 = .ok (.aload_n 0, 1) := by decide +kernel
theorem dX2_valueFromParts_136 : decode cX2_valueFromParts 136 = .ok (.getfield 21, 3) := by decide +kernel
theorem dX2_valueFromParts_139 : decode cX2_valueFromParts 139 = .ok (.iload_n 1, 1) := by decide +kernel
theorem dX2_valueFromParts_140 : decode cX2_valueFromParts 140 = .ok (.aaload, 1) := by decide +kernel
theorem dX2_valueFromParts_141 : decode cX2_valueFromParts 141 = .ok (.iload 6, 2) := by decide +kernel
theorem dX2_valueFromParts_143 : decode cX2_valueFromParts 143 = .ok (.iaload, 1) := by decide +kernel
theorem dX2_valueFromParts_144 : decode cX2_valueFromParts 144 = .ok (.iand, 1) := by decide +kernel
theorem dX2_valueFromParts_145 : decode cX2_valueFromParts 145 = .ok (.ireturn, 1) := by decide +kernel
theorem dX2_valueFromParts_146 : decode cX2_valueFromParts 146 = .ok (.aload_n 0, 1) := by decide +kernel
theorem dX2_valueFromParts_147 : decode cX2_valueFromParts 147 = .ok (.iload 7, 2) := by decide +kernel
theorem dX2_valueFromParts_149 : decode cX2_valueFromParts 149 = .ok (.iload 4, 2) := by decide +kernel
theorem dX2_valueFromParts_151 : decode cX2_valueFromParts 151 = .ok (.iload_n 2, 1) := by decide +kernel
theorem dX2_valueFromParts_152 : decode cX2_valueFromParts 152 = .ok (.invokevirtual 60, 3) := by decide +kernel
theorem dX2_valueFromParts_155 : decode cX2_valueFromParts 155 = .ok (.ireturn, 1) := by decide +kernel
theorem dX2_valueFromParts_156 : decode cX2_valueFromParts 156 = .ok (.aload_n 0, 1) := by decide +kernel
theorem dX2_valueFromParts_157 : decode cX2_valueFromParts 157 = .ok (.iload 7, 2) := by decide +kernel
theorem dX2_valueFromParts_159 : decode cX2_valueFromParts 159 = .ok (.iload 4, 2) := by decide +kernel
theorem dX2_valueFromParts_161 : decode cX2_valueFromParts 161 = .ok (.iload_n 2, 1) := by decide +kernel
theorem dX2_valueFromParts_162 : decode cX2_valueFromParts 162 = .ok (.invokevirtual 63, 3) := by decide +kernel
theorem dX2_valueFromParts_165 : decode cX2_valueFromParts 165 = .ok (.ireturn, 1) := by decide +kernel
theorem dX2_valueFromParts_166 : decode cX2_valueFromParts 166 = .ok (.iload 6, 2) := by decide +kernel
theorem dX2_valueFromParts_168 : decode cX2_valueFromParts 168 = .ok (.iconst (-1), 1) := by decide +kernel
theorem dX2_valueFromParts_169 : decode cX2_valueFromParts 169 = .ok (.if_icmp .ne 7, 3) := by decide +kernel
theorem dX2_valueFromParts_172 : decode cX2_valueFromParts 172 = .ok (.iconst 0, 1) := by decide +kernel
theorem dX2_valueFromParts_173 : decode cX2_valueFromParts 173 = .ok (.goto 21, 3) := by decide +kernel
theorem dX2_valueFromParts_176 : decode cX2_valueFromParts 176 = .ok (.iload_n 2, 1) := by decide +kernel
theorem dX2_valueFromParts_177 : decode cX2_valueFromParts 177 = .ok (.iload 7, 2) := by decide +kernel
theorem dX2_valueFromParts_179 : decode cX2_valueFromParts 179 = .ok (.iconst (-1), 1) := by decide +kernel
theorem dX2_valueFromParts_180 : decode cX2_valueFromParts 180 = .ok (.ixor, 1) := by decide +kernel
theorem dX2_valueFromParts_181 : decode cX2_valueFromParts 181 = .ok (.iand, 1) := by decide +kernel
theorem dX2_valueFromParts_182 : decode cX2_valueFromParts 182 = .ok (.aload_n 0, 1) := by decide +kernel
theorem dX2_valueFromParts_183 : decode cX2_valueFromParts 183 = .ok (.iload_n 1, 1) := by decide +kernel
theorem dX2_valueFromParts_184 : decode cX2_valueFromParts 184 = .ok (.iconst 1, 1) := by decide +kernel
theorem dX2_valueFromParts_185 : decode cX2_valueFromParts 185 = .ok (.iadd, 1) := by decide +kernel
theorem dX2_valueFromParts_186 : decode cX2_valueFromParts 186 = .ok (.iload 7, 2) := by decide +kernel
theorem dX2_valueFromParts_188 : decode cX2_valueFromParts 188 = .ok (.iload 6, 2) := by decide +kernel
theorem dX2_valueFromParts_190 : decode cX2_valueFromParts 190 = .ok (.invokevirtual 30, 3) := by decide +kernel
theorem dX2_valueFromParts_193 : decode cX2_valueFromParts 193 = .ok (.ior, 1) := by decide +kernel
theorem dX2_valueFromParts_194 : decode cX2_valueFromParts 194 = .ok (.ireturn, 1) := by decide +kernel
theorem dX2_valueFromParts_195 : decode cX2_valueFromParts 195 = .ok (.iconst 0, 1) := by decide +kernel
theorem dX2_valueFromParts_196 : decode cX2_valueFromParts 196 = .ok (.ireturn, 1) := by decide +kernel
set_option maxRecDepth 20000 in
theorem ggX2_whereAllSeenAreIn_X4_contains : GoodIn wsX2_whereAllSeenAreIn wsX4_contains := goodIn_r _ [5] (by decide +kernel) (by decide +kernel)
set_option maxRecDepth 20000 in
theorem gX2_whereAllSeenAreIn_X4_contains_n70 : GoodIn wsX2_whereAllSeenAreIn (wsX4_contains) := ggX2_whereAllSeenAreIn_X4_contains
set_option maxRecDepth 20000 in
theorem ggX2_whereAllSeenAreIn_X3_seenByEvery : GoodIn wsX2_whereAllSeenAreIn wsX3_seenByEvery := goodIn_r _ [10, 11, 12, 13, 14, 9, 15, 16, 3, 4, 5, 22, 23, 24, 25] (by decide +kernel) (by decide +kernel)
set_option maxRecDepth 20000 in
theorem gX2_whereAllSeenAreIn_X3_seenByEvery : GoodIn wsX2_whereAllSeenAreIn (wsV RX2 74 RX3 yX3_seenByEvery wsX3_seenByEvery) := goodIn_app (goodIn_of _ (by decide +kernel)) ggX2_whereAllSeenAreIn_X3_seenByEvery
set_option maxRecDepth 20000 in
theorem ggX2_whereAllSeenAreIn_X4_single : GoodIn wsX2_whereAllSeenAreIn wsX4_single := goodIn_r _ [18] (by decide +kernel) (by decide +kernel)
set_option maxRecDepth 20000 in
theorem gX2_whereAllSeenAreIn_X4_single_n78 : GoodIn wsX2_whereAllSeenAreIn (wsX4_single) := ggX2_whereAllSeenAreIn_X4_single
theorem dX2_whereAllSeenAreIn_0 : decode cX2_whereAllSeenAreIn 0 = .ok (.iload_n 3, 1) := by decide +kernel
theorem dX2_whereAllSeenAreIn_1 : decode cX2_whereAllSeenAreIn 1 = .ok (.iload_n 1, 1) := by decide +kernel
theorem dX2_whereAllSeenAreIn_2 : decode cX2_whereAllSeenAreIn 2 = .ok (.iconst (-1), 1) := by decide +kernel
theorem dX2_whereAllSeenAreIn_3 : decode cX2_whereAllSeenAreIn 3 = .ok (.ixor, 1) := by decide +kernel
theorem dX2_whereAllSeenAreIn_4 : decode cX2_whereAllSeenAreIn 4 = .ok (.iand, 1) := by decide +kernel
theorem dX2_whereAllSeenAreIn_5 : decode cX2_whereAllSeenAreIn 5 = .ok (.istore 4, 2) := by decide +kernel
theorem dX2_whereAllSeenAreIn_7 : decode cX2_whereAllSeenAreIn 7 = .ok (.iconst 0, 1) := by decide +kernel
theorem dX2_whereAllSeenAreIn_8 : decode cX2_whereAllSeenAreIn 8 = .ok (.istore 5, 2) := by decide +kernel
theorem dX2_whereAllSeenAreIn_10 : decode cX2_whereAllSeenAreIn 10 = .ok (.iconst 0, 1) := by decide +kernel
theorem dX2_whereAllSeenAreIn_11 : decode cX2_whereAllSeenAreIn 11 = .ok (.istore 6, 2) := by decide +kernel
theorem dX2_whereAllSeenAreIn_13 : decode cX2_whereAllSeenAreIn 13 = .ok (.iload 6, 2) := by decide +kernel
theorem dX2_whereAllSeenAreIn_15 : decode cX2_whereAllSeenAreIn 15 = .ok (.aload_n 0, 1) := by decide +kernel
theorem dX2_whereAllSeenAreIn_16 : decode cX2_whereAllSeenAreIn 16 = .ok (.getfield 9, 3) := by decide +kernel
theorem dX2_whereAllSeenAreIn_19 : decode cX2_whereAllSeenAreIn 19 = .ok (.getfield 66, 3) := by decide +kernel
theorem dX2_whereAllSeenAreIn_22 : decode cX2_whereAllSeenAreIn 22 = .ok (.if_icmp .ge 44, 3) := by decide +kernel
theorem dX2_whereAllSeenAreIn_25 : decode cX2_whereAllSeenAreIn 25 = .ok (.iload_n 3, 1) := by decide +kernel
theorem dX2_whereAllSeenAreIn_26 : decode cX2_whereAllSeenAreIn 26 = .ok (.iload 6, 2) := by decide +kernel
theorem dX2_whereAllSeenAreIn_28 : decode cX2_whereAllSeenAreIn 28 = .ok (.invokestatic 70, 3) := by decide +kernel
theorem dX2_whereAllSeenAreIn_31 : decode cX2_whereAllSeenAreIn 31 = .ok (.ifCond .eq 29, 3) := by decide +kernel
theorem dX2_whereAllSeenAreIn_34 : decode cX2_whereAllSeenAreIn 34 = .ok (.aload_n 0, 1) := by decide +kernel
theorem dX2_whereAllSeenAreIn_35 : decode cX2_whereAllSeenAreIn 35 = .ok (.getfield 9, 3) := by decide +kernel
theorem dX2_whereAllSeenAreIn_38 : decode cX2_whereAllSeenAreIn 38 = .ok (.iload_n 2, 1) := by decide +kernel
theorem dX2_whereAllSeenAreIn_39 : decode cX2_whereAllSeenAreIn 39 = .ok (.iload 6, 2) := by decide +kernel
theorem dX2_whereAllSeenAreIn_41 : decode cX2_whereAllSeenAreIn 41 = .ok (.invokevirtual 74, 3) := by decide +kernel
theorem dX2_whereAllSeenAreIn_44 : decode cX2_whereAllSeenAreIn 44 = .ok (.iload 4, 2) := by decide +kernel
theorem dX2_whereAllSeenAreIn_46 : decode cX2_whereAllSeenAreIn 46 = .ok (.iand, 1) := by decide +kernel
theorem dX2_whereAllSeenAreIn_47 : decode cX2_whereAllSeenAreIn 47 = .ok (.ifCond .ne 13, 3) := by decide +kernel
theorem dX2_whereAllSeenAreIn_50 : decode cX2_whereAllSeenAreIn 50 = .ok (.iload 5, 2) := by decide +kernel
theorem dX2_whereAllSeenAreIn_52 : decode cX2_whereAllSeenAreIn 52 = .ok (.iload 6, 2) := by decide +kernel
theorem dX2_whereAllSeenAreIn_54 : decode cX2_whereAllSeenAreIn 54 = .ok (.invokestatic 78, 3) := by decide +kernel
theorem dX2_whereAllSeenAreIn_57 : decode cX2_whereAllSeenAreIn 57 = .ok (.ior, 1) := by decide +kernel
theorem dX2_whereAllSeenAreIn_58 : decode cX2_whereAllSeenAreIn 58 = .ok (.istore 5, 2) := by decide +kernel
theorem dX2_whereAllSeenAreIn_60 : decode cX2_whereAllSeenAreIn 60 = .ok (.iinc 6 1, 3) := by decide +kernel
theorem dX2_whereAllSeenAreIn_63 : decode cX2_whereAllSeenAreIn 63 = .ok (.goto (-50), 3) := by decide +kernel
theorem dX2_whereAllSeenAreIn_66 : decode cX2_whereAllSeenAreIn 66 = .ok (.iload 5, 2) := by decide +kernel
theorem dX2_whereAllSeenAreIn_68 : decode cX2_whereAllSeenAreIn 68 = .ok (.ireturn, 1) := by decide +kernel
set_option maxRecDepth 20000 in
theorem ggX2_whereAllReachedAreIn_X4_contains : GoodIn wsX2_whereAllReachedAreIn wsX4_contains := goodIn_r _ [5] (by decide +kernel) (by decide +kernel)
set_option maxRecDepth 20000 in
theorem gX2_whereAllReachedAreIn_X4_contains_n70 : GoodIn wsX2_whereAllReachedAreIn (wsX4_contains) := ggX2_whereAllReachedAreIn_X4_contains
set_option maxRecDepth 20000 in
theorem ggX2_whereAllReachedAreIn_X3_seenBySome : GoodIn wsX2_whereAllReachedAreIn wsX3_seenBySome := goodIn_r _ [10, 11, 3, 4, 5, 17, 18, 19, 20] (by decide +kernel) (by decide +kernel)
set_option maxRecDepth 20000 in
theorem gX2_whereAllReachedAreIn_X3_seenBySome : GoodIn wsX2_whereAllReachedAreIn (wsV RX2 81 RX3 yX3_seenBySome wsX3_seenBySome) := goodIn_app (goodIn_of _ (by decide +kernel)) ggX2_whereAllReachedAreIn_X3_seenBySome
set_option maxRecDepth 20000 in
theorem ggX2_whereAllReachedAreIn_X4_single : GoodIn wsX2_whereAllReachedAreIn wsX4_single := goodIn_r _ [13] (by decide +kernel) (by decide +kernel)
set_option maxRecDepth 20000 in
theorem gX2_whereAllReachedAreIn_X4_single_n78 : GoodIn wsX2_whereAllReachedAreIn (wsX4_single) := ggX2_whereAllReachedAreIn_X4_single
theorem dX2_whereAllReachedAreIn_0 : decode cX2_whereAllReachedAreIn 0 = .ok (.iload_n 3, 1) := by decide +kernel
theorem dX2_whereAllReachedAreIn_1 : decode cX2_whereAllReachedAreIn 1 = .ok (.iload_n 1, 1) := by decide +kernel
theorem dX2_whereAllReachedAreIn_2 : decode cX2_whereAllReachedAreIn 2 = .ok (.iconst (-1), 1) := by decide +kernel
theorem dX2_whereAllReachedAreIn_3 : decode cX2_whereAllReachedAreIn 3 = .ok (.ixor, 1) := by decide +kernel
theorem dX2_whereAllReachedAreIn_4 : decode cX2_whereAllReachedAreIn 4 = .ok (.iand, 1) := by decide +kernel
theorem dX2_whereAllReachedAreIn_5 : decode cX2_whereAllReachedAreIn 5 = .ok (.istore 4, 2) := by decide +kernel
theorem dX2_whereAllReachedAreIn_7 : decode cX2_whereAllReachedAreIn 7 = .ok (.iconst 0, 1) := by decide +kernel
theorem dX2_whereAllReachedAreIn_8 : decode cX2_whereAllReachedAreIn 8 = .ok (.istore 5, 2) := by decide +kernel
theorem dX2_whereAllReachedAreIn_10 : decode cX2_whereAllReachedAreIn 10 = .ok (.iconst 0, 1) := by decide +kernel
theorem dX2_whereAllReachedAreIn_11 : decode cX2_whereAllReachedAreIn 11 = .ok (.istore 6, 2) := by decide +kernel
theorem dX2_whereAllReachedAreIn_13 : decode cX2_whereAllReachedAreIn 13 = .ok (.iload 6, 2) := by decide +kernel
theorem dX2_whereAllReachedAreIn_15 : decode cX2_whereAllReachedAreIn 15 = .ok (.aload_n 0, 1) := by decide +kernel
theorem dX2_whereAllReachedAreIn_16 : decode cX2_whereAllReachedAreIn 16 = .ok (.getfield 9, 3) := by decide +kernel
theorem dX2_whereAllReachedAreIn_19 : decode cX2_whereAllReachedAreIn 19 = .ok (.getfield 66, 3) := by decide +kernel
theorem dX2_whereAllReachedAreIn_22 : decode cX2_whereAllReachedAreIn 22 = .ok (.if_icmp .gt 82, 3) := by decide +kernel
theorem dX2_whereAllReachedAreIn_25 : decode cX2_whereAllReachedAreIn 25 = .ok (.iload 5, 2) := by decide +kernel
theorem dX2_whereAllReachedAreIn_27 : decode cX2_whereAllReachedAreIn 27 = .ok (.istore 7, 2) := by decide +kernel
theorem dX2_whereAllReachedAreIn_29 : decode cX2_whereAllReachedAreIn 29 = .ok (.iconst 0, 1) := by decide +kernel
theorem dX2_whereAllReachedAreIn_30 : decode cX2_whereAllReachedAreIn 30 = .ok (.istore 8, 2) := by decide +kernel
theorem dX2_whereAllReachedAreIn_32 : decode cX2_whereAllReachedAreIn 32 = .ok (.iload 8, 2) := by decide +kernel
theorem dX2_whereAllReachedAreIn_34 : decode cX2_whereAllReachedAreIn 34 = .ok (.aload_n 0, 1) := by decide +kernel
theorem dX2_whereAllReachedAreIn_35 : decode cX2_whereAllReachedAreIn 35 = .ok (.getfield 9, 3) := by decide +kernel
theorem dX2_whereAllReachedAreIn_38 : decode cX2_whereAllReachedAreIn 38 = .ok (.getfield 66, 3) := by decide +kernel
theorem dX2_whereAllReachedAreIn_41 : decode cX2_whereAllReachedAreIn 41 = .ok (.if_icmp .ge 47, 3) := by decide +kernel
theorem dX2_whereAllReachedAreIn_44 : decode cX2_whereAllReachedAreIn 44 = .ok (.iload_n 3, 1) := by decide +kernel
theorem dX2_whereAllReachedAreIn_45 : decode cX2_whereAllReachedAreIn 45 = .ok (.iload 8, 2) := by decide +kernel
theorem dX2_whereAllReachedAreIn_47 : decode cX2_whereAllReachedAreIn 47 = .ok (.invokestatic 70, 3) := by decide +kernel
theorem dX2_whereAllReachedAreIn_50 : decode cX2_whereAllReachedAreIn 50 = .ok (.ifCond .eq 32, 3) := by decide +kernel
theorem dX2_whereAllReachedAreIn_53 : decode cX2_whereAllReachedAreIn 53 = .ok (.aload_n 0, 1) := by decide +kernel
theorem dX2_whereAllReachedAreIn_54 : decode cX2_whereAllReachedAreIn 54 = .ok (.getfield 9, 3) := by decide +kernel
theorem dX2_whereAllReachedAreIn_57 : decode cX2_whereAllReachedAreIn 57 = .ok (.iload_n 2, 1) := by decide +kernel
theorem dX2_whereAllReachedAreIn_58 : decode cX2_whereAllReachedAreIn 58 = .ok (.iload 8, 2) := by decide +kernel
theorem dX2_whereAllReachedAreIn_60 : decode cX2_whereAllReachedAreIn 60 = .ok (.invokevirtual 81, 3) := by decide +kernel
theorem dX2_whereAllReachedAreIn_63 : decode cX2_whereAllReachedAreIn 63 = .ok (.iload 4, 2) := by decide +kernel
theorem dX2_whereAllReachedAreIn_65 : decode cX2_whereAllReachedAreIn 65 = .ok (.iload 5, 2) := by decide +kernel
theorem dX2_whereAllReachedAreIn_67 : decode cX2_whereAllReachedAreIn 67 = .ok (.ior, 1) := by decide +kernel
theorem dX2_whereAllReachedAreIn_68 : decode cX2_whereAllReachedAreIn 68 = .ok (.iand, 1) := by decide +kernel
theorem dX2_whereAllReachedAreIn_69 : decode cX2_whereAllReachedAreIn 69 = .ok (.ifCond .eq 13, 3) := by decide +kernel
theorem dX2_whereAllReachedAreIn_72 : decode cX2_whereAllReachedAreIn 72 = .ok (.iload 5, 2) := by decide +kernel
theorem dX2_whereAllReachedAreIn_74 : decode cX2_whereAllReachedAreIn 74 = .ok (.iload 8, 2) := by decide +kernel
theorem dX2_whereAllReachedAreIn_76 : decode cX2_whereAllReachedAreIn 76 = .ok (.invokestatic 78, 3) := by decide +kernel
theorem dX2_whereAllReachedAreIn_79 : decode cX2_whereAllReachedAreIn 79 = .ok (.ior, 1) := by decide +kernel
theorem dX2_whereAllReachedAreIn_80 : decode cX2_whereAllReachedAreIn 80 = .ok (.istore 5, 2) := by decide +kernel
theorem dX2_whereAllReachedAreIn_82 : decode cX2_whereAllReachedAreIn 82 = .ok (.iinc 8 1, 3) := by decide +kernel
theorem dX2_whereAllReachedAreIn_85 : decode cX2_whereAllReachedAreIn 85 = .ok (.goto (-53), 3) := by decide +kernel
theorem dX2_whereAllReachedAreIn_88 : decode cX2_whereAllReachedAreIn 88 = .ok (.iload 5, 2) := by decide +kernel
theorem dX2_whereAllReachedAreIn_90 : decode cX2_whereAllReachedAreIn 90 = .ok (.iload 7, 2) := by decide +kernel
theorem dX2_whereAllReachedAreIn_92 : decode cX2_whereAllReachedAreIn 92 = .ok (.if_icmp .ne 6, 3) := by decide +kernel
theorem dX2_whereAllReachedAreIn_95 : decode cX2_whereAllReachedAreIn 95 = .ok (.goto 9, 3) := by decide +kernel
theorem dX2_whereAllReachedAreIn_98 : decode cX2_whereAllReachedAreIn 98 = .ok (.iinc 6 1, 3) := by decide +kernel
theorem dX2_whereAllReachedAreIn_101 : decode cX2_whereAllReachedAreIn 101 = .ok (.goto (-88), 3) := by decide +kernel
theorem dX2_whereAllReachedAreIn_104 : decode cX2_whereAllReachedAreIn 104 = .ok (.iload_n 3, 1) := by decide +kernel
theorem dX2_whereAllReachedAreIn_105 : decode cX2_whereAllReachedAreIn 105 = .ok (.iload 5, 2) := by decide +kernel
theorem dX2_whereAllReachedAreIn_107 : decode cX2_whereAllReachedAreIn 107 = .ok (.iconst (-1), 1) := by decide +kernel
theorem dX2_whereAllReachedAreIn_108 : decode cX2_whereAllReachedAreIn 108 = .ok (.ixor, 1) := by decide +kernel
theorem dX2_whereAllReachedAreIn_109 : decode cX2_whereAllReachedAreIn 109 = .ok (.iand, 1) := by decide +kernel
theorem dX2_whereAllReachedAreIn_110 : decode cX2_whereAllReachedAreIn 110 = .ok (.ireturn, 1) := by decide +kernel
theorem dX3_init_0 : decode cX3_init 0 = .ok (.aload_n 0, 1) := by decide +kernel
theorem dX3_init_1 : decode cX3_init 1 = .ok (.invokespecial 3, 3) := by decide +kernel
theorem dX3_init_4 : decode cX3_init 4 = .ok (.aload_n 0, 1) := by decide +kernel
theorem dX3_init_5 : decode cX3_init 5 = .ok (.bipush 24, 2) := by decide +kernel
theorem dX3_init_7 : decode cX3_init 7 = .ok (.newarray .int, 2) := by decide +kernel
theorem dX3_init_9 : decode cX3_init 9 = .ok (.putfield 9, 3) := by decide +kernel
theorem dX3_init_12 : decode cX3_init 12 = .ok (.aload_n 0, 1) := by decide +kernel
theorem dX3_init_13 : decode cX3_init 13 = .ok (.iconst 4, 1) := by decide +kernel
theorem dX3_init_14 : decode cX3_init 14 = .ok (.bipush 24, 2) := by decide +kernel
theorem dX3_init_16 : decode cX3_init 16 = .ok (.multianewarray 15 2, 4) := by decide +kernel
theorem dX3_init_20 : decode cX3_init 20 = .ok (.putfield 17, 3) := by decide +kernel
theorem dX3_init_23 : decode cX3_init 23 = .ok (.aload_n 0, 1) := by decide +kernel
theorem dX3_init_24 : decode cX3_init 24 = .ok (.iconst 0, 1) := by decide +kernel
theorem dX3_init_25 : decode cX3_init 25 = .ok (.putfield 20, 3) := by decide +kernel
theorem dX3_init_28 : decode cX3_init 28 = .ok (.aload_n 0, 1) := by decide +kernel
theorem dX3_init_29 : decode cX3_init 29 = .ok (.iconst 0, 1) := by decide +kernel
theorem dX3_init_30 : decode cX3_init 30 = .ok (.putfield 24, 3) := by decide +kernel
theorem dX3_init_33 : decode cX3_init 33 = .ok (.return_, 1) := by decide +kernel
theorem dX3_all_0 : decode cX3_all 0 = .ok (.iconst 1, 1) := by decide +kernel
theorem dX3_all_1 : decode cX3_all 1 = .ok (.aload_n 0, 1) := by decide +kernel
theorem dX3_all_2 : decode cX3_all 2 = .ok (.getfield 20, 3) := by decide +kernel
theorem dX3_all_5 : decode cX3_all 5 = .ok (.ishl, 1) := by decide +kernel
theorem dX3_all_6 : decode cX3_all 6 = .ok (.iconst 1, 1) := by decide +kernel
theorem dX3_all_7 : decode cX3_all 7 = .ok (.isub, 1) := by decide +kernel
theorem dX3_all_8 : decode cX3_all 8 = .ok (.ireturn, 1) := by decide +kernel
theorem dX3_append_0 : decode cX3_append 0 = .ok (.aload_n 0, 1) := by decide +kernel
theorem dX3_append_1 : decode cX3_append 1 = .ok (.getfield 20, 3) := by decide +kernel
theorem dX3_append_4 : decode cX3_append 4 = .ok (.istore_n 2, 1) := by decide +kernel
theorem dX3_append_5 : decode cX3_append 5 = .ok (.aload_n 0, 1) := by decide +kernel
theorem dX3_append_6 : decode cX3_append 6 = .ok (.getfield 9, 3) := by decide +kernel
theorem dX3_append_9 : decode cX3_append 9 = .ok (.iload_n 2, 1) := by decide +kernel
theorem dX3_append_10 : decode cX3_append 10 = .ok (.iload_n 1, 1) := by decide +kernel
theorem dX3_append_11 : decode cX3_append 11 = .ok (.iastore, 1) := by decide +kernel
theorem dX3_append_12 : decode cX3_append 12 = .ok (.aload_n 0, 1) := by decide +kernel
theorem dX3_append_13 : decode cX3_append 13 = .ok (.iload_n 2, 1) := by decide +kernel
theorem dX3_append_14 : decode cX3_append 14 = .ok (.iconst 1, 1) := by decide +kernel
theorem dX3_append_15 : decode cX3_append 15 = .ok (.iadd, 1) := by decide +kernel
theorem dX3_append_16 : decode cX3_append 16 = .ok (.putfield 20, 3) := by decide +kernel
theorem dX3_append_19 : decode cX3_append 19 = .ok (.iload_n 2, 1) := by decide +kernel
theorem dX3_append_20 : decode cX3_append 20 = .ok (.ireturn, 1) := by decide +kernel
set_option maxRecDepth 20000 in
theorem ggX3_joinAll_X4_contains : GoodIn wsX3_joinAll wsX4_contains := goodIn_r _ [5] (by decide +kernel) (by decide +kernel)
set_option maxRecDepth 20000 in
theorem gX3_joinAll_X4_contains_n27 : GoodIn wsX3_joinAll (wsX4_contains) := ggX3_joinAll_X4_contains
set_option maxRecDepth 20000 in
theorem ggX3_joinAll_J6_bitCount_0f7a4 : GoodIn wsX3_joinAll wsJ6_bitCount_0f7a4 := goodIn_r _ [9, 10, 11, 12] (by decide +kernel) (by decide +kernel)
set_option maxRecDepth 20000 in
theorem gX3_joinAll_J6_bitCount_0f7a4 : GoodIn wsX3_joinAll (va_wsS RX3 31 yJ6_bitCount_0f7a4 wsJ6_bitCount_0f7a4) := goodIn_app (goodIn_of _ (by decide +kernel)) ggX3_joinAll_J6_bitCount_0f7a4
theorem dX3_joinAll_0 : decode cX3_joinAll 0 = .ok (.iconst 0, 1) := by decide +kernel
theorem dX3_joinAll_1 : decode cX3_joinAll 1 = .ok (.istore_n 3, 1) := by decide +kernel
theorem dX3_joinAll_2 : decode cX3_joinAll 2 = .ok (.iconst 0, 1) := by decide +kernel
theorem dX3_joinAll_3 : decode cX3_joinAll 3 = .ok (.istore 4, 2) := by decide +kernel
theorem dX3_joinAll_5 : decode cX3_joinAll 5 = .ok (.iload 4, 2) := by decide +kernel
theorem dX3_joinAll_7 : decode cX3_joinAll 7 = .ok (.aload_n 0, 1) := by decide +kernel
theorem dX3_joinAll_8 : decode cX3_joinAll 8 = .ok (.getfield 20, 3) := by decide +kernel
theorem dX3_joinAll_11 : decode cX3_joinAll 11 = .ok (.if_icmp .ge 50, 3) := by decide +kernel
theorem dX3_joinAll_14 : decode cX3_joinAll 14 = .ok (.iload_n 2, 1) := by decide +kernel
theorem dX3_joinAll_15 : decode cX3_joinAll 15 = .ok (.iload 4, 2) := by decide +kernel
theorem dX3_joinAll_17 : decode cX3_joinAll 17 = .ok (.invokestatic 27, 3) := by decide +kernel
theorem dX3_joinAll_20 : decode cX3_joinAll 20 = .ok (.ifCond .eq 35, 3) := by decide +kernel
theorem dX3_joinAll_23 : decode cX3_joinAll 23 = .ok (.iload_n 3, 1) := by decide +kernel
theorem dX3_joinAll_24 : decode cX3_joinAll 24 = .ok (.iload_n 2, 1) := by decide +kernel
theorem dX3_joinAll_25 : decode cX3_joinAll 25 = .ok (.aload_n 0, 1) := by decide +kernel
theorem dX3_joinAll_26 : decode cX3_joinAll 26 = .ok (.getfield 17, 3) := by decide +kernel
theorem dX3_joinAll_29 : decode cX3_joinAll 29 = .ok (.iload_n 1, 1) := by decide +kernel
theorem dX3_joinAll_30 : decode cX3_joinAll 30 = .ok (.aaload, 1) := by decide +kernel
theorem dX3_joinAll_31 : decode cX3_joinAll 31 = .ok (.iload 4, 2) := by decide +kernel
theorem dX3_joinAll_33 : decode cX3_joinAll 33 = .ok (.iaload, 1) := by decide +kernel
theorem dX3_joinAll_34 : decode cX3_joinAll 34 = .ok (.iconst (-1), 1) := by decide +kernel
theorem dX3_joinAll_35 : decode cX3_joinAll 35 = .ok (.ixor, 1) := by decide +kernel
theorem dX3_joinAll_36 : decode cX3_joinAll 36 = .ok (.iand, 1) := by decide +kernel
theorem dX3_joinAll_37 : decode cX3_joinAll 37 = .ok (.invokestatic 31, 3) := by decide +kernel
theorem dX3_joinAll_40 : decode cX3_joinAll 40 = .ok (.iadd, 1) := by decide +kernel
theorem dX3_joinAll_41 : decode cX3_joinAll 41 = .ok (.istore_n 3, 1) := by decide +kernel
theorem dX3_joinAll_42 : decode cX3_joinAll 42 = .ok (.aload_n 0, 1) := by decide +kernel
theorem dX3_joinAll_43 : decode cX3_joinAll 43 = .ok (.getfield 17, 3) := by decide +kernel
theorem dX3_joinAll_46 : decode cX3_joinAll 46 = .ok (.iload_n 1, 1) := by decide +kernel
theorem dX3_joinAll_47 : decode cX3_joinAll 47 = .ok (.aaload, 1) := by decide +kernel
theorem dX3_joinAll_48 : decode cX3_joinAll 48 = .ok (.iload 4, 2) := by decide +kernel
theorem dX3_joinAll_50 : decode cX3_joinAll 50 = .ok (.dup2, 1) := by decide +kernel
theorem dX3_joinAll_51 : decode cX3_joinAll 51 = .ok (.iaload, 1) := by decide +kernel
theorem dX3_joinAll_52 : decode cX3_joinAll 52 = .ok (.iload_n 2, 1) := by decide +kernel
theorem dX3_joinAll_53 : decode cX3_joinAll 53 = .ok (.ior, 1) := by decide +kernel
theorem dX3_joinAll_54 : decode cX3_joinAll 54 = .ok (.iastore, 1) := by decide +kernel
theorem dX3_joinAll_55 : decode cX3_joinAll 55 = .ok (.iinc 4 1, 3) := by decide +kernel
theorem dX3_joinAll_58 : decode cX3_joinAll 58 = .ok (.goto (-53), 3) := by decide +kernel
theorem dX3_joinAll_61 : decode cX3_joinAll 61 = .ok (.iload_n 3, 1) := by decide +kernel
theorem dX3_joinAll_62 : decode cX3_joinAll 62 = .ok (.ireturn, 1) := by decide +kernel
set_option maxRecDepth 20000 in
theorem ggX3_countArrows_J6_bitCount_0f7a4 : GoodIn wsX3_countArrows wsJ6_bitCount_0f7a4 := goodIn_r _ [6, 7, 8, 9] (by decide +kernel) (by decide +kernel)
set_option maxRecDepth 20000 in
theorem gX3_countArrows_J6_bitCount_0f7a4 : GoodIn wsX3_countArrows (va_wsS RX3 31 yJ6_bitCount_0f7a4 wsJ6_bitCount_0f7a4) := goodIn_app (goodIn_of _ (by decide +kernel)) ggX3_countArrows_J6_bitCount_0f7a4
theorem dX3_countArrows_0 : decode cX3_countArrows 0 = .ok (.iconst 0, 1) := by decide +kernel
theorem dX3_countArrows_1 : decode cX3_countArrows 1 = .ok (.istore_n 2, 1) := by decide +kernel
theorem dX3_countArrows_2 : decode cX3_countArrows 2 = .ok (.iconst 0, 1) := by decide +kernel
theorem dX3_countArrows_3 : decode cX3_countArrows 3 = .ok (.istore_n 3, 1) := by decide +kernel
theorem dX3_countArrows_4 : decode cX3_countArrows 4 = .ok (.iload_n 3, 1) := by decide +kernel
theorem dX3_countArrows_5 : decode cX3_countArrows 5 = .ok (.aload_n 0, 1) := by decide +kernel
theorem dX3_countArrows_6 : decode cX3_countArrows 6 = .ok (.getfield 20, 3) := by decide +kernel
theorem dX3_countArrows_9 : decode cX3_countArrows 9 = .ok (.if_icmp .ge 23, 3) := by decide +kernel
theorem dX3_countArrows_12 : decode cX3_countArrows 12 = .ok (.iload_n 2, 1) := by decide +kernel
theorem dX3_countArrows_13 : decode cX3_countArrows 13 = .ok (.aload_n 0, 1) := by decide +kernel
theorem dX3_countArrows_14 : decode cX3_countArrows 14 = .ok (.getfield 17, 3) := by decide +kernel
theorem dX3_countArrows_17 : decode cX3_countArrows 17 = .ok (.iload_n 1, 1) := by decide +kernel
theorem dX3_countArrows_18 : decode cX3_countArrows 18 = .ok (.aaload, 1) := by decide +kernel
theorem dX3_countArrows_19 : decode cX3_countArrows 19 = .ok (.iload_n 3, 1) := by decide +kernel
theorem dX3_countArrows_20 : decode cX3_countArrows 20 = .ok (.iaload, 1) := by decide +kernel
theorem dX3_countArrows_21 : decode cX3_countArrows 21 = .ok (.invokestatic 31, 3) := by decide +kernel
theorem dX3_countArrows_24 : decode cX3_countArrows 24 = .ok (.iadd, 1) := by decide +kernel
theorem dX3_countArrows_25 : decode cX3_countArrows 25 = .ok (.istore_n 2, 1) := by decide +kernel
theorem dX3_countArrows_26 : decode cX3_countArrows 26 = .ok (.iinc 3 1, 3) := by decide +kernel
theorem dX3_countArrows_29 : decode cX3_countArrows 29 = .ok (.goto (-25), 3) := by decide +kernel
theorem dX3_countArrows_32 : decode cX3_countArrows 32 = .ok (.iload_n 2, 1) := by decide +kernel
theorem dX3_countArrows_33 : decode cX3_countArrows 33 = .ok (.ireturn, 1) := by decide +kernel
set_option maxRecDepth 20000 in
theorem ggX3_isReflexive_X4_contains : GoodIn wsX3_isReflexive wsX4_contains := goodIn_r _ [5] (by decide +kernel) (by decide +kernel)
set_option maxRecDepth 20000 in
theorem gX3_isReflexive_X4_contains_n27 : GoodIn wsX3_isReflexive (wsX4_contains) := ggX3_isReflexive_X4_contains
theorem dX3_isReflexive_0 : decode cX3_isReflexive 0 = .ok (.iconst 0, 1) := by decide +kernel
theorem dX3_isReflexive_1 : decode cX3_isReflexive 1 = .ok (.istore_n 2, 1) := by decide +kernel
theorem dX3_isReflexive_2 : decode cX3_isReflexive 2 = .ok (.iload_n 2, 1) := by decide +kernel
theorem dX3_isReflexive_3 : decode cX3_isReflexive 3 = .ok (.aload_n 0, 1) := by decide +kernel
theorem dX3_isReflexive_4 : decode cX3_isReflexive 4 = .ok (.getfield 20, 3) := by decide +kernel
theorem dX3_isReflexive_7 : decode cX3_isReflexive 7 = .ok (.if_icmp .ge 26, 3) := by decide +kernel
theorem dX3_isReflexive_10 : decode cX3_isReflexive 10 = .ok (.aload_n 0, 1) := by decide +kernel
theorem dX3_isReflexive_11 : decode cX3_isReflexive 11 = .ok (.getfield 17, 3) := by decide +kernel
theorem dX3_isReflexive_14 : decode cX3_isReflexive 14 = .ok (.iload_n 1, 1) := by decide +kernel
theorem dX3_isReflexive_15 : decode cX3_isReflexive 15 = .ok (.aaload, 1) := by decide +kernel
theorem dX3_isReflexive_16 : decode cX3_isReflexive 16 = .ok (.iload_n 2, 1) := by decide +kernel
theorem dX3_isReflexive_17 : decode cX3_isReflexive 17 = .ok (.iaload, 1) := by decide +kernel
theorem dX3_isReflexive_18 : decode cX3_isReflexive 18 = .ok (.iload_n 2, 1) := by decide +kernel
theorem dX3_isReflexive_19 : decode cX3_isReflexive 19 = .ok (.invokestatic 27, 3) := by decide +kernel
theorem dX3_isReflexive_22 : decode cX3_isReflexive 22 = .ok (.ifCond .ne 5, 3) := by decide +kernel
theorem dX3_isReflexive_25 : decode cX3_isReflexive 25 = .ok (.iconst 0, 1) := by decide +kernel
theorem dX3_isReflexive_26 : decode cX3_isReflexive 26 = .ok (.ireturn, 1) := by decide +kernel
theorem dX3_isReflexive_27 : decode cX3_isReflexive 27 = .ok (.iinc 2 1, 3) := by decide +kernel
theorem dX3_isReflexive_30 : decode cX3_isReflexive 30 = .ok (.goto (-28), 3) := by decide +kernel
theorem dX3_isReflexive_33 : decode cX3_isReflexive 33 = .ok (.iconst 1, 1) := by decide +kernel
theorem dX3_isReflexive_34 : decode cX3_isReflexive 34 = .ok (.ireturn, 1) := by decide +kernel
set_option maxRecDepth 20000 in
theorem ggX3_isSymmetric_X4_contains : GoodIn wsX3_isSymmetric wsX4_contains := goodIn_r _ [5] (by decide +kernel) (by decide +kernel)
set_option maxRecDepth 20000 in
theorem gX3_isSymmetric_X4_contains_n27 : GoodIn wsX3_isSymmetric (wsX4_contains) := ggX3_isSymmetric_X4_contains
theorem dX3_isSymmetric_0 : decode cX3_isSymmetric 0 = .ok (.iconst 0, 1) := by decide +kernel
theorem dX3_isSymmetric_1 : decode cX3_isSymmetric 1 = .ok (.istore_n 2, 1) := by decide +kernel
theorem dX3_isSymmetric_2 : decode cX3_isSymmetric 2 = .ok (.iload_n 2, 1) := by decide +kernel
theorem dX3_isSymmetric_3 : decode cX3_isSymmetric 3 = .ok (.aload_n 0, 1) := by decide +kernel
theorem dX3_isSymmetric_4 : decode cX3_isSymmetric 4 = .ok (.getfield 20, 3) := by decide +kernel
theorem dX3_isSymmetric_7 : decode cX3_isSymmetric 7 = .ok (.if_icmp .ge 57, 3) := by decide +kernel
theorem dX3_isSymmetric_10 : decode cX3_isSymmetric 10 = .ok (.iconst 0, 1) := by decide +kernel
theorem dX3_isSymmetric_11 : decode cX3_isSymmetric 11 = .ok (.istore_n 3, 1) := by decide +kernel
theorem dX3_isSymmetric_12 : decode cX3_isSymmetric 12 = .ok (.iload_n 3, 1) := by decide +kernel
theorem dX3_isSymmetric_13 : decode cX3_isSymmetric 13 = .ok (.aload_n 0, 1) := by decide +kernel
theorem dX3_isSymmetric_14 : decode cX3_isSymmetric 14 = .ok (.getfield 20, 3) := by decide +kernel
theorem dX3_isSymmetric_17 : decode cX3_isSymmetric 17 = .ok (.if_icmp .ge 41, 3) := by decide +kernel
theorem dX3_isSymmetric_20 : decode cX3_isSymmetric 20 = .ok (.aload_n 0, 1) := by decide +kernel
theorem dX3_isSymmetric_21 : decode cX3_isSymmetric 21 = .ok (.getfield 17, 3) := by decide +kernel
theorem dX3_isSymmetric_24 : decode cX3_isSymmetric 24 = .ok (.iload_n 1, 1) := by decide +kernel
theorem dX3_isSymmetric_25 : decode cX3_isSymmetric 25 = .ok (.aaload, 1) := by decide +kernel
theorem dX3_isSymmetric_26 : decode cX3_isSymmetric 26 = .ok (.iload_n 2, 1) := by decide +kernel
theorem dX3_isSymmetric_27 : decode cX3_isSymmetric 27 = .ok (.iaload, 1) := by decide +kernel
theorem dX3_isSymmetric_28 : decode cX3_isSymmetric 28 = .ok (.iload_n 3, 1) := by decide +kernel
theorem dX3_isSymmetric_29 : decode cX3_isSymmetric 29 = .ok (.invokestatic 27, 3) := by decide +kernel
theorem dX3_isSymmetric_32 : decode cX3_isSymmetric 32 = .ok (.ifCond .eq 20, 3) := by decide +kernel
theorem dX3_isSymmetric_35 : decode cX3_isSymmetric 35 = .ok (.aload_n 0, 1) := by decide +kernel
theorem dX3_isSymmetric_36 : decode cX3_isSymmetric 36 = .ok (.getfield 17, 3) := by decide +kernel
theorem dX3_isSymmetric_39 : decode cX3_isSymmetric 39 = .ok (.iload_n 1, 1) := by decide +kernel
theorem dX3_isSymmetric_40 : decode cX3_isSymmetric 40 = .ok (.aaload, 1) := by decide +kernel
theorem dX3_isSymmetric_41 : decode cX3_isSymmetric 41 = .ok (.iload_n 3, 1) := by decide +kernel
theorem dX3_isSymmetric_42 : decode cX3_isSymmetric 42 = .ok (.iaload, 1) := by decide +kernel
theorem dX3_isSymmetric_43 : decode cX3_isSymmetric 43 = .ok (.iload_n 2, 1) := by decide +kernel
theorem dX3_isSymmetric_44 : decode cX3_isSymmetric 44 = .ok (.invokestatic 27, 3) := by decide +kernel
theorem dX3_isSymmetric_47 : decode cX3_isSymmetric 47 = .ok (.ifCond .ne 5, 3) := by decide +kernel
theorem dX3_isSymmetric_50 : decode cX3_isSymmetric 50 = .ok (.iconst 0, 1) := by decide +kernel
theorem dX3_isSymmetric_51 : decode cX3_isSymmetric 51 = .ok (.ireturn, 1) := by decide +kernel
theorem dX3_isSymmetric_52 : decode cX3_isSymmetric 52 = .ok (.iinc 3 1, 3) := by decide +kernel
theorem dX3_isSymmetric_55 : decode cX3_isSymmetric 55 = .ok (.goto (-43), 3) := by decide +kernel
theorem dX3_isSymmetric_58 : decode cX3_isSymmetric 58 = .ok (.iinc 2 1, 3) := by decide +kernel
theorem dX3_isSymmetric_61 : decode cX3_isSymmetric 61 = .ok (.goto (-59), 3) := by decide +kernel
theorem dX3_isSymmetric_64 : decode cX3_isSymmetric 64 = .ok (.iconst 1, 1) := by decide +kernel
theorem dX3_isSymmetric_65 : decode cX3_isSymmetric 65 = .ok (.ireturn, 1) := by decide +kernel
set_option maxRecDepth 20000 in
theorem ggX3_isTransitive_X4_contains : GoodIn wsX3_isTransitive wsX4_contains := goodIn_r _ [5] (by decide +kernel) (by decide +kernel)
set_option maxRecDepth 20000 in
theorem gX3_isTransitive_X4_contains_n27 : GoodIn wsX3_isTransitive (wsX4_contains) := ggX3_isTransitive_X4_contains
theorem dX3_isTransitive_0 : decode cX3_isTransitive 0 = .ok (.iconst 0, 1) := by decide +kernel
theorem dX3_isTransitive_1 : decode cX3_isTransitive 1 = .ok (.istore_n 2, 1) := by decide +kernel
theorem dX3_isTransitive_2 : decode cX3_isTransitive 2 = .ok (.iload_n 2, 1) := by decide +kernel
theorem dX3_isTransitive_3 : decode cX3_isTransitive 3 = .ok (.aload_n 0, 1) := by decide +kernel
theorem dX3_isTransitive_4 : decode cX3_isTransitive 4 = .ok (.getfield 20, 3) := by decide +kernel
theorem dX3_isTransitive_7 : decode cX3_isTransitive 7 = .ok (.if_icmp .ge 63, 3) := by decide +kernel
theorem dX3_isTransitive_10 : decode cX3_isTransitive 10 = .ok (.aload_n 0, 1) := by decide +kernel
theorem dX3_isTransitive_11 : decode cX3_isTransitive 11 = .ok (.getfield 17, 3) := by decide +kernel
theorem dX3_isTransitive_14 : decode cX3_isTransitive 14 = .ok (.iload_n 1, 1) := by decide +kernel
theorem dX3_isTransitive_15 : decode cX3_isTransitive 15 = .ok (.aaload, 1) := by decide +kernel
theorem dX3_isTransitive_16 : decode cX3_isTransitive 16 = .ok (.iload_n 2, 1) := by decide +kernel
theorem dX3_isTransitive_17 : decode cX3_isTransitive 17 = .ok (.iaload, 1) := by decide +kernel
theorem dX3_isTransitive_18 : decode cX3_isTransitive 18 = .ok (.istore_n 3, 1) := by decide +kernel
theorem dX3_isTransitive_19 : decode cX3_isTransitive 19 = .ok (.iconst 0, 1) := by decide +kernel
theorem dX3_isTransitive_20 : decode cX3_isTransitive 20 = .ok (.istore 4, 2) := by decide +kernel
theorem dX3_isTransitive_22 : decode cX3_isTransitive 22 = .ok (.iload 4, 2) := by decide +kernel
theorem dX3_isTransitive_24 : decode cX3_isTransitive 24 = .ok (.aload_n 0, 1) := by decide +kernel
theorem dX3_isTransitive_25 : decode cX3_isTransitive 25 = .ok (.getfield 20, 3) := by decide +kernel
theorem dX3_isTransitive_28 : decode cX3_isTransitive 28 = .ok (.if_icmp .ge 36, 3) := by decide +kernel
theorem dX3_isTransitive_31 : decode cX3_isTransitive 31 = .ok (.iload_n 3, 1) := by decide +kernel
theorem dX3_isTransitive_32 : decode cX3_isTransitive 32 = .ok (.iload 4, 2) := by decide +kernel
theorem dX3_isTransitive_34 : decode cX3_isTransitive 34 = .ok (.invokestatic 27, 3) := by decide +kernel
theorem dX3_isTransitive_37 : decode cX3_isTransitive 37 = .ok (.ifCond .eq 21, 3) := by decide +kernel
theorem dX3_isTransitive_40 : decode cX3_isTransitive 40 = .ok (.aload_n 0, 1) := by decide +kernel
theorem dX3_isTransitive_41 : decode cX3_isTransitive 41 = .ok (.getfield 17, 3) := by decide +kernel
theorem dX3_isTransitive_44 : decode cX3_isTransitive 44 = .ok (.iload_n 1, 1) := by decide +kernel
theorem dX3_isTransitive_45 : decode cX3_isTransitive 45 = .ok (.aaload, 1) := by decide +kernel
theorem dX3_isTransitive_46 : decode cX3_isTransitive 46 = .ok (.iload 4, 2) := by decide +kernel
theorem dX3_isTransitive_48 : decode cX3_isTransitive 48 = .ok (.iaload, 1) := by decide +kernel
theorem dX3_isTransitive_49 : decode cX3_isTransitive 49 = .ok (.iload_n 3, 1) := by decide +kernel
theorem dX3_isTransitive_50 : decode cX3_isTransitive 50 = .ok (.iconst (-1), 1) := by decide +kernel
theorem dX3_isTransitive_51 : decode cX3_isTransitive 51 = .ok (.ixor, 1) := by decide +kernel
theorem dX3_isTransitive_52 : decode cX3_isTransitive 52 = .ok (.iand, 1) := by decide +kernel
theorem dX3_isTransitive_53 : decode cX3_isTransitive 53 = .ok (.ifCond .eq 5, 3) := by decide +kernel
theorem dX3_isTransitive_56 : decode cX3_isTransitive 56 = .ok (.iconst 0, 1) := by decide +kernel
theorem dX3_isTransitive_57 : decode cX3_isTransitive 57 = .ok (.ireturn, 1) := by decide +kernel
theorem dX3_isTransitive_58 : decode cX3_isTransitive 58 = .ok (.iinc 4 1, 3) := by decide +kernel
theorem dX3_isTransitive_61 : decode cX3_isTransitive 61 = .ok (.goto (-39), 3) := by decide +kernel
theorem dX3_isTransitive_64 : decode cX3_isTransitive 64 = .ok (.iinc 2 1, 3) := by decide +kernel
theorem dX3_isTransitive_67 : decode cX3_isTransitive 67 = .ok (.goto (-65), 3) := by decide +kernel
theorem dX3_isTransitive_70 : decode cX3_isTransitive 70 = .ok (.iconst 1, 1) := by decide +kernel
theorem dX3_isTransitive_71 : decode cX3_isTransitive 71 = .ok (.ireturn, 1) := by decide +kernel
set_option maxRecDepth 20000 in
theorem ggX3_seenBySome_X4_contains : GoodIn wsX3_seenBySome wsX4_contains := goodIn_r _ [4] (by decide +kernel) (by decide +kernel)
set_option maxRecDepth 20000 in
theorem gX3_seenBySome_X4_contains_n27 : GoodIn wsX3_seenBySome (wsX4_contains) := ggX3_seenBySome_X4_contains
theorem dX3_seenBySome_0 : decode cX3_seenBySome 0 = .ok (.iconst 0, 1) := by decide +kernel
theorem dX3_seenBySome_1 : decode cX3_seenBySome 1 = .ok (.istore_n 3, 1) := by decide +kernel
theorem dX3_seenBySome_2 : decode cX3_seenBySome 2 = .ok (.iconst 0, 1) := by decide +kernel
theorem dX3_seenBySome_3 : decode cX3_seenBySome 3 = .ok (.istore 4, 2) := by decide +kernel
theorem dX3_seenBySome_5 : decode cX3_seenBySome 5 = .ok (.iload 4, 2) := by decide +kernel
theorem dX3_seenBySome_7 : decode cX3_seenBySome 7 = .ok (.iconst 4, 1) := by decide +kernel
theorem dX3_seenBySome_8 : decode cX3_seenBySome 8 = .ok (.if_icmp .ge 30, 3) := by decide +kernel
theorem dX3_seenBySome_11 : decode cX3_seenBySome 11 = .ok (.iload_n 1, 1) := by decide +kernel
theorem dX3_seenBySome_12 : decode cX3_seenBySome 12 = .ok (.iload 4, 2) := by decide +kernel
theorem dX3_seenBySome_14 : decode cX3_seenBySome 14 = .ok (.invokestatic 27, 3) := by decide +kernel
theorem dX3_seenBySome_17 : decode cX3_seenBySome 17 = .ok (.ifCond .eq 15, 3) := by decide +kernel
theorem dX3_seenBySome_20 : decode cX3_seenBySome 20 = .ok (.iload_n 3, 1) := by decide +kernel
theorem dX3_seenBySome_21 : decode cX3_seenBySome 21 = .ok (.aload_n 0, 1) := by decide +kernel
theorem dX3_seenBySome_22 : decode cX3_seenBySome 22 = .ok (.getfield 17, 3) := by decide +kernel
theorem dX3_seenBySome_25 : decode cX3_seenBySome 25 = .ok (.iload 4, 2) := by decide +kernel
theorem dX3_seenBySome_27 : decode cX3_seenBySome 27 = .ok (.aaload, 1) := by decide +kernel
theorem dX3_seenBySome_28 : decode cX3_seenBySome 28 = .ok (.iload_n 2, 1) := by decide +kernel
theorem dX3_seenBySome_29 : decode cX3_seenBySome 29 = .ok (.iaload, 1) := by decide +kernel
theorem dX3_seenBySome_30 : decode cX3_seenBySome 30 = .ok (.ior, 1) := by decide +kernel
theorem dX3_seenBySome_31 : decode cX3_seenBySome 31 = .ok (.istore_n 3, 1) := by decide +kernel
theorem dX3_seenBySome_32 : decode cX3_seenBySome 32 = .ok (.iinc 4 1, 3) := by decide +kernel
theorem dX3_seenBySome_35 : decode cX3_seenBySome 35 = .ok (.goto (-30), 3) := by decide +kernel
theorem dX3_seenBySome_38 : decode cX3_seenBySome 38 = .ok (.iload_n 3, 1) := by decide +kernel
theorem dX3_seenBySome_39 : decode cX3_seenBySome 39 = .ok (.ireturn, 1) := by decide +kernel
set_option maxRecDepth 20000 in
theorem ggX3_seenByEvery_X3_all : GoodIn wsX3_seenByEvery wsX3_all := goodIn_r _ [6, 7, 11, 12, 13, 14] (by decide +kernel) (by decide +kernel)
set_option maxRecDepth 20000 in
theorem gX3_seenByEvery_X3_all : GoodIn wsX3_seenByEvery (wsV RX3 37 RX3 yX3_all wsX3_all) := goodIn_app (goodIn_of _ (by decide +kernel)) ggX3_seenByEvery_X3_all
set_option maxRecDepth 20000 in
theorem ggX3_seenByEvery_X4_contains : GoodIn wsX3_seenByEvery wsX4_contains := goodIn_r _ [10] (by decide +kernel) (by decide +kernel)
set_option maxRecDepth 20000 in
theorem gX3_seenByEvery_X4_contains_n27 : GoodIn wsX3_seenByEvery (wsX4_contains) := ggX3_seenByEvery_X4_contains
theorem dX3_seenByEvery_0 : decode cX3_seenByEvery 0 = .ok (.aload_n 0, 1) := by decide +kernel
theorem dX3_seenByEvery_1 : decode cX3_seenByEvery 1 = .ok (.invokevirtual 37, 3) := by decide +kernel
theorem dX3_seenByEvery_4 : decode cX3_seenByEvery 4 = .ok (.istore_n 3, 1) := by decide +kernel
theorem dX3_seenByEvery_5 : decode cX3_seenByEvery 5 = .ok (.iconst 0, 1) := by decide +kernel
theorem dX3_seenByEvery_6 : decode cX3_seenByEvery 6 = .ok (.istore 4, 2) := by decide +kernel
theorem dX3_seenByEvery_8 : decode cX3_seenByEvery 8 = .ok (.iload 4, 2) := by decide +kernel
theorem dX3_seenByEvery_10 : decode cX3_seenByEvery 10 = .ok (.iconst 4, 1) := by decide +kernel
theorem dX3_seenByEvery_11 : decode cX3_seenByEvery 11 = .ok (.if_icmp .ge 30, 3) := by decide +kernel
theorem dX3_seenByEvery_14 : decode cX3_seenByEvery 14 = .ok (.iload_n 1, 1) := by decide +kernel
theorem dX3_seenByEvery_15 : decode cX3_seenByEvery 15 = .ok (.iload 4, 2) := by decide +kernel
theorem dX3_seenByEvery_17 : decode cX3_seenByEvery 17 = .ok (.invokestatic 27, 3) := by decide +kernel
theorem dX3_seenByEvery_20 : decode cX3_seenByEvery 20 = .ok (.ifCond .eq 15, 3) := by decide +kernel
theorem dX3_seenByEvery_23 : decode cX3_seenByEvery 23 = .ok (.iload_n 3, 1) := by decide +kernel
theorem dX3_seenByEvery_24 : decode cX3_seenByEvery 24 = .ok (.aload_n 0, 1) := by decide +kernel
theorem dX3_seenByEvery_25 : decode cX3_seenByEvery 25 = .ok (.getfield 17, 3) := by decide +kernel
theorem dX3_seenByEvery_28 : decode cX3_seenByEvery 28 = .ok (.iload 4, 2) := by decide +kernel
theorem dX3_seenByEvery_30 : decode cX3_seenByEvery 30 = .ok (.aaload, 1) := by decide +kernel
theorem dX3_seenByEvery_31 : decode cX3_seenByEvery 31 = .ok (.iload_n 2, 1) := by decide +kernel
theorem dX3_seenByEvery_32 : decode cX3_seenByEvery 32 = .ok (.iaload, 1) := by decide +kernel
theorem dX3_seenByEvery_33 : decode cX3_seenByEvery 33 = .ok (.iand, 1) := by decide +kernel
theorem dX3_seenByEvery_34 : decode cX3_seenByEvery 34 = .ok (.istore_n 3, 1) := by decide +kernel
theorem dX3_seenByEvery_35 : decode cX3_seenByEvery 35 = .ok (.iinc 4 1, 3) := by decide +kernel
theorem dX3_seenByEvery_38 : decode cX3_seenByEvery 38 = .ok (.goto (-30), 3) := by decide +kernel
theorem dX3_seenByEvery_41 : decode cX3_seenByEvery 41 = .ok (.iload_n 3, 1) := by decide +kernel
theorem dX3_seenByEvery_42 : decode cX3_seenByEvery 42 = .ok (.ireturn, 1) := by decide +kernel
set_option maxRecDepth 20000 in
theorem ggX3_reachableFrom_X3_seenBySome : GoodIn wsX3_reachableFrom wsX3_seenBySome := goodIn_r _ [6, 7, 8, 9, 10, 11, 12, 13, 14] (by decide +kernel) (by decide +kernel)
set_option maxRecDepth 20000 in
theorem gX3_reachableFrom_X3_seenBySome : GoodIn wsX3_reachableFrom (wsV RX3 41 RX3 yX3_seenBySome wsX3_seenBySome) := goodIn_app (goodIn_of _ (by decide +kernel)) ggX3_reachableFrom_X3_seenBySome
set_option maxRecDepth 20000 in
theorem ggX3_reachableFrom_X4_contains : GoodIn wsX3_reachableFrom wsX4_contains := goodIn_r _ [10] (by decide +kernel) (by decide +kernel)
set_option maxRecDepth 20000 in
theorem gX3_reachableFrom_X4_contains_n27 : GoodIn wsX3_reachableFrom (wsX4_contains) := ggX3_reachableFrom_X4_contains
theorem dX3_reachableFrom_0 : decode cX3_reachableFrom 0 = .ok (.aload_n 0, 1) := by decide +kernel
theorem dX3_reachableFrom_1 : decode cX3_reachableFrom 1 = .ok (.iload_n 1, 1) := by decide +kernel
theorem dX3_reachableFrom_2 : decode cX3_reachableFrom 2 = .ok (.iload_n 2, 1) := by decide +kernel
theorem dX3_reachableFrom_3 : decode cX3_reachableFrom 3 = .ok (.invokevirtual 41, 3) := by decide +kernel
theorem dX3_reachableFrom_6 : decode cX3_reachableFrom 6 = .ok (.istore_n 3, 1) := by decide +kernel
theorem dX3_reachableFrom_7 : decode cX3_reachableFrom 7 = .ok (.iconst 0, 1) := by decide +kernel
theorem dX3_reachableFrom_8 : decode cX3_reachableFrom 8 = .ok (.istore 4, 2) := by decide +kernel
theorem dX3_reachableFrom_10 : decode cX3_reachableFrom 10 = .ok (.iload 4, 2) := by decide +kernel
theorem dX3_reachableFrom_12 : decode cX3_reachableFrom 12 = .ok (.aload_n 0, 1) := by decide +kernel
theorem dX3_reachableFrom_13 : decode cX3_reachableFrom 13 = .ok (.getfield 20, 3) := by decide +kernel
theorem dX3_reachableFrom_16 : decode cX3_reachableFrom 16 = .ok (.if_icmp .ge 58, 3) := by decide +kernel
theorem dX3_reachableFrom_19 : decode cX3_reachableFrom 19 = .ok (.iload_n 3, 1) := by decide +kernel
theorem dX3_reachableFrom_20 : decode cX3_reachableFrom 20 = .ok (.istore 5, 2) := by decide +kernel
theorem dX3_reachableFrom_22 : decode cX3_reachableFrom 22 = .ok (.iconst 0, 1) := by decide +kernel
theorem dX3_reachableFrom_23 : decode cX3_reachableFrom 23 = .ok (.istore 6, 2) := by decide +kernel
theorem dX3_reachableFrom_25 : decode cX3_reachableFrom 25 = .ok (.iload 6, 2) := by decide +kernel
theorem dX3_reachableFrom_27 : decode cX3_reachableFrom 27 = .ok (.aload_n 0, 1) := by decide +kernel
theorem dX3_reachableFrom_28 : decode cX3_reachableFrom 28 = .ok (.getfield 20, 3) := by decide +kernel
theorem dX3_reachableFrom_31 : decode cX3_reachableFrom 31 = .ok (.if_icmp .ge 28, 3) := by decide +kernel
theorem dX3_reachableFrom_34 : decode cX3_reachableFrom 34 = .ok (.iload_n 3, 1) := by decide +kernel
theorem dX3_reachableFrom_35 : decode cX3_reachableFrom 35 = .ok (.iload 6, 2) := by decide +kernel
theorem dX3_reachableFrom_37 : decode cX3_reachableFrom 37 = .ok (.invokestatic 27, 3) := by decide +kernel
theorem dX3_reachableFrom_40 : decode cX3_reachableFrom 40 = .ok (.ifCond .eq 13, 3) := by decide +kernel
theorem dX3_reachableFrom_43 : decode cX3_reachableFrom 43 = .ok (.iload_n 3, 1) := by decide +kernel
theorem dX3_reachableFrom_44 : decode cX3_reachableFrom 44 = .ok (.aload_n 0, 1) := by decide +kernel
theorem dX3_reachableFrom_45 : decode cX3_reachableFrom 45 = .ok (.iload_n 1, 1) := by decide +kernel
theorem dX3_reachableFrom_46 : decode cX3_reachableFrom 46 = .ok (.iload 6, 2) := by decide +kernel
theorem dX3_reachableFrom_48 : decode cX3_reachableFrom 48 = .ok (.invokevirtual 41, 3) := by decide +kernel
theorem dX3_reachableFrom_51 : decode cX3_reachableFrom 51 = .ok (.ior, 1) := by decide +kernel
theorem dX3_reachableFrom_52 : decode cX3_reachableFrom 52 = .ok (.istore_n 3, 1) := by decide +kernel
theorem dX3_reachableFrom_53 : decode cX3_reachableFrom 53 = .ok (.iinc 6 1, 3) := by decide +kernel
theorem dX3_reachableFrom_56 : decode cX3_reachableFrom 56 = .ok (.goto (-31), 3) := by decide +kernel
theorem dX3_reachableFrom_59 : decode cX3_reachableFrom 59 = .ok (.iload_n 3, 1) := by decide +kernel
theorem dX3_reachableFrom_60 : decode cX3_reachableFrom 60 = .ok (.iload 5, 2) := by decide +kernel
theorem dX3_reachableFrom_62 : decode cX3_reachableFrom 62 = .ok (.if_icmp .ne 6, 3) := by decide +kernel
theorem dX3_reachableFrom_65 : decode cX3_reachableFrom 65 = .ok (.goto 9, 3) := by decide +kernel
theorem dX3_reachableFrom_68 : decode cX3_reachableFrom 68 = .ok (.iinc 4 1, 3) := by decide +kernel
theorem dX3_reachableFrom_71 : decode cX3_reachableFrom 71 = .ok (.goto (-61), 3) := by decide +kernel
theorem dX3_reachableFrom_74 : decode cX3_reachableFrom 74 = .ok (.iload_n 3, 1) := by decide +kernel
theorem dX3_reachableFrom_75 : decode cX3_reachableFrom 75 = .ok (.ireturn, 1) := by decide +kernel
set_option maxRecDepth 20000 in
theorem ggX3_worldsWith_X4_contains : GoodIn wsX3_worldsWith wsX4_contains := goodIn_r _ [5] (by decide +kernel) (by decide +kernel)
set_option maxRecDepth 20000 in
theorem gX3_worldsWith_X4_contains_n27 : GoodIn wsX3_worldsWith (wsX4_contains) := ggX3_worldsWith_X4_contains
set_option maxRecDepth 20000 in
theorem ggX3_worldsWith_X4_single : GoodIn wsX3_worldsWith wsX4_single := goodIn_r _ [7] (by decide +kernel) (by decide +kernel)
set_option maxRecDepth 20000 in
theorem gX3_worldsWith_X4_single_n45 : GoodIn wsX3_worldsWith (wsX4_single) := ggX3_worldsWith_X4_single
theorem dX3_worldsWith_0 : decode cX3_worldsWith 0 = .ok (.iconst 0, 1) := by decide +kernel
theorem dX3_worldsWith_1 : decode cX3_worldsWith 1 = .ok (.istore_n 2, 1) := by decide +kernel
theorem dX3_worldsWith_2 : decode cX3_worldsWith 2 = .ok (.iconst 0, 1) := by decide +kernel
theorem dX3_worldsWith_3 : decode cX3_worldsWith 3 = .ok (.istore_n 3, 1) := by decide +kernel
theorem dX3_worldsWith_4 : decode cX3_worldsWith 4 = .ok (.iload_n 3, 1) := by decide +kernel
theorem dX3_worldsWith_5 : decode cX3_worldsWith 5 = .ok (.aload_n 0, 1) := by decide +kernel
theorem dX3_worldsWith_6 : decode cX3_worldsWith 6 = .ok (.getfield 20, 3) := by decide +kernel
theorem dX3_worldsWith_9 : decode cX3_worldsWith 9 = .ok (.if_icmp .ge 29, 3) := by decide +kernel
theorem dX3_worldsWith_12 : decode cX3_worldsWith 12 = .ok (.aload_n 0, 1) := by decide +kernel
theorem dX3_worldsWith_13 : decode cX3_worldsWith 13 = .ok (.getfield 9, 3) := by decide +kernel
theorem dX3_worldsWith_16 : decode cX3_worldsWith 16 = .ok (.iload_n 3, 1) := by decide +kernel
theorem dX3_worldsWith_17 : decode cX3_worldsWith 17 = .ok (.iaload, 1) := by decide +kernel
theorem dX3_worldsWith_18 : decode cX3_worldsWith 18 = .ok (.iload_n 1, 1) := by decide +kernel
theorem dX3_worldsWith_19 : decode cX3_worldsWith 19 = .ok (.invokestatic 27, 3) := by decide +kernel
theorem dX3_worldsWith_22 : decode cX3_worldsWith 22 = .ok (.ifCond .eq 10, 3) := by decide +kernel
theorem dX3_worldsWith_25 : decode cX3_worldsWith 25 = .ok (.iload_n 2, 1) := by decide +kernel
theorem dX3_worldsWith_26 : decode cX3_worldsWith 26 = .ok (.iload_n 3, 1) := by decide +kernel
theorem dX3_worldsWith_27 : decode cX3_worldsWith 27 = .ok (.invokestatic 45, 3) := by decide +kernel
theorem dX3_worldsWith_30 : decode cX3_worldsWith 30 = .ok (.ior, 1) := by decide +kernel
theorem dX3_worldsWith_31 : decode cX3_worldsWith 31 = .ok (.istore_n 2, 1) := by decide +kernel
theorem dX3_worldsWith_32 : decode cX3_worldsWith 32 = .ok (.iinc 3 1, 3) := by decide +kernel
theorem dX3_worldsWith_35 : decode cX3_worldsWith 35 = .ok (.goto (-31), 3) := by decide +kernel
theorem dX3_worldsWith_38 : decode cX3_worldsWith 38 = .ok (.iload_n 2, 1) := by decide +kernel
theorem dX3_worldsWith_39 : decode cX3_worldsWith 39 = .ok (.ireturn, 1) := by decide +kernel
set_option maxRecDepth 20000 in
theorem ggX3_sameAtomsOver_X4_contains : GoodIn wsX3_sameAtomsOver wsX4_contains := goodIn_r _ [5] (by decide +kernel) (by decide +kernel)
set_option maxRecDepth 20000 in
theorem gX3_sameAtomsOver_X4_contains_n27 : GoodIn wsX3_sameAtomsOver (wsX4_contains) := ggX3_sameAtomsOver_X4_contains
theorem dX3_sameAtomsOver_0 : decode cX3_sameAtomsOver 0 = .ok (.bipush 63, 2) := by decide +kernel
theorem dX3_sameAtomsOver_2 : decode cX3_sameAtomsOver 2 = .ok (.istore_n 2, 1) := by decide +kernel
theorem dX3_sameAtomsOver_3 : decode cX3_sameAtomsOver 3 = .ok (.bipush 63, 2) := by decide +kernel
theorem dX3_sameAtomsOver_5 : decode cX3_sameAtomsOver 5 = .ok (.istore_n 3, 1) := by decide +kernel
theorem dX3_sameAtomsOver_6 : decode cX3_sameAtomsOver 6 = .ok (.iconst 0, 1) := by decide +kernel
theorem dX3_sameAtomsOver_7 : decode cX3_sameAtomsOver 7 = .ok (.istore 4, 2) := by decide +kernel
theorem dX3_sameAtomsOver_9 : decode cX3_sameAtomsOver 9 = .ok (.iload 4, 2) := by decide +kernel
theorem dX3_sameAtomsOver_11 : decode cX3_sameAtomsOver 11 = .ok (.aload_n 0, 1) := by decide +kernel
theorem dX3_sameAtomsOver_12 : decode cX3_sameAtomsOver 12 = .ok (.getfield 20, 3) := by decide +kernel
theorem dX3_sameAtomsOver_15 : decode cX3_sameAtomsOver 15 = .ok (.if_icmp .ge 40, 3) := by decide +kernel
theorem dX3_sameAtomsOver_18 : decode cX3_sameAtomsOver 18 = .ok (.iload_n 1, 1) := by decide +kernel
theorem dX3_sameAtomsOver_19 : decode cX3_sameAtomsOver 19 = .ok (.iload 4, 2) := by decide +kernel
theorem dX3_sameAtomsOver_21 : decode cX3_sameAtomsOver 21 = .ok (.invokestatic 27, 3) := by decide +kernel
theorem dX3_sameAtomsOver_24 : decode cX3_sameAtomsOver 24 = .ok (.ifCond .eq 25, 3) := by decide +kernel
theorem dX3_sameAtomsOver_27 : decode cX3_sameAtomsOver 27 = .ok (.iload_n 2, 1) := by decide +kernel
theorem dX3_sameAtomsOver_28 : decode cX3_sameAtomsOver 28 = .ok (.aload_n 0, 1) := by decide +kernel
theorem dX3_sameAtomsOver_29 : decode cX3_sameAtomsOver 29 = .ok (.getfield 9, 3) := by decide +kernel
theorem dX3_sameAtomsOver_32 : decode cX3_sameAtomsOver 32 = .ok (.iload 4, 2) := by decide +kernel
theorem dX3_sameAtomsOver_34 : decode cX3_sameAtomsOver 34 = .ok (.iaload, 1) := by decide +kernel
theorem dX3_sameAtomsOver_35 : decode cX3_sameAtomsOver 35 = .ok (.iand, 1) := by decide +kernel
theorem dX3_sameAtomsOver_36 : decode cX3_sameAtomsOver 36 = .ok (.istore_n 2, 1) := by decide +kernel
theorem dX3_sameAtomsOver_37 : decode cX3_sameAtomsOver 37 = .ok (.iload_n 3, 1) := by decide +kernel
theorem dX3_sameAtomsOver_38 : decode cX3_sameAtomsOver 38 = .ok (.aload_n 0, 1) := by decide +kernel
theorem dX3_sameAtomsOver_39 : decode cX3_sameAtomsOver 39 = .ok (.getfield 9, 3) := by decide +kernel
theorem dX3_sameAtomsOver_42 : decode cX3_sameAtomsOver 42 = .ok (.iload 4, 2) := by decide +kernel
theorem dX3_sameAtomsOver_44 : decode cX3_sameAtomsOver 44 = .ok (.iaload, 1) := by decide +kernel
theorem dX3_sameAtomsOver_45 : decode cX3_sameAtomsOver 45 = .ok (.iconst (-1), 1) := by decide +kernel
theorem dX3_sameAtomsOver_46 : decode cX3_sameAtomsOver 46 = .ok (.ixor, 1) := by decide +kernel
theorem dX3_sameAtomsOver_47 : decode cX3_sameAtomsOver 47 = .ok (.iand, 1) := by decide +kernel
theorem dX3_sameAtomsOver_48 : decode cX3_sameAtomsOver 48 = .ok (.istore_n 3, 1) := by decide +kernel
theorem dX3_sameAtomsOver_49 : decode cX3_sameAtomsOver 49 = .ok (.iinc 4 1, 3) := by decide +kernel
theorem dX3_sameAtomsOver_52 : decode cX3_sameAtomsOver 52 = .ok (.goto (-43), 3) := by decide +kernel
theorem dX3_sameAtomsOver_55 : decode cX3_sameAtomsOver 55 = .ok (.iload_n 2, 1) := by decide +kernel
theorem dX3_sameAtomsOver_56 : decode cX3_sameAtomsOver 56 = .ok (.iload_n 3, 1) := by decide +kernel
theorem dX3_sameAtomsOver_57 : decode cX3_sameAtomsOver 57 = .ok (.ior, 1) := by decide +kernel
theorem dX3_sameAtomsOver_58 : decode cX3_sameAtomsOver 58 = .ok (.ireturn, 1) := by decide +kernel
set_option maxRecDepth 20000 in
theorem ggX3_keepOnly_J6_bitCount_0f7a4 : GoodIn wsX3_keepOnly wsJ6_bitCount_0f7a4 := goodIn_r _ [8, 9, 10, 11] (by decide +kernel) (by decide +kernel)
set_option maxRecDepth 20000 in
theorem gX3_keepOnly_J6_bitCount_0f7a4 : GoodIn wsX3_keepOnly (va_wsS RX3 31 yJ6_bitCount_0f7a4 wsJ6_bitCount_0f7a4) := goodIn_app (goodIn_of _ (by decide +kernel)) ggX3_keepOnly_J6_bitCount_0f7a4
set_option maxRecDepth 20000 in
theorem ggX3_keepOnly_X4_contains : GoodIn wsX3_keepOnly wsX4_contains := goodIn_r _ [14] (by decide +kernel) (by decide +kernel)
set_option maxRecDepth 20000 in
theorem gX3_keepOnly_X4_contains_n27 : GoodIn wsX3_keepOnly (wsX4_contains) := ggX3_keepOnly_X4_contains
set_option maxRecDepth 20000 in
theorem ggX3_keepOnly_X4_renumbered : GoodIn wsX3_keepOnly wsX4_renumbered := goodIn_r _ [16, 17, 12, 13, 14, 18, 19, 20, 21, 22, 23, 24, 6, 7, 8, 9, 10, 11] (by decide +kernel) (by decide +kernel)
set_option maxRecDepth 20000 in
theorem gX3_keepOnly_X4_renumbered_n48 : GoodIn wsX3_keepOnly (wsX4_renumbered) := ggX3_keepOnly_X4_renumbered
set_option maxRecDepth 20000 in
theorem ggX3_keepOnly_X4_rankIn : GoodIn wsX3_keepOnly wsX4_rankIn := goodIn_r _ [20, 21, 22, 13, 23, 24, 6, 7, 8, 9, 10, 11] (by decide +kernel) (by decide +kernel)
set_option maxRecDepth 20000 in
theorem gX3_keepOnly_X4_rankIn_n51 : GoodIn wsX3_keepOnly (wsX4_rankIn) := ggX3_keepOnly_X4_rankIn
set_option maxRecDepth 20000 in
theorem ggX3_keepOnly_X3_shrinkTo : GoodIn wsX3_keepOnly wsX3_shrinkTo := goodIn_r _ [29, 1, 2, 3, 30, 31, 32, 33] (by decide +kernel) (by decide +kernel)
set_option maxRecDepth 20000 in
theorem gX3_keepOnly_X3_shrinkTo : GoodIn wsX3_keepOnly (wsV RX3 54 RX3 yX3_shrinkTo wsX3_shrinkTo) := goodIn_app (goodIn_of _ (by decide +kernel)) ggX3_keepOnly_X3_shrinkTo
theorem dX3_keepOnly_0 : decode cX3_keepOnly 0 = .ok (.aload_n 0, 1) := by decide +kernel
theorem dX3_keepOnly_1 : decode cX3_keepOnly 1 = .ok (.getfield 20, 3) := by decide +kernel
theorem dX3_keepOnly_4 : decode cX3_keepOnly 4 = .ok (.iload_n 1, 1) := by decide +kernel
theorem dX3_keepOnly_5 : decode cX3_keepOnly 5 = .ok (.invokestatic 31, 3) := by decide +kernel
theorem dX3_keepOnly_8 : decode cX3_keepOnly 8 = .ok (.isub, 1) := by decide +kernel
theorem dX3_keepOnly_9 : decode cX3_keepOnly 9 = .ok (.istore_n 2, 1) := by decide +kernel
theorem dX3_keepOnly_10 : decode cX3_keepOnly 10 = .ok (.iconst 0, 1) := by decide +kernel
theorem dX3_keepOnly_11 : decode cX3_keepOnly 11 = .ok (.istore_n 3, 1) := by decide +kernel
theorem dX3_keepOnly_12 : decode cX3_keepOnly 12 = .ok (.iconst 0, 1) := by decide +kernel
theorem dX3_keepOnly_13 : decode cX3_keepOnly 13 = .ok (.istore 4, 2) := by decide +kernel
theorem dX3_keepOnly_15 : decode cX3_keepOnly 15 = .ok (.iload 4, 2) := by decide +kernel
theorem dX3_keepOnly_17 : decode cX3_keepOnly 17 = .ok (.aload_n 0, 1) := by decide +kernel
theorem dX3_keepOnly_18 : decode cX3_keepOnly 18 = .ok (.getfield 20, 3) := by decide +kernel
theorem dX3_keepOnly_21 : decode cX3_keepOnly 21 = .ok (.if_icmp .ge 72, 3) := by decide +kernel
theorem dX3_keepOnly_24 : decode cX3_keepOnly 24 = .ok (.iload_n 1, 1) := by decide +kernel
theorem dX3_keepOnly_25 : decode cX3_keepOnly 25 = .ok (.iload 4, 2) := by decide +kernel
theorem dX3_keepOnly_27 : decode cX3_keepOnly 27 = .ok (.invokestatic 27, 3) := by decide +kernel
theorem dX3_keepOnly_30 : decode cX3_keepOnly 30 = .ok (.ifCond .eq 57, 3) := by decide +kernel
theorem dX3_keepOnly_33 : decode cX3_keepOnly 33 = .ok (.aload_n 0, 1) := by decide +kernel
theorem dX3_keepOnly_34 : decode cX3_keepOnly 34 = .ok (.getfield 9, 3) := by decide +kernel
theorem dX3_keepOnly_37 : decode cX3_keepOnly 37 = .ok (.iload_n 3, 1) := by decide +kernel
theorem dX3_keepOnly_38 : decode cX3_keepOnly 38 = .ok (.aload_n 0, 1) := by decide +kernel
theorem dX3_keepOnly_39 : decode cX3_keepOnly 39 = .ok (.getfield 9, 3) := by decide +kernel
theorem dX3_keepOnly_42 : decode cX3_keepOnly 42 = .ok (.iload 4, 2) := by decide +kernel
theorem dX3_keepOnly_44 : decode cX3_keepOnly 44 = .ok (.iaload, 1) := by decide +kernel
theorem dX3_keepOnly_45 : decode cX3_keepOnly 45 = .ok (.iastore, 1) := by decide +kernel
theorem dX3_keepOnly_46 : decode cX3_keepOnly 46 = .ok (.iconst 0, 1) := by decide +kernel
theorem dX3_keepOnly_47 : decode cX3_keepOnly 47 = .ok (.istore 5, 2) := by decide +kernel
theorem dX3_keepOnly_49 : decode cX3_keepOnly 49 = .ok (.iload 5, 2) := by decide +kernel
theorem dX3_keepOnly_51 : decode cX3_keepOnly 51 = .ok (.iconst 4, 1) := by decide +kernel
theorem dX3_keepOnly_52 : decode cX3_keepOnly 52 = .ok (.if_icmp .ge 32, 3) := by decide +kernel
theorem dX3_keepOnly_55 : decode cX3_keepOnly 55 = .ok (.aload_n 0, 1) := by decide +kernel
theorem dX3_keepOnly_56 : decode cX3_keepOnly 56 = .ok (.getfield 17, 3) := by decide +kernel
theorem dX3_keepOnly_59 : decode cX3_keepOnly 59 = .ok (.iload 5, 2) := by decide +kernel
theorem dX3_keepOnly_61 : decode cX3_keepOnly 61 = .ok (.aaload, 1) := by decide +kernel
theorem dX3_keepOnly_62 : decode cX3_keepOnly 62 = .ok (.iload_n 3, 1) := by decide +kernel
theorem dX3_keepOnly_63 : decode cX3_keepOnly 63 = .ok (.aload_n 0, 1) := by decide +kernel
theorem dX3_keepOnly_64 : decode cX3_keepOnly 64 = .ok (.getfield 17, 3) := by decide +kernel
theorem dX3_keepOnly_67 : decode cX3_keepOnly 67 = .ok (.iload 5, 2) := by decide +kernel
theorem dX3_keepOnly_69 : decode cX3_keepOnly 69 = .ok (.aaload, 1) := by decide +kernel
theorem dX3_keepOnly_70 : decode cX3_keepOnly 70 = .ok (.iload 4, 2) := by decide +kernel
theorem dX3_keepOnly_72 : decode cX3_keepOnly 72 = .ok (.iaload, 1) := by decide +kernel
theorem dX3_keepOnly_73 : decode cX3_keepOnly 73 = .ok (.iload_n 1, 1) := by decide +kernel
theorem dX3_keepOnly_74 : decode cX3_keepOnly 74 = .ok (.invokestatic 48, 3) := by decide +kernel
theorem dX3_keepOnly_77 : decode cX3_keepOnly 77 = .ok (.iastore, 1) := by decide +kernel
theorem dX3_keepOnly_78 : decode cX3_keepOnly 78 = .ok (.iinc 5 1, 3) := by decide +kernel
theorem dX3_keepOnly_81 : decode cX3_keepOnly 81 = .ok (.goto (-32), 3) := by decide +kernel
theorem dX3_keepOnly_84 : decode cX3_keepOnly 84 = .ok (.iinc 3 1, 3) := by decide +kernel
theorem dX3_keepOnly_87 : decode cX3_keepOnly 87 = .ok (.iinc 4 1, 3) := by decide +kernel
theorem dX3_keepOnly_90 : decode cX3_keepOnly 90 = .ok (.goto (-75), 3) := by decide +kernel
theorem dX3_keepOnly_93 : decode cX3_keepOnly 93 = .ok (.aload_n 0, 1) := by decide +kernel
theorem dX3_keepOnly_94 : decode cX3_keepOnly 94 = .ok (.iload_n 1, 1) := by decide +kernel
theorem dX3_keepOnly_95 : decode cX3_keepOnly 95 = .ok (.aload_n 0, 1) := by decide +kernel
theorem dX3_keepOnly_96 : decode cX3_keepOnly 96 = .ok (.getfield 24, 3) := by decide +kernel
theorem dX3_keepOnly_99 : decode cX3_keepOnly 99 = .ok (.invokestatic 51, 3) := by decide +kernel
theorem dX3_keepOnly_102 : decode cX3_keepOnly 102 = .ok (.putfield 24, 3) := by decide +kernel
theorem dX3_keepOnly_105 : decode cX3_keepOnly 105 = .ok (.aload_n 0, 1) := by decide +kernel
theorem dX3_keepOnly_106 : decode cX3_keepOnly 106 = .ok (.iload_n 3, 1) := by decide +kernel
theorem dX3_keepOnly_107 : decode cX3_keepOnly 107 = .ok (.invokevirtual 54, 3) := by decide +kernel
theorem dX3_keepOnly_110 : decode cX3_keepOnly 110 = .ok (.iload_n 2, 1) := by decide +kernel
theorem dX3_keepOnly_111 : decode cX3_keepOnly 111 = .ok (.ireturn, 1) := by decide +kernel
set_option maxRecDepth 20000 in
theorem ggX3_cutBetween_X4_contains : GoodIn wsX3_cutBetween wsX4_contains := goodIn_r _ [5] (by decide +kernel) (by decide +kernel)
set_option maxRecDepth 20000 in
theorem gX3_cutBetween_X4_contains_n27 : GoodIn wsX3_cutBetween (wsX4_contains) := ggX3_cutBetween_X4_contains
set_option maxRecDepth 20000 in
theorem ggX3_cutBetween_J6_bitCount_0f7a4 : GoodIn wsX3_cutBetween wsJ6_bitCount_0f7a4 := goodIn_r _ [9, 10, 11, 12] (by decide +kernel) (by decide +kernel)
set_option maxRecDepth 20000 in
theorem gX3_cutBetween_J6_bitCount_0f7a4 : GoodIn wsX3_cutBetween (va_wsS RX3 31 yJ6_bitCount_0f7a4 wsJ6_bitCount_0f7a4) := goodIn_app (goodIn_of _ (by decide +kernel)) ggX3_cutBetween_J6_bitCount_0f7a4
theorem dX3_cutBetween_0 : decode cX3_cutBetween 0 = .ok (.iconst 0, 1) := by decide +kernel
theorem dX3_cutBetween_1 : decode cX3_cutBetween 1 = .ok (.istore_n 3, 1) := by decide +kernel
theorem dX3_cutBetween_2 : decode cX3_cutBetween 2 = .ok (.iconst 0, 1) := by decide +kernel
theorem dX3_cutBetween_3 : decode cX3_cutBetween 3 = .ok (.istore 4, 2) := by decide +kernel
theorem dX3_cutBetween_5 : decode cX3_cutBetween 5 = .ok (.iload 4, 2) := by decide +kernel
theorem dX3_cutBetween_7 : decode cX3_cutBetween 7 = .ok (.iconst 4, 1) := by decide +kernel
theorem dX3_cutBetween_8 : decode cX3_cutBetween 8 = .ok (.if_icmp .ge 90, 3) := by decide +kernel
theorem dX3_cutBetween_11 : decode cX3_cutBetween 11 = .ok (.iload_n 1, 1) := by decide +kernel
theorem dX3_cutBetween_12 : decode cX3_cutBetween 12 = .ok (.iload 4, 2) := by decide +kernel
theorem dX3_cutBetween_14 : decode cX3_cutBetween 14 = .ok (.invokestatic 27, 3) := by decide +kernel
theorem dX3_cutBetween_17 : decode cX3_cutBetween 17 = .ok (.ifCond .eq 75, 3) := by decide +kernel
theorem dX3_cutBetween_20 : decode cX3_cutBetween 20 = .ok (.iconst 0, 1) := by decide +kernel
theorem dX3_cutBetween_21 : decode cX3_cutBetween 21 = .ok (.istore 5, 2) := by decide +kernel
theorem dX3_cutBetween_23 : decode cX3_cutBetween 23 = .ok (.iload 5, 2) := by decide +kernel
theorem dX3_cutBetween_25 : decode cX3_cutBetween 25 = .ok (.aload_n 0, 1) := by decide +kernel
theorem dX3_cutBetween_26 : decode cX3_cutBetween 26 = .ok (.getfield 20, 3) := by decide +kernel
theorem dX3_cutBetween_29 : decode cX3_cutBetween 29 = .ok (.if_icmp .ge 63, 3) := by decide +kernel
theorem dX3_cutBetween_32 : decode cX3_cutBetween 32 = .ok (.iload_n 2, 1) := by decide +kernel
theorem dX3_cutBetween_33 : decode cX3_cutBetween 33 = .ok (.iload 5, 2) := by decide +kernel
theorem dX3_cutBetween_35 : decode cX3_cutBetween 35 = .ok (.invokestatic 27, 3) := by decide +kernel
theorem dX3_cutBetween_38 : decode cX3_cutBetween 38 = .ok (.ifCond .eq 7, 3) := by decide +kernel
theorem dX3_cutBetween_41 : decode cX3_cutBetween 41 = .ok (.iload_n 2, 1) := by decide +kernel
theorem dX3_cutBetween_42 : decode cX3_cutBetween 42 = .ok (.goto 6, 3) := by decide +kernel
theorem dX3_cutBetween_45 : decode cX3_cutBetween 45 = .ok (.iload_n 2, 1) := by decide +kernel
theorem dX3_cutBetween_46 : decode cX3_cutBetween 46 = .ok (.iconst (-1), 1) := by decide +kernel
theorem dX3_cutBetween_47 : decode cX3_cutBetween 47 = .ok (.ixor, 1) := by decide +kernel
theorem dX3_cutBetween_48 : decode cX3_cutBetween 48 = .ok (.istore 6, 2) := by decide +kernel
theorem dX3_cutBetween_50 : decode cX3_cutBetween 50 = .ok (.iload_n 3, 1) := by decide +kernel
theorem dX3_cutBetween_51 : decode cX3_cutBetween 51 = .ok (.aload_n 0, 1) := by decide +kernel
theorem dX3_cutBetween_52 : decode cX3_cutBetween 52 = .ok (.getfield 17, 3) := by decide +kernel
theorem dX3_cutBetween_55 : decode cX3_cutBetween 55 = .ok (.iload 4, 2) := by decide +kernel
theorem dX3_cutBetween_57 : decode cX3_cutBetween 57 = .ok (.aaload, 1) := by decide +kernel
theorem dX3_cutBetween_58 : decode cX3_cutBetween 58 = .ok (.iload 5, 2) := by decide +kernel
theorem dX3_cutBetween_60 : decode cX3_cutBetween 60 = .ok (.iaload, 1) := by decide +kernel
theorem dX3_cutBetween_61 : decode cX3_cutBetween 61 = .ok (.iload 6, 2) := by decide +kernel
theorem dX3_cutBetween_63 : decode cX3_cutBetween 63 = .ok (.iconst (-1), 1) := by decide +kernel
theorem dX3_cutBetween_64 : decode cX3_cutBetween 64 = .ok (.ixor, 1) := by decide +kernel
theorem dX3_cutBetween_65 : decode cX3_cutBetween 65 = .ok (.iand, 1) := by decide +kernel
theorem dX3_cutBetween_66 : decode cX3_cutBetween 66 = .ok (.invokestatic 31, 3) := by decide +kernel
theorem dX3_cutBetween_69 : decode cX3_cutBetween 69 = .ok (.iadd, 1) := by decide +kernel
theorem dX3_cutBetween_70 : decode cX3_cutBetween 70 = .ok (.istore_n 3, 1) := by decide +kernel
theorem dX3_cutBetween_71 : decode cX3_cutBetween 71 = .ok (.aload_n 0, 1) := by decide +kernel
theorem dX3_cutBetween_72 : decode cX3_cutBetween 72 = .ok (.getfield 17, 3) := by decide +kernel
theorem dX3_cutBetween_75 : decode cX3_cutBetween 75 = .ok (.iload 4, 2) := by decide +kernel
theorem dX3_cutBetween_77 : decode cX3_cutBetween 77 = .ok (.aaload, 1) := by decide +kernel
theorem dX3_cutBetween_78 : decode cX3_cutBetween 78 = .ok (.iload 5, 2) := by decide +kernel
theorem dX3_cutBetween_80 : decode cX3_cutBetween 80 = .ok (.dup2, 1) := by decide +kernel
theorem dX3_cutBetween_81 : decode cX3_cutBetween 81 = .ok (.iaload, 1) := by decide +kernel
theorem dX3_cutBetween_82 : decode cX3_cutBetween 82 = .ok (.iload 6, 2) := by decide +kernel
theorem dX3_cutBetween_84 : decode cX3_cutBetween 84 = .ok (.iand, 1) := by decide +kernel
theorem dX3_cutBetween_85 : decode cX3_cutBetween 85 = .ok (.iastore, 1) := by decide +kernel
theorem dX3_cutBetween_86 : decode cX3_cutBetween 86 = .ok (.iinc 5 1, 3) := by decide +kernel
theorem dX3_cutBetween_89 : decode cX3_cutBetween 89 = .ok (.goto (-66), 3) := by decide +kernel
theorem dX3_cutBetween_92 : decode cX3_cutBetween 92 = .ok (.iinc 4 1, 3) := by decide +kernel
theorem dX3_cutBetween_95 : decode cX3_cutBetween 95 = .ok (.goto (-90), 3) := by decide +kernel
theorem dX3_cutBetween_98 : decode cX3_cutBetween 98 = .ok (.iload_n 3, 1) := by decide +kernel
theorem dX3_cutBetween_99 : decode cX3_cutBetween 99 = .ok (.ireturn, 1) := by decide +kernel
set_option maxRecDepth 20000 in
theorem ggX3_copyFor_X4_contains : GoodIn wsX3_copyFor wsX4_contains := goodIn_r _ [7] (by decide +kernel) (by decide +kernel)
set_option maxRecDepth 20000 in
theorem gX3_copyFor_X4_contains_n27 : GoodIn wsX3_copyFor (wsX4_contains) := ggX3_copyFor_X4_contains
set_option maxRecDepth 20000 in
theorem ggX3_copyFor_X3_append : GoodIn wsX3_copyFor wsX3_append := goodIn_r _ [12, 1, 2, 29, 30, 31, 32] (by decide +kernel) (by decide +kernel)
set_option maxRecDepth 20000 in
theorem gX3_copyFor_X3_append : GoodIn wsX3_copyFor (wsV RX3 58 RX3 yX3_append wsX3_append) := goodIn_app (goodIn_of _ (by decide +kernel)) ggX3_copyFor_X3_append
set_option maxRecDepth 20000 in
theorem ggX3_copyFor_X4_renumbered : GoodIn wsX3_copyFor wsX4_renumbered := goodIn_r _ [14, 15, 5, 6, 7, 16, 17, 18, 19, 20, 21, 22, 23, 24, 25, 26, 27, 28] (by decide +kernel) (by decide +kernel)
set_option maxRecDepth 20000 in
theorem gX3_copyFor_X4_renumbered_n48 : GoodIn wsX3_copyFor (wsX4_renumbered) := ggX3_copyFor_X4_renumbered
set_option maxRecDepth 20000 in
theorem ggX3_copyFor_X4_rankIn : GoodIn wsX3_copyFor wsX4_rankIn := goodIn_r _ [18, 19, 20, 6, 21, 22, 23, 24, 25, 26, 27, 28] (by decide +kernel) (by decide +kernel)
set_option maxRecDepth 20000 in
theorem gX3_copyFor_X4_rankIn_n51 : GoodIn wsX3_copyFor (wsX4_rankIn) := ggX3_copyFor_X4_rankIn
theorem dX3_copyFor_0 : decode cX3_copyFor 0 = .ok (.aload_n 0, 1) := by decide +kernel
theorem dX3_copyFor_1 : decode cX3_copyFor 1 = .ok (.getfield 20, 3) := by decide +kernel
theorem dX3_copyFor_4 : decode cX3_copyFor 4 = .ok (.istore_n 3, 1) := by decide +kernel
theorem dX3_copyFor_5 : decode cX3_copyFor 5 = .ok (.iconst 0, 1) := by decide +kernel
theorem dX3_copyFor_6 : decode cX3_copyFor 6 = .ok (.istore 4, 2) := by decide +kernel
theorem dX3_copyFor_8 : decode cX3_copyFor 8 = .ok (.iload 4, 2) := by decide +kernel
theorem dX3_copyFor_10 : decode cX3_copyFor 10 = .ok (.iload_n 3, 1) := by decide +kernel
theorem dX3_copyFor_11 : decode cX3_copyFor 11 = .ok (.if_icmp .ge 99, 3) := by decide +kernel
theorem dX3_copyFor_14 : decode cX3_copyFor 14 = .ok (.aload_n 0, 1) := by decide +kernel
theorem dX3_copyFor_15 : decode cX3_copyFor 15 = .ok (.getfield 20, 3) := by decide +kernel
theorem dX3_copyFor_18 : decode cX3_copyFor 18 = .ok (.bipush 24, 2) := by decide +kernel
theorem dX3_copyFor_20 : decode cX3_copyFor 20 = .ok (.if_icmp .ge 90, 3) := by decide +kernel
theorem dX3_copyFor_23 : decode cX3_copyFor 23 = .ok (.iload_n 2, 1) := by decide +kernel
theorem dX3_copyFor_24 : decode cX3_copyFor 24 = .ok (.iload 4, 2) := by decide +kernel
theorem dX3_copyFor_26 : decode cX3_copyFor 26 = .ok (.invokestatic 27, 3) := by decide +kernel
theorem dX3_copyFor_29 : decode cX3_copyFor 29 = .ok (.ifCond .eq 75, 3) := by decide +kernel
theorem dX3_copyFor_32 : decode cX3_copyFor 32 = .ok (.aload_n 0, 1) := by decide +kernel
theorem dX3_copyFor_33 : decode cX3_copyFor 33 = .ok (.aload_n 0, 1) := by decide +kernel
theorem dX3_copyFor_34 : decode cX3_copyFor 34 = .ok (.getfield 9, 3) := by decide +kernel
theorem dX3_copyFor_37 : decode cX3_copyFor 37 = .ok (.iload 4, 2) := by decide +kernel
theorem dX3_copyFor_39 : decode cX3_copyFor 39 = .ok (.iaload, 1) := by decide +kernel
theorem dX3_copyFor_40 : decode cX3_copyFor 40 = .ok (.invokevirtual 58, 3) := by decide +kernel
theorem dX3_copyFor_43 : decode cX3_copyFor 43 = .ok (.istore 5, 2) := by decide +kernel
theorem dX3_copyFor_45 : decode cX3_copyFor 45 = .ok (.iconst 0, 1) := by decide +kernel
theorem dX3_copyFor_46 : decode cX3_copyFor 46 = .ok (.istore 6, 2) := by decide +kernel
theorem dX3_copyFor_48 : decode cX3_copyFor 48 = .ok (.iload 6, 2) := by decide +kernel
theorem dX3_copyFor_50 : decode cX3_copyFor 50 = .ok (.iconst 4, 1) := by decide +kernel
theorem dX3_copyFor_51 : decode cX3_copyFor 51 = .ok (.if_icmp .ge 53, 3) := by decide +kernel
theorem dX3_copyFor_54 : decode cX3_copyFor 54 = .ok (.aload_n 0, 1) := by decide +kernel
theorem dX3_copyFor_55 : decode cX3_copyFor 55 = .ok (.getfield 17, 3) := by decide +kernel
theorem dX3_copyFor_58 : decode cX3_copyFor 58 = .ok (.iload 6, 2) := by decide +kernel
theorem dX3_copyFor_60 : decode cX3_copyFor 60 = .ok (.aaload, 1) := by decide +kernel
theorem dX3_copyFor_61 : decode cX3_copyFor 61 = .ok (.iload 4, 2) := by decide +kernel
theorem dX3_copyFor_63 : decode cX3_copyFor 63 = .ok (.iaload, 1) := by decide +kernel
theorem dX3_copyFor_64 : decode cX3_copyFor 64 = .ok (.istore 7, 2) := by decide +kernel
theorem dX3_copyFor_66 : decode cX3_copyFor 66 = .ok (.aload_n 0, 1) := by decide +kernel
theorem dX3_copyFor_67 : decode cX3_copyFor 67 = .ok (.getfield 17, 3) := by decide +kernel
theorem dX3_copyFor_70 : decode cX3_copyFor 70 = .ok (.iload 6, 2) := by decide +kernel
theorem dX3_copyFor_72 : decode cX3_copyFor 72 = .ok (.aaload, 1) := by decide +kernel
theorem dX3_copyFor_73 : decode cX3_copyFor 73 = .ok (.iload 5, 2) := by decide +kernel
theorem dX3_copyFor_75 : decode cX3_copyFor 75 = .ok (.iload_n 1, 1) := by decide +kernel
theorem dX3_copyFor_76 : decode cX3_copyFor 76 = .ok (.iload 6, 2) := by decide +kernel
theorem dX3_copyFor_78 : decode cX3_copyFor 78 = .ok (.invokestatic 27, 3) := by decide +kernel
theorem dX3_copyFor_81 : decode cX3_copyFor 81 = .ok (.ifCond .eq 14, 3) := by decide +kernel
theorem dX3_copyFor_84 : decode cX3_copyFor 84 = .ok (.iload 7, 2) := by decide +kernel
theorem dX3_copyFor_86 : decode cX3_copyFor 86 = .ok (.iload_n 2, 1) := by decide +kernel
theorem dX3_copyFor_87 : decode cX3_copyFor 87 = .ok (.invokestatic 48, 3) := by decide +kernel
theorem dX3_copyFor_90 : decode cX3_copyFor 90 = .ok (.iload_n 3, 1) := by decide +kernel
theorem dX3_copyFor_91 : decode cX3_copyFor 91 = .ok (.ishl, 1) := by decide +kernel
theorem dX3_copyFor_92 : decode cX3_copyFor 92 = .ok (.goto 5, 3) := by decide +kernel
theorem dX3_copyFor_95 : decode cX3_copyFor 95 = .ok (.iload 7, 2) := by decide +kernel
theorem dX3_copyFor_97 : decode cX3_copyFor 97 = .ok (.iastore, 1) := by decide +kernel
theorem dX3_copyFor_98 : decode cX3_copyFor 98 = .ok (.iinc 6 1, 3) := by decide +kernel
theorem dX3_copyFor_101 : decode cX3_copyFor 101 = .ok (.goto (-53), 3) := by decide +kernel
theorem dX3_copyFor_104 : decode cX3_copyFor 104 = .ok (.iinc 4 1, 3) := by decide +kernel
theorem dX3_copyFor_107 : decode cX3_copyFor 107 = .ok (.goto (-99), 3) := by decide +kernel
theorem dX3_copyFor_110 : decode cX3_copyFor 110 = .ok (.aload_n 0, 1) := by decide +kernel
theorem dX3_copyFor_111 : decode cX3_copyFor 111 = .ok (.iload_n 3, 1) := by decide +kernel
theorem dX3_copyFor_112 : decode cX3_copyFor 112 = .ok (.iload_n 2, 1) := by decide +kernel
theorem dX3_copyFor_113 : decode cX3_copyFor 113 = .ok (.aload_n 0, 1) := by decide +kernel
theorem dX3_copyFor_114 : decode cX3_copyFor 114 = .ok (.getfield 24, 3) := by decide +kernel
theorem dX3_copyFor_117 : decode cX3_copyFor 117 = .ok (.invokestatic 51, 3) := by decide +kernel
theorem dX3_copyFor_120 : decode cX3_copyFor 120 = .ok (.iadd, 1) := by decide +kernel
theorem dX3_copyFor_121 : decode cX3_copyFor 121 = .ok (.putfield 24, 3) := by decide +kernel
theorem dX3_copyFor_124 : decode cX3_copyFor 124 = .ok (.return_, 1) := by decide +kernel
set_option maxRecDepth 20000 in
theorem ggX3_mergeClasses_X3_shrinkTo : GoodIn wsX3_mergeClasses wsX3_shrinkTo := goodIn_r _ [11, 1, 3, 4, 12, 13, 14, 15] (by decide +kernel) (by decide +kernel)
set_option maxRecDepth 20000 in
theorem gX3_mergeClasses_X3_shrinkTo : GoodIn wsX3_mergeClasses (wsV RX3 54 RX3 yX3_shrinkTo wsX3_shrinkTo) := goodIn_app (goodIn_of _ (by decide +kernel)) ggX3_mergeClasses_X3_shrinkTo
theorem dX3_mergeClasses_0 : decode cX3_mergeClasses 0 = .ok (.iconst 0, 1) := by decide +kernel
theorem dX3_mergeClasses_1 : decode cX3_mergeClasses 1 = .ok (.istore_n 2, 1) := by decide +kernel
theorem dX3_mergeClasses_2 : decode cX3_mergeClasses 2 = .ok (.iconst 0, 1) := by decide +kernel
theorem dX3_mergeClasses_3 : decode cX3_mergeClasses 3 = .ok (.istore_n 3, 1) := by decide +kernel
theorem dX3_mergeClasses_4 : decode cX3_mergeClasses 4 = .ok (.iload_n 3, 1) := by decide +kernel
theorem dX3_mergeClasses_5 : decode cX3_mergeClasses 5 = .ok (.aload_n 0, 1) := by decide +kernel
theorem dX3_mergeClasses_6 : decode cX3_mergeClasses 6 = .ok (.getfield 20, 3) := by decide +kernel
theorem dX3_mergeClasses_9 : decode cX3_mergeClasses 9 = .ok (.if_icmp .ge 67, 3) := by decide +kernel
theorem dX3_mergeClasses_12 : decode cX3_mergeClasses 12 = .ok (.aload_n 1, 1) := by decide +kernel
theorem dX3_mergeClasses_13 : decode cX3_mergeClasses 13 = .ok (.getfield 61, 3) := by decide +kernel
theorem dX3_mergeClasses_16 : decode cX3_mergeClasses 16 = .ok (.iload_n 3, 1) := by decide +kernel
theorem dX3_mergeClasses_17 : decode cX3_mergeClasses 17 = .ok (.iaload, 1) := by decide +kernel
theorem dX3_mergeClasses_18 : decode cX3_mergeClasses 18 = .ok (.iload_n 2, 1) := by decide +kernel
theorem dX3_mergeClasses_19 : decode cX3_mergeClasses 19 = .ok (.if_icmp .ne 51, 3) := by decide +kernel
theorem dX3_mergeClasses_22 : decode cX3_mergeClasses 22 = .ok (.aload_n 0, 1) := by decide +kernel
theorem dX3_mergeClasses_23 : decode cX3_mergeClasses 23 = .ok (.getfield 9, 3) := by decide +kernel
theorem dX3_mergeClasses_26 : decode cX3_mergeClasses 26 = .ok (.iload_n 2, 1) := by decide +kernel
theorem dX3_mergeClasses_27 : decode cX3_mergeClasses 27 = .ok (.aload_n 0, 1) := by decide +kernel
theorem dX3_mergeClasses_28 : decode cX3_mergeClasses 28 = .ok (.getfield 9, 3) := by decide +kernel
theorem dX3_mergeClasses_31 : decode cX3_mergeClasses 31 = .ok (.iload_n 3, 1) := by decide +kernel
theorem dX3_mergeClasses_32 : decode cX3_mergeClasses 32 = .ok (.iaload, 1) := by decide +kernel
theorem dX3_mergeClasses_33 : decode cX3_mergeClasses 33 = .ok (.iastore, 1) := by decide +kernel
theorem dX3_mergeClasses_34 : decode cX3_mergeClasses 34 = .ok (.iconst 0, 1) := by decide +kernel
theorem dX3_mergeClasses_35 : decode cX3_mergeClasses 35 = .ok (.istore 4, 2) := by decide +kernel
theorem dX3_mergeClasses_37 : decode cX3_mergeClasses 37 = .ok (.iload 4, 2) := by decide +kernel
theorem dX3_mergeClasses_39 : decode cX3_mergeClasses 39 = .ok (.iconst 4, 1) := by decide +kernel
theorem dX3_mergeClasses_40 : decode cX3_mergeClasses 40 = .ok (.if_icmp .ge 27, 3) := by decide +kernel
theorem dX3_mergeClasses_43 : decode cX3_mergeClasses 43 = .ok (.aload_n 0, 1) := by decide +kernel
theorem dX3_mergeClasses_44 : decode cX3_mergeClasses 44 = .ok (.getfield 17, 3) := by decide +kernel
theorem dX3_mergeClasses_47 : decode cX3_mergeClasses 47 = .ok (.iload 4, 2) := by decide +kernel
theorem dX3_mergeClasses_49 : decode cX3_mergeClasses 49 = .ok (.aaload, 1) := by decide +kernel
theorem dX3_mergeClasses_50 : decode cX3_mergeClasses 50 = .ok (.iload_n 2, 1) := by decide +kernel
theorem dX3_mergeClasses_51 : decode cX3_mergeClasses 51 = .ok (.aload_n 1, 1) := by decide +kernel
theorem dX3_mergeClasses_52 : decode cX3_mergeClasses 52 = .ok (.getfield 66, 3) := by decide +kernel
theorem dX3_mergeClasses_55 : decode cX3_mergeClasses 55 = .ok (.iload 4, 2) := by decide +kernel
theorem dX3_mergeClasses_57 : decode cX3_mergeClasses 57 = .ok (.aaload, 1) := by decide +kernel
theorem dX3_mergeClasses_58 : decode cX3_mergeClasses 58 = .ok (.iload_n 3, 1) := by decide +kernel
theorem dX3_mergeClasses_59 : decode cX3_mergeClasses 59 = .ok (.iaload, 1) := by decide +kernel
theorem dX3_mergeClasses_60 : decode cX3_mergeClasses 60 = .ok (.iastore, 1) := by decide +kernel
theorem dX3_mergeClasses_61 : decode cX3_mergeClasses 61 = .ok (.iinc 4 1, 3) := by decide +kernel
theorem dX3_mergeClasses_64 : decode cX3_mergeClasses 64 = .ok (.goto (-27), 3) := by decide +kernel
theorem dX3_mergeClasses_67 : decode cX3_mergeClasses 67 = .ok (.iinc 2 1, 3) := by decide +kernel
theorem dX3_mergeClasses_70 : decode cX3_mergeClasses 70 = .ok (.iinc 3 1, 3) := by decide +kernel
theorem dX3_mergeClasses_73 : decode cX3_mergeClasses 73 = .ok (.goto (-69), 3) := by decide +kernel
theorem dX3_mergeClasses_76 : decode cX3_mergeClasses 76 = .ok (.aload_n 0, 1) := by decide +kernel
theorem dX3_mergeClasses_77 : decode cX3_mergeClasses 77 = .ok (.aload_n 1, 1) := by decide +kernel
theorem dX3_mergeClasses_78 : decode cX3_mergeClasses 78 = .ok (.getfield 61, 3) := by decide +kernel
theorem dX3_mergeClasses_81 : decode cX3_mergeClasses 81 = .ok (.aload_n 0, 1) := by decide +kernel
theorem dX3_mergeClasses_82 : decode cX3_mergeClasses 82 = .ok (.getfield 24, 3) := by decide +kernel
theorem dX3_mergeClasses_85 : decode cX3_mergeClasses 85 = .ok (.iaload, 1) := by decide +kernel
theorem dX3_mergeClasses_86 : decode cX3_mergeClasses 86 = .ok (.putfield 24, 3) := by decide +kernel
theorem dX3_mergeClasses_89 : decode cX3_mergeClasses 89 = .ok (.aload_n 0, 1) := by decide +kernel
theorem dX3_mergeClasses_90 : decode cX3_mergeClasses 90 = .ok (.iload_n 2, 1) := by decide +kernel
theorem dX3_mergeClasses_91 : decode cX3_mergeClasses 91 = .ok (.invokevirtual 54, 3) := by decide +kernel
theorem dX3_mergeClasses_94 : decode cX3_mergeClasses 94 = .ok (.return_, 1) := by decide +kernel
theorem dX3_shrinkTo_0 : decode cX3_shrinkTo 0 = .ok (.iload_n 1, 1) := by decide +kernel
theorem dX3_shrinkTo_1 : decode cX3_shrinkTo 1 = .ok (.istore_n 2, 1) := by decide +kernel
theorem dX3_shrinkTo_2 : decode cX3_shrinkTo 2 = .ok (.iload_n 2, 1) := by decide +kernel
theorem dX3_shrinkTo_3 : decode cX3_shrinkTo 3 = .ok (.aload_n 0, 1) := by decide +kernel
theorem dX3_shrinkTo_4 : decode cX3_shrinkTo 4 = .ok (.getfield 20, 3) := by decide +kernel
theorem dX3_shrinkTo_7 : decode cX3_shrinkTo 7 = .ok (.if_icmp .ge 38, 3) := by decide +kernel
theorem dX3_shrinkTo_10 : decode cX3_shrinkTo 10 = .ok (.aload_n 0, 1) := by decide +kernel
theorem dX3_shrinkTo_11 : decode cX3_shrinkTo 11 = .ok (.getfield 9, 3) := by decide +kernel
theorem dX3_shrinkTo_14 : decode cX3_shrinkTo 14 = .ok (.iload_n 2, 1) := by decide +kernel
theorem dX3_shrinkTo_15 : decode cX3_shrinkTo 15 = .ok (.iconst 0, 1) := by decide +kernel
theorem dX3_shrinkTo_16 : decode cX3_shrinkTo 16 = .ok (.iastore, 1) := by decide +kernel
theorem dX3_shrinkTo_17 : decode cX3_shrinkTo 17 = .ok (.iconst 0, 1) := by decide +kernel
theorem dX3_shrinkTo_18 : decode cX3_shrinkTo 18 = .ok (.istore_n 3, 1) := by decide +kernel
theorem dX3_shrinkTo_19 : decode cX3_shrinkTo 19 = .ok (.iload_n 3, 1) := by decide +kernel
theorem dX3_shrinkTo_20 : decode cX3_shrinkTo 20 = .ok (.iconst 4, 1) := by decide +kernel
theorem dX3_shrinkTo_21 : decode cX3_shrinkTo 21 = .ok (.if_icmp .ge 18, 3) := by decide +kernel
theorem dX3_shrinkTo_24 : decode cX3_shrinkTo 24 = .ok (.aload_n 0, 1) := by decide +kernel
theorem dX3_shrinkTo_25 : decode cX3_shrinkTo 25 = .ok (.getfield 17, 3) := by decide +kernel
theorem dX3_shrinkTo_28 : decode cX3_shrinkTo 28 = .ok (.iload_n 3, 1) := by decide +kernel
theorem dX3_shrinkTo_29 : decode cX3_shrinkTo 29 = .ok (.aaload, 1) := by decide +kernel
theorem dX3_shrinkTo_30 : decode cX3_shrinkTo 30 = .ok (.iload_n 2, 1) := by decide +kernel
theorem dX3_shrinkTo_31 : decode cX3_shrinkTo 31 = .ok (.iconst 0, 1) := by decide +kernel
theorem dX3_shrinkTo_32 : decode cX3_shrinkTo 32 = .ok (.iastore, 1) := by decide +kernel
theorem dX3_shrinkTo_33 : decode cX3_shrinkTo 33 = .ok (.iinc 3 1, 3) := by decide +kernel
theorem dX3_shrinkTo_36 : decode cX3_shrinkTo 36 = .ok (.goto (-17), 3) := by decide +kernel
theorem dX3_shrinkTo_39 : decode cX3_shrinkTo 39 = .ok (.iinc 2 1, 3) := by decide +kernel
theorem dX3_shrinkTo_42 : decode cX3_shrinkTo 42 = .ok (.goto (-40), 3) := by decide +kernel
theorem dX3_shrinkTo_45 : decode cX3_shrinkTo 45 = .ok (.aload_n 0, 1) := by decide +kernel
theorem dX3_shrinkTo_46 : decode cX3_shrinkTo 46 = .ok (.iload_n 1, 1) := by decide +kernel
theorem dX3_shrinkTo_47 : decode cX3_shrinkTo 47 = .ok (.putfield 20, 3) := by decide +kernel
theorem dX3_shrinkTo_50 : decode cX3_shrinkTo 50 = .ok (.return_, 1) := by decide +kernel
set_option maxRecDepth 20000 in
theorem ggX3_addTo_X4_mixed : GoodIn wsX3_addTo wsX4_mixed := goodIn_r _ [7, 8] (by decide +kernel) (by decide +kernel)
set_option maxRecDepth 20000 in
theorem gX3_addTo_X4_mixed_n69 : GoodIn wsX3_addTo (wsX4_mixed) := ggX3_addTo_X4_mixed
theorem dX3_addTo_0 : decode cX3_addTo 0 = .ok (.lload_n 1, 1) := by decide +kernel
theorem dX3_addTo_1 : decode cX3_addTo 1 = .ok (.aload_n 0, 1) := by decide +kernel
theorem dX3_addTo_2 : decode cX3_addTo 2 = .ok (.getfield 20, 3) := by decide +kernel
theorem dX3_addTo_5 : decode cX3_addTo 5 = .ok (.invokestatic 69, 3) := by decide +kernel
theorem dX3_addTo_8 : decode cX3_addTo 8 = .ok (.lstore_n 3, 1) := by decide +kernel
theorem dX3_addTo_9 : decode cX3_addTo 9 = .ok (.iconst 0, 1) := by decide +kernel
theorem dX3_addTo_10 : decode cX3_addTo 10 = .ok (.istore 5, 2) := by decide +kernel
theorem dX3_addTo_12 : decode cX3_addTo 12 = .ok (.iload 5, 2) := by decide +kernel
theorem dX3_addTo_14 : decode cX3_addTo 14 = .ok (.aload_n 0, 1) := by decide +kernel
theorem dX3_addTo_15 : decode cX3_addTo 15 = .ok (.getfield 20, 3) := by decide +kernel
theorem dX3_addTo_18 : decode cX3_addTo 18 = .ok (.if_icmp .ge 51, 3) := by decide +kernel
theorem dX3_addTo_21 : decode cX3_addTo 21 = .ok (.lload_n 3, 1) := by decide +kernel
theorem dX3_addTo_22 : decode cX3_addTo 22 = .ok (.aload_n 0, 1) := by decide +kernel
theorem dX3_addTo_23 : decode cX3_addTo 23 = .ok (.getfield 9, 3) := by decide +kernel
theorem dX3_addTo_26 : decode cX3_addTo 26 = .ok (.iload 5, 2) := by decide +kernel
theorem dX3_addTo_28 : decode cX3_addTo 28 = .ok (.iaload, 1) := by decide +kernel
theorem dX3_addTo_29 : decode cX3_addTo 29 = .ok (.invokestatic 69, 3) := by decide +kernel
theorem dX3_addTo_32 : decode cX3_addTo 32 = .ok (.lstore_n 3, 1) := by decide +kernel
theorem dX3_addTo_33 : decode cX3_addTo 33 = .ok (.iconst 0, 1) := by decide +kernel
theorem dX3_addTo_34 : decode cX3_addTo 34 = .ok (.istore 6, 2) := by decide +kernel
theorem dX3_addTo_36 : decode cX3_addTo 36 = .ok (.iload 6, 2) := by decide +kernel
theorem dX3_addTo_38 : decode cX3_addTo 38 = .ok (.iconst 4, 1) := by decide +kernel
theorem dX3_addTo_39 : decode cX3_addTo 39 = .ok (.if_icmp .ge 24, 3) := by decide +kernel
theorem dX3_addTo_42 : decode cX3_addTo 42 = .ok (.lload_n 3, 1) := by decide +kernel
theorem dX3_addTo_43 : decode cX3_addTo 43 = .ok (.aload_n 0, 1) := by decide +kernel
theorem dX3_addTo_44 : decode cX3_addTo 44 = .ok (.getfield 17, 3) := by decide +kernel
theorem dX3_addTo_47 : decode cX3_addTo 47 = .ok (.iload 6, 2) := by decide +kernel
theorem dX3_addTo_49 : decode cX3_addTo 49 = .ok (.aaload, 1) := by decide +kernel
theorem dX3_addTo_50 : decode cX3_addTo 50 = .ok (.iload 5, 2) := by decide +kernel
theorem dX3_addTo_52 : decode cX3_addTo 52 = .ok (.iaload, 1) := by decide +kernel
theorem dX3_addTo_53 : decode cX3_addTo 53 = .ok (.invokestatic 69, 3) := by decide +kernel
theorem dX3_addTo_56 : decode cX3_addTo 56 = .ok (.lstore_n 3, 1) := by decide +kernel
theorem dX3_addTo_57 : decode cX3_addTo 57 = .ok (.iinc 6 1, 3) := by decide +kernel
theorem dX3_addTo_60 : decode cX3_addTo 60 = .ok (.goto (-24), 3) := by decide +kernel
theorem dX3_addTo_63 : decode cX3_addTo 63 = .ok (.iinc 5 1, 3) := by decide +kernel
theorem dX3_addTo_66 : decode cX3_addTo 66 = .ok (.goto (-54), 3) := by decide +kernel
theorem dX3_addTo_69 : decode cX3_addTo 69 = .ok (.lload_n 3, 1) := by decide +kernel
theorem dX3_addTo_70 : decode cX3_addTo 70 = .ok (.aload_n 0, 1) := by decide +kernel
theorem dX3_addTo_71 : decode cX3_addTo 71 = .ok (.getfield 20, 3) := by decide +kernel
theorem dX3_addTo_74 : decode cX3_addTo 74 = .ok (.ifCond .ne 7, 3) := by decide +kernel
theorem dX3_addTo_77 : decode cX3_addTo 77 = .ok (.iconst (-1), 1) := by decide +kernel
theorem dX3_addTo_78 : decode cX3_addTo 78 = .ok (.goto 7, 3) := by decide +kernel
theorem dX3_addTo_81 : decode cX3_addTo 81 = .ok (.aload_n 0, 1) := by decide +kernel
theorem dX3_addTo_82 : decode cX3_addTo 82 = .ok (.getfield 24, 3) := by decide +kernel
theorem dX3_addTo_85 : decode cX3_addTo 85 = .ok (.invokestatic 69, 3) := by decide +kernel
theorem dX3_addTo_88 : decode cX3_addTo 88 = .ok (.lreturn, 1) := by decide +kernel
set_option maxRecDepth 20000 in
theorem ggX4_init_X3_init : GoodIn wsX4_init wsX3_init := goodIn_r _ [22, 23, 2, 3, 24, 25, 26, 27, 28, 29, 60, 61, 62, 63] (by decide +kernel) (by decide +kernel)
set_option maxRecDepth 20000 in
theorem gX4_init_X3_init : GoodIn wsX4_init (wsX3_init) := ggX4_init_X3_init
set_option maxRecDepth 20000 in
theorem ggX4_init_X0_init : GoodIn wsX4_init wsX0_init := goodIn_r _ [32, 33, 2, 3, 24, 34, 35, 36, 37, 38, 39, 40, 41, 42, 68, 69, 70, 71, 72, 73, 74, 75] (by decide +kernel) (by decide +kernel)
set_option maxRecDepth 20000 in
theorem gX4_init_X0_init : GoodIn wsX4_init (wsX0_init) := ggX4_init_X0_init
set_option maxRecDepth 20000 in
theorem ggX4_init_X2_init : GoodIn wsX4_init wsX2_init := goodIn_r _ [45, 46, 2, 3, 47, 48, 49, 24, 50, 76, 77, 78] (by decide +kernel) (by decide +kernel)
set_option maxRecDepth 20000 in
theorem gX4_init_X2_init : GoodIn wsX4_init (wsX2_init) := ggX4_init_X2_init
set_option maxRecDepth 20000 in
theorem ggX4_init_X1_init : GoodIn wsX4_init wsX1_init := goodIn_r _ [53, 54, 2, 3, 55, 24, 56, 57, 58, 59, 79, 80, 81, 82] (by decide +kernel) (by decide +kernel)
set_option maxRecDepth 20000 in
theorem gX4_init_X1_init : GoodIn wsX4_init (wsX1_init) := ggX4_init_X1_init
theorem dX4_init_0 : decode cX4_init 0 = .ok (.aload_n 0, 1) := by decide +kernel
theorem dX4_init_1 : decode cX4_init 1 = .ok (.invokespecial 1, 3) := by decide +kernel
theorem dX4_init_4 : decode cX4_init 4 = .ok (.aload_n 0, 1) := by decide +kernel
theorem dX4_init_5 : decode cX4_init 5 = .ok (.new 7, 3) := by decide +kernel
theorem dX4_init_8 : decode cX4_init 8 = .ok (.dup, 1) := by decide +kernel
theorem dX4_init_9 : decode cX4_init 9 = .ok (.invokespecial 9, 3) := by decide +kernel
theorem dX4_init_12 : decode cX4_init 12 = .ok (.putfield 10, 3) := by decide +kernel
theorem dX4_init_15 : decode cX4_init 15 = .ok (.aload_n 0, 1) := by decide +kernel
theorem dX4_init_16 : decode cX4_init 16 = .ok (.new 16, 3) := by decide +kernel
theorem dX4_init_19 : decode cX4_init 19 = .ok (.dup, 1) := by decide +kernel
theorem dX4_init_20 : decode cX4_init 20 = .ok (.invokespecial 18, 3) := by decide +kernel
theorem dX4_init_23 : decode cX4_init 23 = .ok (.putfield 19, 3) := by decide +kernel
theorem dX4_init_26 : decode cX4_init 26 = .ok (.aload_n 0, 1) := by decide +kernel
theorem dX4_init_27 : decode cX4_init 27 = .ok (.new 23, 3) := by decide +kernel
theorem dX4_init_30 : decode cX4_init 30 = .ok (.dup, 1) := by decide +kernel
theorem dX4_init_31 : decode cX4_init 31 = .ok (.aload_n 0, 1) := by decide +kernel
theorem dX4_init_32 : decode cX4_init 32 = .ok (.getfield 10, 3) := by decide +kernel
theorem dX4_init_35 : decode cX4_init 35 = .ok (.aload_n 0, 1) := by decide +kernel
theorem dX4_init_36 : decode cX4_init 36 = .ok (.getfield 19, 3) := by decide +kernel
theorem dX4_init_39 : decode cX4_init 39 = .ok (.invokespecial 25, 3) := by decide +kernel
theorem dX4_init_42 : decode cX4_init 42 = .ok (.putfield 28, 3) := by decide +kernel
theorem dX4_init_45 : decode cX4_init 45 = .ok (.aload_n 0, 1) := by decide +kernel
theorem dX4_init_46 : decode cX4_init 46 = .ok (.new 32, 3) := by decide +kernel
theorem dX4_init_49 : decode cX4_init 49 = .ok (.dup, 1) := by decide +kernel
theorem dX4_init_50 : decode cX4_init 50 = .ok (.aload_n 0, 1) := by decide +kernel
theorem dX4_init_51 : decode cX4_init 51 = .ok (.getfield 10, 3) := by decide +kernel
theorem dX4_init_54 : decode cX4_init 54 = .ok (.invokespecial 34, 3) := by decide +kernel
theorem dX4_init_57 : decode cX4_init 57 = .ok (.putfield 37, 3) := by decide +kernel
theorem dX4_init_60 : decode cX4_init 60 = .ok (.return_, 1) := by decide +kernel
set_option maxRecDepth 20000 in
theorem ggX4_addWorld_X4_needAtoms : GoodIn wsX4_addWorld wsX4_needAtoms := goodIn_ca (goodIn_r _ [9, 10, 11] (by decide +kernel) (by decide +kernel)) (goodIn_sub (fun _ h => List.mem_cons_of_mem _ (List.mem_append_right _ h)) (by decide +kernel))
set_option maxRecDepth 20000 in
theorem gX4_addWorld_X4_needAtoms : GoodIn wsX4_addWorld (wsV RX4 41 RX4 yX4_needAtoms wsX4_needAtoms) := goodIn_app (goodIn_of _ (by decide +kernel)) ggX4_addWorld_X4_needAtoms
set_option maxRecDepth 20000 in
theorem ggX4_addWorld_X3_append : GoodIn wsX4_addWorld wsX3_append := goodIn_r _ [16, 17, 18, 23, 24, 25, 26] (by decide +kernel) (by decide +kernel)
set_option maxRecDepth 20000 in
theorem gX4_addWorld_X3_append : GoodIn wsX4_addWorld (wsV RX4 56 RX3 yX3_append wsX3_append) := goodIn_app (goodIn_of _ (by decide +kernel)) ggX4_addWorld_X3_append
theorem dX4_addWorld_0 : decode cX4_addWorld 0 = .ok (.aload_n 0, 1) := by decide +kernel
theorem dX4_addWorld_1 : decode cX4_addWorld 1 = .ok (.iload_n 1, 1) := by decide +kernel
theorem dX4_addWorld_2 : decode cX4_addWorld 2 = .ok (.invokevirtual 41, 3) := by decide +kernel
theorem dX4_addWorld_5 : decode cX4_addWorld 5 = .ok (.aload_n 0, 1) := by decide +kernel
theorem dX4_addWorld_6 : decode cX4_addWorld 6 = .ok (.getfield 10, 3) := by decide +kernel
theorem dX4_addWorld_9 : decode cX4_addWorld 9 = .ok (.getfield 45, 3) := by decide +kernel
theorem dX4_addWorld_12 : decode cX4_addWorld 12 = .ok (.bipush 24, 2) := by decide +kernel
theorem dX4_addWorld_14 : decode cX4_addWorld 14 = .ok (.if_icmp .lt 13, 3) := by decide +kernel
theorem dX4_addWorld_17 : decode cX4_addWorld 17 = .ok (.new 49, 3) := by decide +kernel
theorem dX4_addWorld_20 : decode cX4_addWorld 20 = .ok (.dup, 1) := by decide +kernel
theorem dX4_addWorld_21 : decode cX4_addWorld 21 = .ok (.ldc 51, 2) := by decide +kernel
theorem dX4_addWorld_23 : decode cX4_addWorld 23 = .ok (.invokespecial 53, 3) := by decide +kernel
theorem dX4_addWorld_26 : decode cX4_addWorld 26 = .ok (.athrow, 1) := by decide +kernel
theorem dX4_addWorld_27 : decode cX4_addWorld 27 = .ok (.aload_n 0, 1) := by decide +kernel
theorem dX4_addWorld_28 : decode cX4_addWorld 28 = .ok (.getfield 10, 3) := by decide +kernel
theorem dX4_addWorld_31 : decode cX4_addWorld 31 = .ok (.iload_n 1, 1) := by decide +kernel
theorem dX4_addWorld_32 : decode cX4_addWorld 32 = .ok (.invokevirtual 56, 3) := by decide +kernel
theorem dX4_addWorld_35 : decode cX4_addWorld 35 = .ok (.ireturn, 1) := by decide +kernel
set_option maxRecDepth 20000 in
theorem ggX4_setAtoms_X4_needWorld : GoodIn wsX4_setAtoms wsX4_needWorld := goodIn_ca (goodIn_r _ [7, 8, 9, 1, 10, 17, 18, 19, 20, 21, 22, 23, 24] (by decide +kernel) (by decide +kernel)) (goodIn_sub (fun _ h => List.mem_cons_of_mem _ (List.mem_append_left _ (List.mem_append_right _ h))) (by decide +kernel))
set_option maxRecDepth 20000 in
theorem gX4_setAtoms_X4_needWorld : GoodIn wsX4_setAtoms (wsV RX4 60 RX4 yX4_needWorld wsX4_needWorld) := goodIn_app (goodIn_of _ (by decide +kernel)) ggX4_setAtoms_X4_needWorld
set_option maxRecDepth 20000 in
theorem ggX4_setAtoms_X4_needAtoms : GoodIn wsX4_setAtoms wsX4_needAtoms := goodIn_ca (goodIn_r _ [14, 15, 16] (by decide +kernel) (by decide +kernel)) (goodIn_sub (fun _ h => List.mem_cons_of_mem _ (List.mem_append_right _ h)) (by decide +kernel))
set_option maxRecDepth 20000 in
theorem gX4_setAtoms_X4_needAtoms : GoodIn wsX4_setAtoms (wsV RX4 41 RX4 yX4_needAtoms wsX4_needAtoms) := goodIn_app (goodIn_of _ (by decide +kernel)) ggX4_setAtoms_X4_needAtoms
theorem dX4_setAtoms_0 : decode cX4_setAtoms 0 = .ok (.aload_n 0, 1) := by decide +kernel
theorem dX4_setAtoms_1 : decode cX4_setAtoms 1 = .ok (.iload_n 1, 1) := by decide +kernel
theorem dX4_setAtoms_2 : decode cX4_setAtoms 2 = .ok (.invokevirtual 60, 3) := by decide +kernel
theorem dX4_setAtoms_5 : decode cX4_setAtoms 5 = .ok (.aload_n 0, 1) := by decide +kernel
theorem dX4_setAtoms_6 : decode cX4_setAtoms 6 = .ok (.iload_n 2, 1) := by decide +kernel
theorem dX4_setAtoms_7 : decode cX4_setAtoms 7 = .ok (.invokevirtual 41, 3) := by decide +kernel
theorem dX4_setAtoms_10 : decode cX4_setAtoms 10 = .ok (.aload_n 0, 1) := by decide +kernel
theorem dX4_setAtoms_11 : decode cX4_setAtoms 11 = .ok (.getfield 10, 3) := by decide +kernel
theorem dX4_setAtoms_14 : decode cX4_setAtoms 14 = .ok (.getfield 63, 3) := by decide +kernel
theorem dX4_setAtoms_17 : decode cX4_setAtoms 17 = .ok (.iload_n 1, 1) := by decide +kernel
theorem dX4_setAtoms_18 : decode cX4_setAtoms 18 = .ok (.iaload, 1) := by decide +kernel
theorem dX4_setAtoms_19 : decode cX4_setAtoms 19 = .ok (.istore_n 3, 1) := by decide +kernel
theorem dX4_setAtoms_20 : decode cX4_setAtoms 20 = .ok (.aload_n 0, 1) := by decide +kernel
theorem dX4_setAtoms_21 : decode cX4_setAtoms 21 = .ok (.getfield 10, 3) := by decide +kernel
theorem dX4_setAtoms_24 : decode cX4_setAtoms 24 = .ok (.getfield 63, 3) := by decide +kernel
theorem dX4_setAtoms_27 : decode cX4_setAtoms 27 = .ok (.iload_n 1, 1) := by decide +kernel
theorem dX4_setAtoms_28 : decode cX4_setAtoms 28 = .ok (.iload_n 2, 1) := by decide +kernel
theorem dX4_setAtoms_29 : decode cX4_setAtoms 29 = .ok (.iastore, 1) := by decide +kernel
theorem dX4_setAtoms_30 : decode cX4_setAtoms 30 = .ok (.iload_n 3, 1) := by decide +kernel
theorem dX4_setAtoms_31 : decode cX4_setAtoms 31 = .ok (.ireturn, 1) := by decide +kernel
set_option maxRecDepth 20000 in
theorem ggX4_connect_X4_needAgent : GoodIn wsX4_connect wsX4_needAgent := goodIn_ca (goodIn_r _ [7, 8, 9] (by decide +kernel) (by decide +kernel)) (goodIn_sub (fun _ h => List.mem_cons_of_mem _ (List.mem_append_right _ h)) (by decide +kernel))
set_option maxRecDepth 20000 in
theorem gX4_connect_X4_needAgent : GoodIn wsX4_connect (wsV RX4 67 RX4 yX4_needAgent wsX4_needAgent) := goodIn_app (goodIn_of _ (by decide +kernel)) ggX4_connect_X4_needAgent
set_option maxRecDepth 20000 in
theorem ggX4_connect_X4_needWorld : GoodIn wsX4_connect wsX4_needWorld := goodIn_ca (goodIn_r _ [13, 8, 9, 1, 14, 21, 22, 23, 24, 25, 26, 27, 28] (by decide +kernel) (by decide +kernel)) (goodIn_sub (fun _ h => List.mem_cons_of_mem _ (List.mem_append_right _ h)) (by decide +kernel))
set_option maxRecDepth 20000 in
theorem gX4_connect_X4_needWorld : GoodIn wsX4_connect (wsV RX4 60 RX4 yX4_needWorld wsX4_needWorld) := goodIn_app (goodIn_of _ (by decide +kernel)) ggX4_connect_X4_needWorld
set_option maxRecDepth 20000 in
theorem ggX4_connect_X4_single : GoodIn wsX4_connect wsX4_single := goodIn_r _ [17] (by decide +kernel) (by decide +kernel)
set_option maxRecDepth 20000 in
theorem gX4_connect_X4_single : GoodIn wsX4_connect (va_wsS RX4 74 yX4_single wsX4_single) := goodIn_app (goodIn_of _ (by decide +kernel)) ggX4_connect_X4_single
set_option maxRecDepth 20000 in
theorem ggX4_connect_X4_contains : GoodIn wsX4_connect wsX4_contains := goodIn_r _ [20] (by decide +kernel) (by decide +kernel)
set_option maxRecDepth 20000 in
theorem gX4_connect_X4_contains : GoodIn wsX4_connect (va_wsS RX4 77 yX4_contains wsX4_contains) := goodIn_app (goodIn_of _ (by decide +kernel)) ggX4_connect_X4_contains
theorem dX4_connect_0 : decode cX4_connect 0 = .ok (.aload_n 0, 1) := by decide +kernel
theorem dX4_connect_1 : decode cX4_connect 1 = .ok (.iload_n 1, 1) := by decide +kernel
theorem dX4_connect_2 : decode cX4_connect 2 = .ok (.invokevirtual 67, 3) := by decide +kernel
theorem dX4_connect_5 : decode cX4_connect 5 = .ok (.aload_n 0, 1) := by decide +kernel
theorem dX4_connect_6 : decode cX4_connect 6 = .ok (.iload_n 2, 1) := by decide +kernel
theorem dX4_connect_7 : decode cX4_connect 7 = .ok (.invokevirtual 60, 3) := by decide +kernel
theorem dX4_connect_10 : decode cX4_connect 10 = .ok (.aload_n 0, 1) := by decide +kernel
theorem dX4_connect_11 : decode cX4_connect 11 = .ok (.iload_n 3, 1) := by decide +kernel
theorem dX4_connect_12 : decode cX4_connect 12 = .ok (.invokevirtual 60, 3) := by decide +kernel
theorem dX4_connect_15 : decode cX4_connect 15 = .ok (.aload_n 0, 1) := by decide +kernel
theorem dX4_connect_16 : decode cX4_connect 16 = .ok (.getfield 10, 3) := by decide +kernel
theorem dX4_connect_19 : decode cX4_connect 19 = .ok (.getfield 70, 3) := by decide +kernel
theorem dX4_connect_22 : decode cX4_connect 22 = .ok (.iload_n 1, 1) := by decide +kernel
theorem dX4_connect_23 : decode cX4_connect 23 = .ok (.aaload, 1) := by decide +kernel
theorem dX4_connect_24 : decode cX4_connect 24 = .ok (.iload_n 2, 1) := by decide +kernel
theorem dX4_connect_25 : decode cX4_connect 25 = .ok (.iaload, 1) := by decide +kernel
theorem dX4_connect_26 : decode cX4_connect 26 = .ok (.istore 5, 2) := by decide +kernel
theorem dX4_connect_28 : decode cX4_connect 28 = .ok (.aload_n 0, 1) := by decide +kernel
theorem dX4_connect_29 : decode cX4_connect 29 = .ok (.getfield 10, 3) := by decide +kernel
theorem dX4_connect_32 : decode cX4_connect 32 = .ok (.getfield 70, 3) := by decide +kernel
theorem dX4_connect_35 : decode cX4_connect 35 = .ok (.iload_n 1, 1) := by decide +kernel
theorem dX4_connect_36 : decode cX4_connect 36 = .ok (.aaload, 1) := by decide +kernel
theorem dX4_connect_37 : decode cX4_connect 37 = .ok (.iload_n 2, 1) := by decide +kernel
theorem dX4_connect_38 : decode cX4_connect 38 = .ok (.iload 4, 2) := by decide +kernel
theorem dX4_connect_40 : decode cX4_connect 40 = .ok (.ifCond .eq 13, 3) := by decide +kernel
theorem dX4_connect_43 : decode cX4_connect 43 = .ok (.iload 5, 2) := by decide +kernel
theorem dX4_connect_45 : decode cX4_connect 45 = .ok (.iload_n 3, 1) := by decide +kernel
theorem dX4_connect_46 : decode cX4_connect 46 = .ok (.invokestatic 74, 3) := by decide +kernel
theorem dX4_connect_49 : decode cX4_connect 49 = .ok (.ior, 1) := by decide +kernel
theorem dX4_connect_50 : decode cX4_connect 50 = .ok (.goto 12, 3) := by decide +kernel
theorem dX4_connect_53 : decode cX4_connect 53 = .ok (.iload 5, 2) := by decide +kernel
theorem dX4_connect_55 : decode cX4_connect 55 = .ok (.iload_n 3, 1) := by decide +kernel
theorem dX4_connect_56 : decode cX4_connect 56 = .ok (.invokestatic 74, 3) := by decide +kernel
theorem dX4_connect_59 : decode cX4_connect 59 = .ok (.iconst (-1), 1) := by decide +kernel
theorem dX4_connect_60 : decode cX4_connect 60 = .ok (.ixor, 1) := by decide +kernel
theorem dX4_connect_61 : decode cX4_connect 61 = .ok (.iand, 1) := by decide +kernel
theorem dX4_connect_62 : decode cX4_connect 62 = .ok (.iastore, 1) := by decide +kernel
theorem dX4_connect_63 : decode cX4_connect 63 = .ok (.iload 5, 2) := by decide +kernel
theorem dX4_connect_65 : decode cX4_connect 65 = .ok (.iload_n 3, 1) := by decide +kernel
theorem dX4_connect_66 : decode cX4_connect 66 = .ok (.invokestatic 77, 3) := by decide +kernel
theorem dX4_connect_69 : decode cX4_connect 69 = .ok (.ireturn, 1) := by decide +kernel
set_option maxRecDepth 20000 in
theorem ggX4_gather_X4_needAgent : GoodIn wsX4_gather wsX4_needAgent := goodIn_ca (goodIn_r _ [8, 9, 10] (by decide +kernel) (by decide +kernel)) (goodIn_sub (fun _ h => List.mem_cons_of_mem _ (List.mem_append_right _ h)) (by decide +kernel))
set_option maxRecDepth 20000 in
theorem gX4_gather_X4_needAgent : GoodIn wsX4_gather (wsV RX4 67 RX4 yX4_needAgent wsX4_needAgent) := goodIn_app (goodIn_of _ (by decide +kernel)) ggX4_gather_X4_needAgent
set_option maxRecDepth 20000 in
theorem ggX4_gather_X3_all : GoodIn wsX4_gather wsX3_all := goodIn_r _ [15, 16, 35, 36, 37, 38] (by decide +kernel) (by decide +kernel)
set_option maxRecDepth 20000 in
theorem gX4_gather_X3_all : GoodIn wsX4_gather (wsV RX4 81 RX3 yX3_all wsX3_all) := goodIn_app (goodIn_of _ (by decide +kernel)) ggX4_gather_X3_all
set_option maxRecDepth 20000 in
theorem ggX4_gather_X3_joinAll : GoodIn wsX4_gather wsX3_joinAll := goodIn_r _ [20, 16, 21, 22, 7, 23, 24, 25, 26, 27, 28, 29, 30, 35, 36, 37, 38] (by decide +kernel) (by decide +kernel)
set_option maxRecDepth 20000 in
theorem gX4_gather_X3_joinAll : GoodIn wsX4_gather (wsV RX4 90 RX3 yX3_joinAll wsX3_joinAll) := goodIn_app (goodIn_of _ (by decide +kernel)) ggX4_gather_X3_joinAll
theorem dX4_gather_0 : decode cX4_gather 0 = .ok (.aload_n 0, 1) := by decide +kernel
theorem dX4_gather_1 : decode cX4_gather 1 = .ok (.iload_n 1, 1) := by decide +kernel
theorem dX4_gather_2 : decode cX4_gather 2 = .ok (.invokevirtual 67, 3) := by decide +kernel
theorem dX4_gather_5 : decode cX4_gather 5 = .ok (.iload_n 2, 1) := by decide +kernel
theorem dX4_gather_6 : decode cX4_gather 6 = .ok (.aload_n 0, 1) := by decide +kernel
theorem dX4_gather_7 : decode cX4_gather 7 = .ok (.getfield 10, 3) := by decide +kernel
theorem dX4_gather_10 : decode cX4_gather 10 = .ok (.invokevirtual 81, 3) := by decide +kernel
theorem dX4_gather_13 : decode cX4_gather 13 = .ok (.iconst (-1), 1) := by decide +kernel
theorem dX4_gather_14 : decode cX4_gather 14 = .ok (.ixor, 1) := by decide +kernel
theorem dX4_gather_15 : decode cX4_gather 15 = .ok (.iand, 1) := by decide +kernel
theorem dX4_gather_16 : decode cX4_gather 16 = .ok (.ifCond .eq 13, 3) := by decide +kernel
theorem dX4_gather_19 : decode cX4_gather 19 = .ok (.new 85, 3) := by decide +kernel
theorem dX4_gather_22 : decode cX4_gather 22 = .ok (.dup, 1) := by decide +kernel
theorem dX4_gather_23 : decode cX4_gather 23 = .ok (.ldc 87, 2) := by decide +kernel
theorem dX4_gather_25 : decode cX4_gather 25 = .ok (.invokespecial 89, 3) := by decide +kernel
theorem dX4_gather_28 : decode cX4_gather 28 = .ok (.athrow, 1) := by decide +kernel
theorem dX4_gather_29 : decode cX4_gather 29 = .ok (.aload_n 0, 1) := by decide +kernel
theorem dX4_gather_30 : decode cX4_gather 30 = .ok (.getfield 10, 3) := by decide +kernel
theorem dX4_gather_33 : decode cX4_gather 33 = .ok (.iload_n 1, 1) := by decide +kernel
theorem dX4_gather_34 : decode cX4_gather 34 = .ok (.iload_n 2, 1) := by decide +kernel
theorem dX4_gather_35 : decode cX4_gather 35 = .ok (.invokevirtual 90, 3) := by decide +kernel
theorem dX4_gather_38 : decode cX4_gather 38 = .ok (.ireturn, 1) := by decide +kernel
set_option maxRecDepth 20000 in
theorem ggX4_setActual_X4_needWorld : GoodIn wsX4_setActual wsX4_needWorld := goodIn_ca (goodIn_r _ [7, 8, 9, 1, 10, 11, 12, 13, 14, 15, 16, 17, 18] (by decide +kernel) (by decide +kernel)) (goodIn_sub (fun _ h => List.mem_cons_of_mem _ (List.mem_append_right _ h)) (by decide +kernel))
set_option maxRecDepth 20000 in
theorem gX4_setActual_X4_needWorld : GoodIn wsX4_setActual (wsV RX4 60 RX4 yX4_needWorld wsX4_needWorld) := goodIn_app (goodIn_of _ (by decide +kernel)) ggX4_setActual_X4_needWorld
theorem dX4_setActual_0 : decode cX4_setActual 0 = .ok (.aload_n 0, 1) := by decide +kernel
theorem dX4_setActual_1 : decode cX4_setActual 1 = .ok (.iload_n 1, 1) := by decide +kernel
theorem dX4_setActual_2 : decode cX4_setActual 2 = .ok (.invokevirtual 60, 3) := by decide +kernel
theorem dX4_setActual_5 : decode cX4_setActual 5 = .ok (.aload_n 0, 1) := by decide +kernel
theorem dX4_setActual_6 : decode cX4_setActual 6 = .ok (.getfield 10, 3) := by decide +kernel
theorem dX4_setActual_9 : decode cX4_setActual 9 = .ok (.getfield 94, 3) := by decide +kernel
theorem dX4_setActual_12 : decode cX4_setActual 12 = .ok (.istore_n 2, 1) := by decide +kernel
theorem dX4_setActual_13 : decode cX4_setActual 13 = .ok (.aload_n 0, 1) := by decide +kernel
theorem dX4_setActual_14 : decode cX4_setActual 14 = .ok (.getfield 10, 3) := by decide +kernel
theorem dX4_setActual_17 : decode cX4_setActual 17 = .ok (.iload_n 1, 1) := by decide +kernel
theorem dX4_setActual_18 : decode cX4_setActual 18 = .ok (.putfield 94, 3) := by decide +kernel
theorem dX4_setActual_21 : decode cX4_setActual 21 = .ok (.iload_n 2, 1) := by decide +kernel
theorem dX4_setActual_22 : decode cX4_setActual 22 = .ok (.ireturn, 1) := by decide +kernel
set_option maxRecDepth 20000 in
theorem ggX4_actual_X4_needSomeWorld : GoodIn wsX4_actual wsX4_needSomeWorld := goodIn_ca (goodIn_r _ [7, 8, 9, 1, 10, 11, 12, 13, 14, 15, 16, 17, 18] (by decide +kernel) (by decide +kernel)) (goodIn_sub (fun _ h => List.mem_cons_of_mem _ (List.mem_append_right _ h)) (by decide +kernel))
set_option maxRecDepth 20000 in
theorem gX4_actual_X4_needSomeWorld : GoodIn wsX4_actual (wsV RX4 97 RX4 yX4_needSomeWorld wsX4_needSomeWorld) := goodIn_app (goodIn_of _ (by decide +kernel)) ggX4_actual_X4_needSomeWorld
theorem dX4_actual_0 : decode cX4_actual 0 = .ok (.aload_n 0, 1) := by decide +kernel
theorem dX4_actual_1 : decode cX4_actual 1 = .ok (.invokevirtual 97, 3) := by decide +kernel
theorem dX4_actual_4 : decode cX4_actual 4 = .ok (.aload_n 0, 1) := by decide +kernel
theorem dX4_actual_5 : decode cX4_actual 5 = .ok (.getfield 10, 3) := by decide +kernel
theorem dX4_actual_8 : decode cX4_actual 8 = .ok (.getfield 94, 3) := by decide +kernel
theorem dX4_actual_11 : decode cX4_actual 11 = .ok (.ireturn, 1) := by decide +kernel
theorem dX4_worldCount_0 : decode cX4_worldCount 0 = .ok (.aload_n 0, 1) := by decide +kernel
theorem dX4_worldCount_1 : decode cX4_worldCount 1 = .ok (.getfield 10, 3) := by decide +kernel
theorem dX4_worldCount_4 : decode cX4_worldCount 4 = .ok (.getfield 45, 3) := by decide +kernel
theorem dX4_worldCount_7 : decode cX4_worldCount 7 = .ok (.ireturn, 1) := by decide +kernel
set_option maxRecDepth 20000 in
theorem ggX4_atoms_X4_needWorld : GoodIn wsX4_atoms wsX4_needWorld := goodIn_ca (goodIn_r _ [7, 8, 9, 1, 10, 11, 12, 13, 14, 15, 16, 17, 18] (by decide +kernel) (by decide +kernel)) (goodIn_sub (fun _ h => List.mem_cons_of_mem _ (List.mem_append_right _ h)) (by decide +kernel))
set_option maxRecDepth 20000 in
theorem gX4_atoms_X4_needWorld : GoodIn wsX4_atoms (wsV RX4 60 RX4 yX4_needWorld wsX4_needWorld) := goodIn_app (goodIn_of _ (by decide +kernel)) ggX4_atoms_X4_needWorld
theorem dX4_atoms_0 : decode cX4_atoms 0 = .ok (.aload_n 0, 1) := by decide +kernel
theorem dX4_atoms_1 : decode cX4_atoms 1 = .ok (.iload_n 1, 1) := by decide +kernel
theorem dX4_atoms_2 : decode cX4_atoms 2 = .ok (.invokevirtual 60, 3) := by decide +kernel
theorem dX4_atoms_5 : decode cX4_atoms 5 = .ok (.aload_n 0, 1) := by decide +kernel
theorem dX4_atoms_6 : decode cX4_atoms 6 = .ok (.getfield 10, 3) := by decide +kernel
theorem dX4_atoms_9 : decode cX4_atoms 9 = .ok (.getfield 63, 3) := by decide +kernel
theorem dX4_atoms_12 : decode cX4_atoms 12 = .ok (.iload_n 1, 1) := by decide +kernel
theorem dX4_atoms_13 : decode cX4_atoms 13 = .ok (.iaload, 1) := by decide +kernel
theorem dX4_atoms_14 : decode cX4_atoms 14 = .ok (.ireturn, 1) := by decide +kernel
set_option maxRecDepth 20000 in
theorem ggX4_seen_X4_needAgent : GoodIn wsX4_seen wsX4_needAgent := goodIn_ca (goodIn_r _ [7, 8, 9] (by decide +kernel) (by decide +kernel)) (goodIn_sub (fun _ h => List.mem_cons_of_mem _ (List.mem_append_right _ h)) (by decide +kernel))
set_option maxRecDepth 20000 in
theorem gX4_seen_X4_needAgent : GoodIn wsX4_seen (wsV RX4 67 RX4 yX4_needAgent wsX4_needAgent) := goodIn_app (goodIn_of _ (by decide +kernel)) ggX4_seen_X4_needAgent
set_option maxRecDepth 20000 in
theorem ggX4_seen_X4_needWorld : GoodIn wsX4_seen wsX4_needWorld := goodIn_ca (goodIn_r _ [13, 8, 9, 1, 14, 15, 16, 17, 18, 19, 20, 21, 22] (by decide +kernel) (by decide +kernel)) (goodIn_sub (fun _ h => List.mem_cons_of_mem _ (List.mem_append_right _ h)) (by decide +kernel))
set_option maxRecDepth 20000 in
theorem gX4_seen_X4_needWorld : GoodIn wsX4_seen (wsV RX4 60 RX4 yX4_needWorld wsX4_needWorld) := goodIn_app (goodIn_of _ (by decide +kernel)) ggX4_seen_X4_needWorld
theorem dX4_seen_0 : decode cX4_seen 0 = .ok (.aload_n 0, 1) := by decide +kernel
theorem dX4_seen_1 : decode cX4_seen 1 = .ok (.iload_n 1, 1) := by decide +kernel
theorem dX4_seen_2 : decode cX4_seen 2 = .ok (.invokevirtual 67, 3) := by decide +kernel
theorem dX4_seen_5 : decode cX4_seen 5 = .ok (.aload_n 0, 1) := by decide +kernel
theorem dX4_seen_6 : decode cX4_seen 6 = .ok (.iload_n 2, 1) := by decide +kernel
theorem dX4_seen_7 : decode cX4_seen 7 = .ok (.invokevirtual 60, 3) := by decide +kernel
theorem dX4_seen_10 : decode cX4_seen 10 = .ok (.aload_n 0, 1) := by decide +kernel
theorem dX4_seen_11 : decode cX4_seen 11 = .ok (.getfield 10, 3) := by decide +kernel
theorem dX4_seen_14 : decode cX4_seen 14 = .ok (.getfield 70, 3) := by decide +kernel
theorem dX4_seen_17 : decode cX4_seen 17 = .ok (.iload_n 1, 1) := by decide +kernel
theorem dX4_seen_18 : decode cX4_seen 18 = .ok (.aaload, 1) := by decide +kernel
theorem dX4_seen_19 : decode cX4_seen 19 = .ok (.iload_n 2, 1) := by decide +kernel
theorem dX4_seen_20 : decode cX4_seen 20 = .ok (.iaload, 1) := by decide +kernel
theorem dX4_seen_21 : decode cX4_seen 21 = .ok (.ireturn, 1) := by decide +kernel
set_option maxRecDepth 20000 in
theorem ggX4_arrowCount_X4_needAgent : GoodIn wsX4_arrowCount wsX4_needAgent := goodIn_ca (goodIn_r _ [6, 7, 8] (by decide +kernel) (by decide +kernel)) (goodIn_sub (fun _ h => List.mem_cons_of_mem _ (List.mem_append_right _ h)) (by decide +kernel))
set_option maxRecDepth 20000 in
theorem gX4_arrowCount_X4_needAgent : GoodIn wsX4_arrowCount (wsV RX4 67 RX4 yX4_needAgent wsX4_needAgent) := goodIn_app (goodIn_of _ (by decide +kernel)) ggX4_arrowCount_X4_needAgent
set_option maxRecDepth 20000 in
theorem ggX4_arrowCount_X3_countArrows : GoodIn wsX4_arrowCount wsX3_countArrows := goodIn_r _ [13, 14, 15, 16, 17, 18, 19, 20, 21, 22, 27, 28, 29, 30] (by decide +kernel) (by decide +kernel)
set_option maxRecDepth 20000 in
theorem gX4_arrowCount_X3_countArrows : GoodIn wsX4_arrowCount (wsV RX4 100 RX3 yX3_countArrows wsX3_countArrows) := goodIn_app (goodIn_of _ (by decide +kernel)) ggX4_arrowCount_X3_countArrows
theorem dX4_arrowCount_0 : decode cX4_arrowCount 0 = .ok (.aload_n 0, 1) := by decide +kernel
theorem dX4_arrowCount_1 : decode cX4_arrowCount 1 = .ok (.iload_n 1, 1) := by decide +kernel
theorem dX4_arrowCount_2 : decode cX4_arrowCount 2 = .ok (.invokevirtual 67, 3) := by decide +kernel
theorem dX4_arrowCount_5 : decode cX4_arrowCount 5 = .ok (.aload_n 0, 1) := by decide +kernel
theorem dX4_arrowCount_6 : decode cX4_arrowCount 6 = .ok (.getfield 10, 3) := by decide +kernel
theorem dX4_arrowCount_9 : decode cX4_arrowCount 9 = .ok (.iload_n 1, 1) := by decide +kernel
theorem dX4_arrowCount_10 : decode cX4_arrowCount 10 = .ok (.invokevirtual 100, 3) := by decide +kernel
theorem dX4_arrowCount_13 : decode cX4_arrowCount 13 = .ok (.ireturn, 1) := by decide +kernel
set_option maxRecDepth 20000 in
theorem ggX4_shape_X4_needAgent : GoodIn wsX4_shape wsX4_needAgent := goodIn_ca (goodIn_r _ [6, 7, 8] (by decide +kernel) (by decide +kernel)) (goodIn_sub (fun _ h => List.mem_cons_of_mem _ (List.mem_append_right _ h)) (by decide +kernel))
set_option maxRecDepth 20000 in
theorem gX4_shape_X4_needAgent : GoodIn wsX4_shape (wsV RX4 67 RX4 yX4_needAgent wsX4_needAgent) := goodIn_app (goodIn_of _ (by decide +kernel)) ggX4_shape_X4_needAgent
set_option maxRecDepth 20000 in
theorem ggX4_shape_X3_isReflexive : GoodIn wsX4_shape wsX3_isReflexive := goodIn_r _ [13, 14, 15, 16, 5, 17, 30, 31, 32, 33] (by decide +kernel) (by decide +kernel)
set_option maxRecDepth 20000 in
theorem gX4_shape_X3_isReflexive : GoodIn wsX4_shape (wsV RX4 103 RX3 yX3_isReflexive wsX3_isReflexive) := goodIn_app (goodIn_of _ (by decide +kernel)) ggX4_shape_X3_isReflexive
set_option maxRecDepth 20000 in
theorem ggX4_shape_X3_isSymmetric : GoodIn wsX4_shape wsX3_isSymmetric := goodIn_r _ [21, 14, 15, 16, 5, 17, 30, 31, 32, 33] (by decide +kernel) (by decide +kernel)
set_option maxRecDepth 20000 in
theorem gX4_shape_X3_isSymmetric : GoodIn wsX4_shape (wsV RX4 107 RX3 yX3_isSymmetric wsX3_isSymmetric) := goodIn_app (goodIn_of _ (by decide +kernel)) ggX4_shape_X3_isSymmetric
set_option maxRecDepth 20000 in
theorem ggX4_shape_X3_isTransitive : GoodIn wsX4_shape wsX3_isTransitive := goodIn_r _ [25, 14, 15, 16, 5, 17, 30, 31, 32, 33] (by decide +kernel) (by decide +kernel)
set_option maxRecDepth 20000 in
theorem gX4_shape_X3_isTransitive : GoodIn wsX4_shape (wsV RX4 110 RX3 yX3_isTransitive wsX3_isTransitive) := goodIn_app (goodIn_of _ (by decide +kernel)) ggX4_shape_X3_isTransitive
theorem dX4_shape_0 : decode cX4_shape 0 = .ok (.aload_n 0, 1) := by decide +kernel
theorem dX4_shape_1 : decode cX4_shape 1 = .ok (.iload_n 1, 1) := by decide +kernel
theorem dX4_shape_2 : decode cX4_shape 2 = .ok (.invokevirtual 67, 3) := by decide +kernel
theorem dX4_shape_5 : decode cX4_shape 5 = .ok (.aload_n 0, 1) := by decide +kernel
theorem dX4_shape_6 : decode cX4_shape 6 = .ok (.getfield 10, 3) := by decide +kernel
theorem dX4_shape_9 : decode cX4_shape 9 = .ok (.iload_n 1, 1) := by decide +kernel
theorem dX4_shape_10 : decode cX4_shape 10 = .ok (.invokevirtual 103, 3) := by decide +kernel
theorem dX4_shape_13 : decode cX4_shape 13 = .ok (.ifCond .eq 7, 3) := by decide +kernel
theorem dX4_shape_16 : decode cX4_shape 16 = .ok (.iconst 1, 1) := by decide +kernel
theorem dX4_shape_17 : decode cX4_shape 17 = .ok (.goto 4, 3) := by decide +kernel
theorem dX4_shape_20 : decode cX4_shape 20 = .ok (.iconst 0, 1) := by decide +kernel
theorem dX4_shape_21 : decode cX4_shape 21 = .ok (.aload_n 0, 1) := by decide +kernel
theorem dX4_shape_22 : decode cX4_shape 22 = .ok (.getfield 10, 3) := by decide +kernel
theorem dX4_shape_25 : decode cX4_shape 25 = .ok (.iload_n 1, 1) := by decide +kernel
theorem dX4_shape_26 : decode cX4_shape 26 = .ok (.invokevirtual 107, 3) := by decide +kernel
theorem dX4_shape_29 : decode cX4_shape 29 = .ok (.ifCond .eq 7, 3) := by decide +kernel
theorem dX4_shape_32 : decode cX4_shape 32 = .ok (.iconst 2, 1) := by decide +kernel
theorem dX4_shape_33 : decode cX4_shape 33 = .ok (.goto 4, 3) := by decide +kernel
theorem dX4_shape_36 : decode cX4_shape 36 = .ok (.iconst 0, 1) := by decide +kernel
theorem dX4_shape_37 : decode cX4_shape 37 = .ok (.iadd, 1) := by decide +kernel
theorem dX4_shape_38 : decode cX4_shape 38 = .ok (.aload_n 0, 1) := by decide +kernel
theorem dX4_shape_39 : decode cX4_shape 39 = .ok (.getfield 10, 3) := by decide +kernel
theorem dX4_shape_42 : decode cX4_shape 42 = .ok (.iload_n 1, 1) := by decide +kernel
theorem dX4_shape_43 : decode cX4_shape 43 = .ok (.invokevirtual 110, 3) := by decide +kernel
theorem dX4_shape_46 : decode cX4_shape 46 = .ok (.ifCond .eq 7, 3) := by decide +kernel
theorem dX4_shape_49 : decode cX4_shape 49 = .ok (.iconst 4, 1) := by decide +kernel
theorem dX4_shape_50 : decode cX4_shape 50 = .ok (.goto 4, 3) := by decide +kernel
theorem dX4_shape_53 : decode cX4_shape 53 = .ok (.iconst 0, 1) := by decide +kernel
theorem dX4_shape_54 : decode cX4_shape 54 = .ok (.iadd, 1) := by decide +kernel
theorem dX4_shape_55 : decode cX4_shape 55 = .ok (.ireturn, 1) := by decide +kernel
set_option maxRecDepth 20000 in
theorem ggX4_atom_X4_needRoomForFormula : GoodIn wsX4_atom wsX4_needRoomForFormula := goodIn_ca (goodIn_r _ [8, 9, 10, 3, 11, 37, 38, 39, 40, 41, 42, 43, 44, 45, 46, 47, 48] (by decide +kernel) (by decide +kernel)) (goodIn_sub (fun _ h => List.mem_cons_of_mem _ (List.mem_append_right _ h)) (by decide +kernel))
set_option maxRecDepth 20000 in
theorem gX4_atom_X4_needRoomForFormula : GoodIn wsX4_atom (wsV RX4 118 RX4 yX4_needRoomForFormula wsX4_needRoomForFormula) := goodIn_app (goodIn_of _ (by decide +kernel)) ggX4_atom_X4_needRoomForFormula
set_option maxRecDepth 20000 in
theorem ggX4_atom_X0_append : GoodIn wsX4_atom wsX0_append := goodIn_r _ [16, 17, 18, 19, 20, 21, 22, 23, 24, 25, 26, 27, 15, 28, 29, 30, 31, 32, 33, 34, 35, 36, 41, 42, 43, 44, 45, 46, 47, 48] (by decide +kernel) (by decide +kernel)
set_option maxRecDepth 20000 in
theorem gX4_atom_X0_append : GoodIn wsX4_atom (wsV RX4 121 RX0 yX0_append wsX0_append) := goodIn_app (goodIn_of _ (by decide +kernel)) ggX4_atom_X0_append
theorem dX4_atom_0 : decode cX4_atom 0 = .ok (.iload_n 1, 1) := by decide +kernel
theorem dX4_atom_1 : decode cX4_atom 1 = .ok (.ifCond .lt 9, 3) := by decide +kernel
theorem dX4_atom_4 : decode cX4_atom 4 = .ok (.iload_n 1, 1) := by decide +kernel
theorem dX4_atom_5 : decode cX4_atom 5 = .ok (.bipush 6, 2) := by decide +kernel
theorem dX4_atom_7 : decode cX4_atom 7 = .ok (.if_icmp .lt 13, 3) := by decide +kernel
theorem dX4_atom_10 : decode cX4_atom 10 = .ok (.new 113, 3) := by decide +kernel
theorem dX4_atom_13 : decode cX4_atom 13 = .ok (.dup, 1) := by decide +kernel
theorem dX4_atom_14 : decode cX4_atom 14 = .ok (.ldc 115, 2) := by decide +kernel
theorem dX4_atom_16 : decode cX4_atom 16 = .ok (.invokespecial 117, 3) := by decide +kernel
theorem dX4_atom_19 : decode cX4_atom 19 = .ok (.athrow, 1) := by decide +kernel
theorem dX4_atom_20 : decode cX4_atom 20 = .ok (.aload_n 0, 1) := by decide +kernel
theorem dX4_atom_21 : decode cX4_atom 21 = .ok (.invokevirtual 118, 3) := by decide +kernel
theorem dX4_atom_24 : decode cX4_atom 24 = .ok (.aload_n 0, 1) := by decide +kernel
theorem dX4_atom_25 : decode cX4_atom 25 = .ok (.getfield 19, 3) := by decide +kernel
theorem dX4_atom_28 : decode cX4_atom 28 = .ok (.iconst 0, 1) := by decide +kernel
theorem dX4_atom_29 : decode cX4_atom 29 = .ok (.iload_n 1, 1) := by decide +kernel
theorem dX4_atom_30 : decode cX4_atom 30 = .ok (.iconst (-1), 1) := by decide +kernel
theorem dX4_atom_31 : decode cX4_atom 31 = .ok (.iconst (-1), 1) := by decide +kernel
theorem dX4_atom_32 : decode cX4_atom 32 = .ok (.invokevirtual 121, 3) := by decide +kernel
theorem dX4_atom_35 : decode cX4_atom 35 = .ok (.ireturn, 1) := by decide +kernel
set_option maxRecDepth 20000 in
theorem ggX4_not_X4_needFormula : GoodIn wsX4_not wsX4_needFormula := goodIn_ca (goodIn_r _ [6, 7, 8, 1, 9, 41, 42, 43, 44, 45, 46, 47, 48, 49, 50, 51, 52] (by decide +kernel) (by decide +kernel)) (goodIn_sub (fun _ h => List.mem_cons_of_mem _ (List.mem_append_left _ (List.mem_append_right _ h))) (by decide +kernel))
set_option maxRecDepth 20000 in
theorem gX4_not_X4_needFormula : GoodIn wsX4_not (wsV RX4 124 RX4 yX4_needFormula wsX4_needFormula) := goodIn_app (goodIn_of _ (by decide +kernel)) ggX4_not_X4_needFormula
set_option maxRecDepth 20000 in
theorem ggX4_not_X4_needRoomForFormula : GoodIn wsX4_not wsX4_needRoomForFormula := goodIn_ca (goodIn_r _ [13, 14, 15, 1, 9, 41, 42, 43, 44, 45, 46, 47, 48, 49, 50, 51, 52] (by decide +kernel) (by decide +kernel)) (goodIn_sub (fun _ h => List.mem_cons_of_mem _ (List.mem_append_right _ h)) (by decide +kernel))
set_option maxRecDepth 20000 in
theorem gX4_not_X4_needRoomForFormula : GoodIn wsX4_not (wsV RX4 118 RX4 yX4_needRoomForFormula wsX4_needRoomForFormula) := goodIn_app (goodIn_of _ (by decide +kernel)) ggX4_not_X4_needRoomForFormula
set_option maxRecDepth 20000 in
theorem ggX4_not_X0_append : GoodIn wsX4_not wsX0_append := goodIn_r _ [20, 21, 22, 23, 24, 25, 26, 27, 28, 29, 30, 31, 19, 32, 33, 34, 35, 36, 37, 38, 39, 40, 45, 46, 47, 48, 49, 50, 51, 52] (by decide +kernel) (by decide +kernel)
set_option maxRecDepth 20000 in
theorem gX4_not_X0_append : GoodIn wsX4_not (wsV RX4 121 RX0 yX0_append wsX0_append) := goodIn_app (goodIn_of _ (by decide +kernel)) ggX4_not_X0_append
theorem dX4_not_0 : decode cX4_not 0 = .ok (.aload_n 0, 1) := by decide +kernel
theorem dX4_not_1 : decode cX4_not 1 = .ok (.iload_n 1, 1) := by decide +kernel
theorem dX4_not_2 : decode cX4_not 2 = .ok (.invokevirtual 124, 3) := by decide +kernel
theorem dX4_not_5 : decode cX4_not 5 = .ok (.aload_n 0, 1) := by decide +kernel
theorem dX4_not_6 : decode cX4_not 6 = .ok (.invokevirtual 118, 3) := by decide +kernel
theorem dX4_not_9 : decode cX4_not 9 = .ok (.aload_n 0, 1) := by decide +kernel
theorem dX4_not_10 : decode cX4_not 10 = .ok (.getfield 19, 3) := by decide +kernel
theorem dX4_not_13 : decode cX4_not 13 = .ok (.iconst 1, 1) := by decide +kernel
theorem dX4_not_14 : decode cX4_not 14 = .ok (.iconst 0, 1) := by decide +kernel
theorem dX4_not_15 : decode cX4_not 15 = .ok (.iload_n 1, 1) := by decide +kernel
theorem dX4_not_16 : decode cX4_not 16 = .ok (.iconst (-1), 1) := by decide +kernel
theorem dX4_not_17 : decode cX4_not 17 = .ok (.invokevirtual 121, 3) := by decide +kernel
theorem dX4_not_20 : decode cX4_not 20 = .ok (.ireturn, 1) := by decide +kernel
set_option maxRecDepth 20000 in
theorem ggX4_both_X4_needFormula : GoodIn wsX4_both wsX4_needFormula := goodIn_ca (goodIn_r _ [6, 7, 8, 1, 9, 41, 42, 43, 44, 45, 46, 47, 48, 49, 50, 51, 52] (by decide +kernel) (by decide +kernel)) (goodIn_sub (fun _ h => List.mem_cons_of_mem _ (List.mem_append_left _ (List.mem_append_right _ h))) (by decide +kernel))
set_option maxRecDepth 20000 in
theorem gX4_both_X4_needFormula : GoodIn wsX4_both (wsV RX4 124 RX4 yX4_needFormula wsX4_needFormula) := goodIn_app (goodIn_of _ (by decide +kernel)) ggX4_both_X4_needFormula
set_option maxRecDepth 20000 in
theorem ggX4_both_X4_needRoomForFormula : GoodIn wsX4_both wsX4_needRoomForFormula := goodIn_ca (goodIn_r _ [13, 14, 15, 1, 9, 41, 42, 43, 44, 45, 46, 47, 48, 49, 50, 51, 52] (by decide +kernel) (by decide +kernel)) (goodIn_sub (fun _ h => List.mem_cons_of_mem _ (List.mem_append_right _ h)) (by decide +kernel))
set_option maxRecDepth 20000 in
theorem gX4_both_X4_needRoomForFormula : GoodIn wsX4_both (wsV RX4 118 RX4 yX4_needRoomForFormula wsX4_needRoomForFormula) := goodIn_app (goodIn_of _ (by decide +kernel)) ggX4_both_X4_needRoomForFormula
set_option maxRecDepth 20000 in
theorem ggX4_both_X0_append : GoodIn wsX4_both wsX0_append := goodIn_r _ [20, 21, 22, 23, 24, 25, 26, 27, 28, 29, 30, 31, 19, 32, 33, 34, 35, 36, 37, 38, 39, 40, 45, 46, 47, 48, 49, 50, 51, 52] (by decide +kernel) (by decide +kernel)
set_option maxRecDepth 20000 in
theorem gX4_both_X0_append : GoodIn wsX4_both (wsV RX4 121 RX0 yX0_append wsX0_append) := goodIn_app (goodIn_of _ (by decide +kernel)) ggX4_both_X0_append
theorem dX4_both_0 : decode cX4_both 0 = .ok (.aload_n 0, 1) := by decide +kernel
theorem dX4_both_1 : decode cX4_both 1 = .ok (.iload_n 1, 1) := by decide +kernel
theorem dX4_both_2 : decode cX4_both 2 = .ok (.invokevirtual 124, 3) := by decide +kernel
theorem dX4_both_5 : decode cX4_both 5 = .ok (.aload_n 0, 1) := by decide +kernel
theorem dX4_both_6 : decode cX4_both 6 = .ok (.iload_n 2, 1) := by decide +kernel
theorem dX4_both_7 : decode cX4_both 7 = .ok (.invokevirtual 124, 3) := by decide +kernel
theorem dX4_both_10 : decode cX4_both 10 = .ok (.aload_n 0, 1) := by decide +kernel
theorem dX4_both_11 : decode cX4_both 11 = .ok (.invokevirtual 118, 3) := by decide +kernel
theorem dX4_both_14 : decode cX4_both 14 = .ok (.aload_n 0, 1) := by decide +kernel
theorem dX4_both_15 : decode cX4_both 15 = .ok (.getfield 19, 3) := by decide +kernel
theorem dX4_both_18 : decode cX4_both 18 = .ok (.iconst 2, 1) := by decide +kernel
theorem dX4_both_19 : decode cX4_both 19 = .ok (.iconst 0, 1) := by decide +kernel
theorem dX4_both_20 : decode cX4_both 20 = .ok (.iload_n 1, 1) := by decide +kernel
theorem dX4_both_21 : decode cX4_both 21 = .ok (.iload_n 2, 1) := by decide +kernel
theorem dX4_both_22 : decode cX4_both 22 = .ok (.invokevirtual 121, 3) := by decide +kernel
theorem dX4_both_25 : decode cX4_both 25 = .ok (.ireturn, 1) := by decide +kernel
set_option maxRecDepth 20000 in
theorem ggX4_knows_X4_needAgent : GoodIn wsX4_knows wsX4_needAgent := goodIn_ca (goodIn_r _ [6, 7, 8] (by decide +kernel) (by decide +kernel)) (goodIn_sub (fun _ h => List.mem_cons_of_mem _ (List.mem_append_left _ (List.mem_append_right _ h))) (by decide +kernel))
set_option maxRecDepth 20000 in
theorem gX4_knows_X4_needAgent : GoodIn wsX4_knows (wsV RX4 67 RX4 yX4_needAgent wsX4_needAgent) := goodIn_app (goodIn_of _ (by decide +kernel)) ggX4_knows_X4_needAgent
set_option maxRecDepth 20000 in
theorem ggX4_knows_X4_needFormula : GoodIn wsX4_knows wsX4_needFormula := goodIn_ca (goodIn_r _ [12, 7, 8, 1, 13, 48, 49, 50, 51, 52, 53, 54, 55, 56, 57, 58, 59] (by decide +kernel) (by decide +kernel)) (goodIn_sub (fun _ h => List.mem_cons_of_mem _ (List.mem_append_left _ (List.mem_append_right _ h))) (by decide +kernel))
set_option maxRecDepth 20000 in
theorem gX4_knows_X4_needFormula : GoodIn wsX4_knows (wsV RX4 124 RX4 yX4_needFormula wsX4_needFormula) := goodIn_app (goodIn_of _ (by decide +kernel)) ggX4_knows_X4_needFormula
set_option maxRecDepth 20000 in
theorem ggX4_knows_X4_needRoomForFormula : GoodIn wsX4_knows wsX4_needRoomForFormula := goodIn_ca (goodIn_r _ [17, 18, 19, 1, 13, 48, 49, 50, 51, 52, 53, 54, 55, 56, 57, 58, 59] (by decide +kernel) (by decide +kernel)) (goodIn_sub (fun _ h => List.mem_cons_of_mem _ (List.mem_append_right _ h)) (by decide +kernel))
set_option maxRecDepth 20000 in
theorem gX4_knows_X4_needRoomForFormula : GoodIn wsX4_knows (wsV RX4 118 RX4 yX4_needRoomForFormula wsX4_needRoomForFormula) := goodIn_app (goodIn_of _ (by decide +kernel)) ggX4_knows_X4_needRoomForFormula
set_option maxRecDepth 20000 in
theorem ggX4_knows_X4_single : GoodIn wsX4_knows wsX4_single := goodIn_r _ [22] (by decide +kernel) (by decide +kernel)
set_option maxRecDepth 20000 in
theorem gX4_knows_X4_single : GoodIn wsX4_knows (va_wsS RX4 74 yX4_single wsX4_single) := goodIn_app (goodIn_of _ (by decide +kernel)) ggX4_knows_X4_single
set_option maxRecDepth 20000 in
theorem ggX4_knows_X0_append : GoodIn wsX4_knows wsX0_append := goodIn_r _ [27, 28, 29, 30, 31, 32, 33, 34, 35, 36, 37, 38, 26, 39, 40, 41, 42, 43, 44, 45, 46, 47, 52, 53, 54, 55, 56, 57, 58, 59] (by decide +kernel) (by decide +kernel)
set_option maxRecDepth 20000 in
theorem gX4_knows_X0_append : GoodIn wsX4_knows (wsV RX4 121 RX0 yX0_append wsX0_append) := goodIn_app (goodIn_of _ (by decide +kernel)) ggX4_knows_X0_append
theorem dX4_knows_0 : decode cX4_knows 0 = .ok (.aload_n 0, 1) := by decide +kernel
theorem dX4_knows_1 : decode cX4_knows 1 = .ok (.iload_n 1, 1) := by decide +kernel
theorem dX4_knows_2 : decode cX4_knows 2 = .ok (.invokevirtual 67, 3) := by decide +kernel
theorem dX4_knows_5 : decode cX4_knows 5 = .ok (.aload_n 0, 1) := by decide +kernel
theorem dX4_knows_6 : decode cX4_knows 6 = .ok (.iload_n 2, 1) := by decide +kernel
theorem dX4_knows_7 : decode cX4_knows 7 = .ok (.invokevirtual 124, 3) := by decide +kernel
theorem dX4_knows_10 : decode cX4_knows 10 = .ok (.aload_n 0, 1) := by decide +kernel
theorem dX4_knows_11 : decode cX4_knows 11 = .ok (.invokevirtual 118, 3) := by decide +kernel
theorem dX4_knows_14 : decode cX4_knows 14 = .ok (.aload_n 0, 1) := by decide +kernel
theorem dX4_knows_15 : decode cX4_knows 15 = .ok (.getfield 19, 3) := by decide +kernel
theorem dX4_knows_18 : decode cX4_knows 18 = .ok (.iconst 3, 1) := by decide +kernel
theorem dX4_knows_19 : decode cX4_knows 19 = .ok (.iload_n 1, 1) := by decide +kernel
theorem dX4_knows_20 : decode cX4_knows 20 = .ok (.invokestatic 74, 3) := by decide +kernel
theorem dX4_knows_23 : decode cX4_knows 23 = .ok (.iload_n 2, 1) := by decide +kernel
theorem dX4_knows_24 : decode cX4_knows 24 = .ok (.iconst (-1), 1) := by decide +kernel
theorem dX4_knows_25 : decode cX4_knows 25 = .ok (.invokevirtual 121, 3) := by decide +kernel
theorem dX4_knows_28 : decode cX4_knows 28 = .ok (.ireturn, 1) := by decide +kernel
set_option maxRecDepth 20000 in
theorem ggX4_ofGroup_X4_needFormula : GoodIn wsX4_ofGroup wsX4_needFormula := goodIn_ca (goodIn_r _ [6, 7, 8, 1, 9, 47, 48, 49, 50, 51, 52, 53, 54, 55, 56, 57, 58] (by decide +kernel) (by decide +kernel)) (goodIn_sub (fun _ h => List.mem_cons_of_mem _ (List.mem_append_left _ (List.mem_append_left _ (List.mem_append_right _ h)))) (by decide +kernel))
set_option maxRecDepth 20000 in
theorem gX4_ofGroup_X4_needFormula : GoodIn wsX4_ofGroup (wsV RX4 124 RX4 yX4_needFormula wsX4_needFormula) := goodIn_app (goodIn_of _ (by decide +kernel)) ggX4_ofGroup_X4_needFormula
set_option maxRecDepth 20000 in
theorem ggX4_ofGroup_X4_needGroup : GoodIn wsX4_ofGroup wsX4_needGroup := goodIn_ca (goodIn_r _ [13, 14, 15] (by decide +kernel) (by decide +kernel)) (goodIn_sub (fun _ h => List.mem_cons_of_mem _ (List.mem_append_left _ (List.mem_append_right _ h))) (by decide +kernel))
set_option maxRecDepth 20000 in
theorem gX4_ofGroup_X4_needGroup : GoodIn wsX4_ofGroup (wsV RX4 127 RX4 yX4_needGroup wsX4_needGroup) := goodIn_app (goodIn_of _ (by decide +kernel)) ggX4_ofGroup_X4_needGroup
set_option maxRecDepth 20000 in
theorem ggX4_ofGroup_X4_needRoomForFormula : GoodIn wsX4_ofGroup wsX4_needRoomForFormula := goodIn_ca (goodIn_r _ [19, 20, 21, 1, 9, 47, 48, 49, 50, 51, 52, 53, 54, 55, 56, 57, 58] (by decide +kernel) (by decide +kernel)) (goodIn_sub (fun _ h => List.mem_cons_of_mem _ (List.mem_append_right _ h)) (by decide +kernel))
set_option maxRecDepth 20000 in
theorem gX4_ofGroup_X4_needRoomForFormula : GoodIn wsX4_ofGroup (wsV RX4 118 RX4 yX4_needRoomForFormula wsX4_needRoomForFormula) := goodIn_app (goodIn_of _ (by decide +kernel)) ggX4_ofGroup_X4_needRoomForFormula
set_option maxRecDepth 20000 in
theorem ggX4_ofGroup_X0_append : GoodIn wsX4_ofGroup wsX0_append := goodIn_r _ [26, 27, 28, 29, 30, 31, 32, 33, 34, 35, 36, 37, 25, 38, 39, 40, 41, 42, 43, 44, 45, 46, 51, 52, 53, 54, 55, 56, 57, 58] (by decide +kernel) (by decide +kernel)
set_option maxRecDepth 20000 in
theorem gX4_ofGroup_X0_append : GoodIn wsX4_ofGroup (wsV RX4 121 RX0 yX0_append wsX0_append) := goodIn_app (goodIn_of _ (by decide +kernel)) ggX4_ofGroup_X0_append
theorem dX4_ofGroup_0 : decode cX4_ofGroup 0 = .ok (.aload_n 0, 1) := by decide +kernel
theorem dX4_ofGroup_1 : decode cX4_ofGroup 1 = .ok (.iload_n 3, 1) := by decide +kernel
theorem dX4_ofGroup_2 : decode cX4_ofGroup 2 = .ok (.invokevirtual 124, 3) := by decide +kernel
theorem dX4_ofGroup_5 : decode cX4_ofGroup 5 = .ok (.aload_n 0, 1) := by decide +kernel
theorem dX4_ofGroup_6 : decode cX4_ofGroup 6 = .ok (.iload_n 2, 1) := by decide +kernel
theorem dX4_ofGroup_7 : decode cX4_ofGroup 7 = .ok (.invokevirtual 127, 3) := by decide +kernel
theorem dX4_ofGroup_10 : decode cX4_ofGroup 10 = .ok (.aload_n 0, 1) := by decide +kernel
theorem dX4_ofGroup_11 : decode cX4_ofGroup 11 = .ok (.invokevirtual 118, 3) := by decide +kernel
theorem dX4_ofGroup_14 : decode cX4_ofGroup 14 = .ok (.aload_n 0, 1) := by decide +kernel
theorem dX4_ofGroup_15 : decode cX4_ofGroup 15 = .ok (.getfield 19, 3) := by decide +kernel
theorem dX4_ofGroup_18 : decode cX4_ofGroup 18 = .ok (.iload_n 1, 1) := by decide +kernel
theorem dX4_ofGroup_19 : decode cX4_ofGroup 19 = .ok (.ifCond .eq 7, 3) := by decide +kernel
theorem dX4_ofGroup_22 : decode cX4_ofGroup 22 = .ok (.iconst 4, 1) := by decide +kernel
theorem dX4_ofGroup_23 : decode cX4_ofGroup 23 = .ok (.goto 4, 3) := by decide +kernel
theorem dX4_ofGroup_26 : decode cX4_ofGroup 26 = .ok (.iconst 5, 1) := by decide +kernel
theorem dX4_ofGroup_27 : decode cX4_ofGroup 27 = .ok (.iload_n 2, 1) := by decide +kernel
theorem dX4_ofGroup_28 : decode cX4_ofGroup 28 = .ok (.iload_n 3, 1) := by decide +kernel
theorem dX4_ofGroup_29 : decode cX4_ofGroup 29 = .ok (.iconst (-1), 1) := by decide +kernel
theorem dX4_ofGroup_30 : decode cX4_ofGroup 30 = .ok (.invokevirtual 121, 3) := by decide +kernel
theorem dX4_ofGroup_33 : decode cX4_ofGroup 33 = .ok (.ireturn, 1) := by decide +kernel
set_option maxRecDepth 20000 in
theorem ggX4_after_X4_needFormula : GoodIn wsX4_after wsX4_needFormula := goodIn_ca (goodIn_r _ [13, 14, 15, 3, 16, 45, 46, 47, 48, 49, 50, 51, 52, 53, 54, 55, 56] (by decide +kernel) (by decide +kernel)) (goodIn_sub (fun _ h => List.mem_cons_of_mem _ (List.mem_append_left _ (List.mem_append_right _ h))) (by decide +kernel))
set_option maxRecDepth 20000 in
theorem gX4_after_X4_needFormula : GoodIn wsX4_after (wsV RX4 124 RX4 yX4_needFormula wsX4_needFormula) := goodIn_app (goodIn_of _ (by decide +kernel)) ggX4_after_X4_needFormula
set_option maxRecDepth 20000 in
theorem ggX4_after_X4_needRoomForFormula : GoodIn wsX4_after wsX4_needRoomForFormula := goodIn_ca (goodIn_r _ [20, 21, 22, 3, 16, 45, 46, 47, 48, 49, 50, 51, 52, 53, 54, 55, 56] (by decide +kernel) (by decide +kernel)) (goodIn_sub (fun _ h => List.mem_cons_of_mem _ (List.mem_append_right _ h)) (by decide +kernel))
set_option maxRecDepth 20000 in
theorem gX4_after_X4_needRoomForFormula : GoodIn wsX4_after (wsV RX4 118 RX4 yX4_needRoomForFormula wsX4_needRoomForFormula) := goodIn_app (goodIn_of _ (by decide +kernel)) ggX4_after_X4_needRoomForFormula
set_option maxRecDepth 20000 in
theorem ggX4_after_X0_append : GoodIn wsX4_after wsX0_append := goodIn_r _ [27, 28, 29, 30, 31, 32, 33, 34, 35, 36, 37, 38, 26, 39, 40, 6, 7, 8, 41, 42, 43, 44, 49, 50, 51, 52, 53, 54, 55, 56] (by decide +kernel) (by decide +kernel)
set_option maxRecDepth 20000 in
theorem gX4_after_X0_append : GoodIn wsX4_after (wsV RX4 121 RX0 yX0_append wsX0_append) := goodIn_app (goodIn_of _ (by decide +kernel)) ggX4_after_X0_append
theorem dX4_after_0 : decode cX4_after 0 = .ok (.aload_n 0, 1) := by decide +kernel
theorem dX4_after_1 : decode cX4_after 1 = .ok (.iload_n 1, 1) := by decide +kernel
theorem dX4_after_2 : decode cX4_after 2 = .ok (.invokevirtual 124, 3) := by decide +kernel
theorem dX4_after_5 : decode cX4_after 5 = .ok (.aload_n 0, 1) := by decide +kernel
theorem dX4_after_6 : decode cX4_after 6 = .ok (.iload_n 2, 1) := by decide +kernel
theorem dX4_after_7 : decode cX4_after 7 = .ok (.invokevirtual 124, 3) := by decide +kernel
theorem dX4_after_10 : decode cX4_after 10 = .ok (.aload_n 0, 1) := by decide +kernel
theorem dX4_after_11 : decode cX4_after 11 = .ok (.getfield 19, 3) := by decide +kernel
theorem dX4_after_14 : decode cX4_after 14 = .ok (.getfield 130, 3) := by decide +kernel
theorem dX4_after_17 : decode cX4_after 17 = .ok (.iload_n 1, 1) := by decide +kernel
theorem dX4_after_18 : decode cX4_after 18 = .ok (.iaload, 1) := by decide +kernel
theorem dX4_after_19 : decode cX4_after 19 = .ok (.aload_n 0, 1) := by decide +kernel
theorem dX4_after_20 : decode cX4_after 20 = .ok (.getfield 19, 3) := by decide +kernel
theorem dX4_after_23 : decode cX4_after 23 = .ok (.getfield 130, 3) := by decide +kernel
theorem dX4_after_26 : decode cX4_after 26 = .ok (.iload_n 2, 1) := by decide +kernel
theorem dX4_after_27 : decode cX4_after 27 = .ok (.iaload, 1) := by decide +kernel
theorem dX4_after_28 : decode cX4_after 28 = .ok (.invokestatic 133, 3) := by decide +kernel
theorem dX4_after_31 : decode cX4_after 31 = .ok (.iconst 2, 1) := by decide +kernel
theorem dX4_after_32 : decode cX4_after 32 = .ok (.if_icmp .lt 13, 3) := by decide +kernel
theorem dX4_after_35 : decode cX4_after 35 = .ok (.new 85, 3) := by decide +kernel
theorem dX4_after_38 : decode cX4_after 38 = .ok (.dup, 1) := by decide +kernel
theorem dX4_after_39 : decode cX4_after 39 = .ok (.ldc 138, 2) := by decide +kernel
theorem dX4_after_41 : decode cX4_after 41 = .ok (.invokespecial 89, 3) := by decide +kernel
theorem dX4_after_44 : decode cX4_after 44 = .ok (.athrow, 1) := by decide +kernel
theorem dX4_after_45 : decode cX4_after 45 = .ok (.aload_n 0, 1) := by decide +kernel
theorem dX4_after_46 : decode cX4_after 46 = .ok (.invokevirtual 118, 3) := by decide +kernel
theorem dX4_after_49 : decode cX4_after 49 = .ok (.aload_n 0, 1) := by decide +kernel
theorem dX4_after_50 : decode cX4_after 50 = .ok (.getfield 19, 3) := by decide +kernel
theorem dX4_after_53 : decode cX4_after 53 = .ok (.bipush 6, 2) := by decide +kernel
theorem dX4_after_55 : decode cX4_after 55 = .ok (.iconst 0, 1) := by decide +kernel
theorem dX4_after_56 : decode cX4_after 56 = .ok (.iload_n 1, 1) := by decide +kernel
theorem dX4_after_57 : decode cX4_after 57 = .ok (.iload_n 2, 1) := by decide +kernel
theorem dX4_after_58 : decode cX4_after 58 = .ok (.invokevirtual 121, 3) := by decide +kernel
theorem dX4_after_61 : decode cX4_after 61 = .ok (.ireturn, 1) := by decide +kernel
theorem dX4_formulaCount_0 : decode cX4_formulaCount 0 = .ok (.aload_n 0, 1) := by decide +kernel
theorem dX4_formulaCount_1 : decode cX4_formulaCount 1 = .ok (.getfield 19, 3) := by decide +kernel
theorem dX4_formulaCount_4 : decode cX4_formulaCount 4 = .ok (.getfield 140, 3) := by decide +kernel
theorem dX4_formulaCount_7 : decode cX4_formulaCount 7 = .ok (.ireturn, 1) := by decide +kernel
set_option maxRecDepth 20000 in
theorem ggX4_depth_X4_needFormula : GoodIn wsX4_depth wsX4_needFormula := goodIn_ca (goodIn_r _ [7, 8, 9, 1, 10, 11, 12, 13, 14, 15, 16, 17, 18, 19, 20, 21, 22] (by decide +kernel) (by decide +kernel)) (goodIn_sub (fun _ h => List.mem_cons_of_mem _ (List.mem_append_right _ h)) (by decide +kernel))
set_option maxRecDepth 20000 in
theorem gX4_depth_X4_needFormula : GoodIn wsX4_depth (wsV RX4 124 RX4 yX4_needFormula wsX4_needFormula) := goodIn_app (goodIn_of _ (by decide +kernel)) ggX4_depth_X4_needFormula
theorem dX4_depth_0 : decode cX4_depth 0 = .ok (.aload_n 0, 1) := by decide +kernel
theorem dX4_depth_1 : decode cX4_depth 1 = .ok (.iload_n 1, 1) := by decide +kernel
theorem dX4_depth_2 : decode cX4_depth 2 = .ok (.invokevirtual 124, 3) := by decide +kernel
theorem dX4_depth_5 : decode cX4_depth 5 = .ok (.aload_n 0, 1) := by decide +kernel
theorem dX4_depth_6 : decode cX4_depth 6 = .ok (.getfield 19, 3) := by decide +kernel
theorem dX4_depth_9 : decode cX4_depth 9 = .ok (.getfield 141, 3) := by decide +kernel
theorem dX4_depth_12 : decode cX4_depth 12 = .ok (.iload_n 1, 1) := by decide +kernel
theorem dX4_depth_13 : decode cX4_depth 13 = .ok (.iaload, 1) := by decide +kernel
theorem dX4_depth_14 : decode cX4_depth 14 = .ok (.ireturn, 1) := by decide +kernel
set_option maxRecDepth 20000 in
theorem ggX4_nesting_X4_needFormula : GoodIn wsX4_nesting wsX4_needFormula := goodIn_ca (goodIn_r _ [7, 8, 9, 1, 10, 11, 12, 13, 14, 15, 16, 17, 18, 19, 20, 21, 22] (by decide +kernel) (by decide +kernel)) (goodIn_sub (fun _ h => List.mem_cons_of_mem _ (List.mem_append_right _ h)) (by decide +kernel))
set_option maxRecDepth 20000 in
theorem gX4_nesting_X4_needFormula : GoodIn wsX4_nesting (wsV RX4 124 RX4 yX4_needFormula wsX4_needFormula) := goodIn_app (goodIn_of _ (by decide +kernel)) ggX4_nesting_X4_needFormula
theorem dX4_nesting_0 : decode cX4_nesting 0 = .ok (.aload_n 0, 1) := by decide +kernel
theorem dX4_nesting_1 : decode cX4_nesting 1 = .ok (.iload_n 1, 1) := by decide +kernel
theorem dX4_nesting_2 : decode cX4_nesting 2 = .ok (.invokevirtual 124, 3) := by decide +kernel
theorem dX4_nesting_5 : decode cX4_nesting 5 = .ok (.aload_n 0, 1) := by decide +kernel
theorem dX4_nesting_6 : decode cX4_nesting 6 = .ok (.getfield 19, 3) := by decide +kernel
theorem dX4_nesting_9 : decode cX4_nesting 9 = .ok (.getfield 130, 3) := by decide +kernel
theorem dX4_nesting_12 : decode cX4_nesting 12 = .ok (.iload_n 1, 1) := by decide +kernel
theorem dX4_nesting_13 : decode cX4_nesting 13 = .ok (.iaload, 1) := by decide +kernel
theorem dX4_nesting_14 : decode cX4_nesting 14 = .ok (.ireturn, 1) := by decide +kernel
set_option maxRecDepth 20000 in
theorem ggX4_where_X4_needFormula : GoodIn wsX4_where wsX4_needFormula := goodIn_ca (goodIn_r _ [6, 7, 8, 9, 10, 66, 67, 68, 69, 70, 71, 72, 73, 74, 75, 76, 77] (by decide +kernel) (by decide +kernel)) (goodIn_sub (fun _ h => List.mem_cons_of_mem _ (List.mem_append_right _ h)) (by decide +kernel))
set_option maxRecDepth 20000 in
theorem gX4_where_X4_needFormula : GoodIn wsX4_where (wsV RX4 124 RX4 yX4_needFormula wsX4_needFormula) := goodIn_app (goodIn_of _ (by decide +kernel)) ggX4_where_X4_needFormula
set_option maxRecDepth 20000 in
theorem ggX4_where_X2_worldsOf : GoodIn wsX4_where wsX2_worldsOf := goodIn_r _ [15, 16, 17, 18, 19, 20, 21, 22, 23, 24, 25, 14, 26, 27, 28, 29, 30, 31, 32, 33, 34, 35, 36, 37, 38, 39, 40, 41, 42, 43, 5, 44, 45, 46, 47, 48, 49, 50, 51, 52, 53, 54, 55, 56, 57, 58, 59, 60, 61, 62, 63, 64, 65, 78, 79, 80, 81, 82, 83, 84, 70, 71, 72, 73, 74, 75, 76, 77] (by decide +kernel) (by decide +kernel)
set_option maxRecDepth 20000 in
theorem gX4_where_X2_worldsOf : GoodIn wsX4_where (wsV RX4 144 RX2 yX2_worldsOf wsX2_worldsOf) := goodIn_app (goodIn_of _ (by decide +kernel)) ggX4_where_X2_worldsOf
theorem dX4_where_0 : decode cX4_where 0 = .ok (.aload_n 0, 1) := by decide +kernel
theorem dX4_where_1 : decode cX4_where 1 = .ok (.iload_n 1, 1) := by decide +kernel
theorem dX4_where_2 : decode cX4_where 2 = .ok (.invokevirtual 124, 3) := by decide +kernel
theorem dX4_where_5 : decode cX4_where 5 = .ok (.aload_n 0, 1) := by decide +kernel
theorem dX4_where_6 : decode cX4_where 6 = .ok (.getfield 28, 3) := by decide +kernel
theorem dX4_where_9 : decode cX4_where 9 = .ok (.iload_n 1, 1) := by decide +kernel
theorem dX4_where_10 : decode cX4_where 10 = .ok (.invokevirtual 144, 3) := by decide +kernel
theorem dX4_where_13 : decode cX4_where 13 = .ok (.ireturn, 1) := by decide +kernel
set_option maxRecDepth 20000 in
theorem ggX4_holds_X4_needFormula : GoodIn wsX4_holds wsX4_needFormula := goodIn_ca (goodIn_r _ [8, 9, 10, 11, 12, 76, 77, 78, 79, 84, 85, 86, 87, 88, 89, 90, 91] (by decide +kernel) (by decide +kernel)) (goodIn_sub (fun _ h => List.mem_cons_of_mem _ (List.mem_append_left _ (List.mem_append_right _ h))) (by decide +kernel))
set_option maxRecDepth 20000 in
theorem gX4_holds_X4_needFormula : GoodIn wsX4_holds (wsV RX4 124 RX4 yX4_needFormula wsX4_needFormula) := goodIn_app (goodIn_of _ (by decide +kernel)) ggX4_holds_X4_needFormula
set_option maxRecDepth 20000 in
theorem ggX4_holds_X4_needSomeWorld : GoodIn wsX4_holds wsX4_needSomeWorld := goodIn_ca (goodIn_r _ [16, 17, 18, 2, 19, 76, 77, 78, 79, 80, 81, 82, 83] (by decide +kernel) (by decide +kernel)) (goodIn_sub (fun _ h => List.mem_cons_of_mem _ (List.mem_append_right _ h)) (by decide +kernel))
set_option maxRecDepth 20000 in
theorem gX4_holds_X4_needSomeWorld : GoodIn wsX4_holds (wsV RX4 97 RX4 yX4_needSomeWorld wsX4_needSomeWorld) := goodIn_app (goodIn_of _ (by decide +kernel)) ggX4_holds_X4_needSomeWorld
set_option maxRecDepth 20000 in
theorem ggX4_holds_X2_worldsOf : GoodIn wsX4_holds wsX2_worldsOf := goodIn_r _ [24, 25, 26, 27, 28, 29, 30, 31, 32, 33, 34, 23, 35, 36, 37, 38, 39, 40, 41, 42, 43, 44, 45, 46, 47, 48, 49, 50, 51, 52, 7, 53, 54, 55, 56, 57, 58, 59, 60, 61, 62, 63, 64, 65, 66, 67, 68, 69, 70, 71, 72, 73, 74, 92, 93, 94, 80, 81, 82, 83, 84, 85, 86, 87, 88, 89, 90, 91] (by decide +kernel) (by decide +kernel)
set_option maxRecDepth 20000 in
theorem gX4_holds_X2_worldsOf : GoodIn wsX4_holds (wsV RX4 144 RX2 yX2_worldsOf wsX2_worldsOf) := goodIn_app (goodIn_of _ (by decide +kernel)) ggX4_holds_X2_worldsOf
set_option maxRecDepth 20000 in
theorem ggX4_holds_X4_contains : GoodIn wsX4_holds wsX4_contains := goodIn_r _ [53] (by decide +kernel) (by decide +kernel)
set_option maxRecDepth 20000 in
theorem gX4_holds_X4_contains : GoodIn wsX4_holds (va_wsS RX4 77 yX4_contains wsX4_contains) := goodIn_app (goodIn_of _ (by decide +kernel)) ggX4_holds_X4_contains
theorem dX4_holds_0 : decode cX4_holds 0 = .ok (.aload_n 0, 1) := by decide +kernel
theorem dX4_holds_1 : decode cX4_holds 1 = .ok (.iload_n 1, 1) := by decide +kernel
theorem dX4_holds_2 : decode cX4_holds 2 = .ok (.invokevirtual 124, 3) := by decide +kernel
theorem dX4_holds_5 : decode cX4_holds 5 = .ok (.aload_n 0, 1) := by decide +kernel
theorem dX4_holds_6 : decode cX4_holds 6 = .ok (.invokevirtual 97, 3) := by decide +kernel
theorem dX4_holds_9 : decode cX4_holds 9 = .ok (.aload_n 0, 1) := by decide +kernel
theorem dX4_holds_10 : decode cX4_holds 10 = .ok (.getfield 28, 3) := by decide +kernel
theorem dX4_holds_13 : decode cX4_holds 13 = .ok (.iload_n 1, 1) := by decide +kernel
theorem dX4_holds_14 : decode cX4_holds 14 = .ok (.invokevirtual 144, 3) := by decide +kernel
theorem dX4_holds_17 : decode cX4_holds 17 = .ok (.aload_n 0, 1) := by decide +kernel
theorem dX4_holds_18 : decode cX4_holds 18 = .ok (.getfield 10, 3) := by decide +kernel
theorem dX4_holds_21 : decode cX4_holds 21 = .ok (.getfield 94, 3) := by decide +kernel
theorem dX4_holds_24 : decode cX4_holds 24 = .ok (.invokestatic 77, 3) := by decide +kernel
theorem dX4_holds_27 : decode cX4_holds 27 = .ok (.ireturn, 1) := by decide +kernel
set_option maxRecDepth 20000 in
theorem ggX4_share_X4_needFormula : GoodIn wsX4_share wsX4_needFormula := goodIn_ca (goodIn_r _ [8, 9, 10, 11, 12, 75, 76, 77, 78, 83, 84, 85, 86, 87, 88, 89, 90] (by decide +kernel) (by decide +kernel)) (goodIn_sub (fun _ h => List.mem_cons_of_mem _ (List.mem_append_right _ h)) (by decide +kernel))
set_option maxRecDepth 20000 in
theorem gX4_share_X4_needFormula : GoodIn wsX4_share (wsV RX4 124 RX4 yX4_needFormula wsX4_needFormula) := goodIn_app (goodIn_of _ (by decide +kernel)) ggX4_share_X4_needFormula
set_option maxRecDepth 20000 in
theorem ggX4_share_X2_worldsOf : GoodIn wsX4_share wsX2_worldsOf := goodIn_r _ [17, 18, 19, 20, 21, 22, 23, 24, 25, 26, 27, 16, 28, 29, 30, 31, 32, 33, 34, 35, 36, 37, 38, 39, 40, 41, 42, 43, 44, 45, 7, 46, 47, 48, 49, 50, 51, 52, 53, 54, 55, 56, 57, 58, 59, 60, 61, 62, 63, 64, 65, 66, 67, 91, 92, 93, 79, 80, 81, 82, 83, 84, 85, 86, 87, 88, 89, 90] (by decide +kernel) (by decide +kernel)
set_option maxRecDepth 20000 in
theorem gX4_share_X2_worldsOf : GoodIn wsX4_share (wsV RX4 144 RX2 yX2_worldsOf wsX2_worldsOf) := goodIn_app (goodIn_of _ (by decide +kernel)) ggX4_share_X2_worldsOf
set_option maxRecDepth 20000 in
theorem ggX4_share_J6_bitCount_0f7a4 : GoodIn wsX4_share wsJ6_bitCount_0f7a4 := goodIn_r _ [71, 72, 73, 74] (by decide +kernel) (by decide +kernel)
set_option maxRecDepth 20000 in
theorem gX4_share_J6_bitCount_0f7a4 : GoodIn wsX4_share (va_wsS RX4 147 yJ6_bitCount_0f7a4 wsJ6_bitCount_0f7a4) := goodIn_app (goodIn_of _ (by decide +kernel)) ggX4_share_J6_bitCount_0f7a4
theorem dX4_share_0 : decode cX4_share 0 = .ok (.aload_n 0, 1) := by decide +kernel
theorem dX4_share_1 : decode cX4_share 1 = .ok (.iload_n 1, 1) := by decide +kernel
theorem dX4_share_2 : decode cX4_share 2 = .ok (.invokevirtual 124, 3) := by decide +kernel
theorem dX4_share_5 : decode cX4_share 5 = .ok (.aload_n 0, 1) := by decide +kernel
theorem dX4_share_6 : decode cX4_share 6 = .ok (.getfield 10, 3) := by decide +kernel
theorem dX4_share_9 : decode cX4_share 9 = .ok (.getfield 45, 3) := by decide +kernel
theorem dX4_share_12 : decode cX4_share 12 = .ok (.ifCond .ne 5, 3) := by decide +kernel
theorem dX4_share_15 : decode cX4_share 15 = .ok (.dconst 0, 1) := by decide +kernel
theorem dX4_share_16 : decode cX4_share 16 = .ok (.dreturn, 1) := by decide +kernel
theorem dX4_share_17 : decode cX4_share 17 = .ok (.aload_n 0, 1) := by decide +kernel
theorem dX4_share_18 : decode cX4_share 18 = .ok (.getfield 28, 3) := by decide +kernel
theorem dX4_share_21 : decode cX4_share 21 = .ok (.iload_n 1, 1) := by decide +kernel
theorem dX4_share_22 : decode cX4_share 22 = .ok (.invokevirtual 144, 3) := by decide +kernel
theorem dX4_share_25 : decode cX4_share 25 = .ok (.invokestatic 147, 3) := by decide +kernel
theorem dX4_share_28 : decode cX4_share 28 = .ok (.i2d, 1) := by decide +kernel
theorem dX4_share_29 : decode cX4_share 29 = .ok (.aload_n 0, 1) := by decide +kernel
theorem dX4_share_30 : decode cX4_share 30 = .ok (.getfield 10, 3) := by decide +kernel
theorem dX4_share_33 : decode cX4_share 33 = .ok (.getfield 45, 3) := by decide +kernel
theorem dX4_share_36 : decode cX4_share 36 = .ok (.i2d, 1) := by decide +kernel
theorem dX4_share_37 : decode cX4_share 37 = .ok (.ddiv, 1) := by decide +kernel
theorem dX4_share_38 : decode cX4_share 38 = .ok (.dreturn, 1) := by decide +kernel
set_option maxRecDepth 20000 in
theorem ggX4_decided_X4_needAgent : GoodIn wsX4_decided wsX4_needAgent := goodIn_ca (goodIn_r _ [8, 9, 10] (by decide +kernel) (by decide +kernel)) (goodIn_sub (fun _ h => List.mem_cons_of_mem _ (List.mem_append_left _ (List.mem_append_right _ h))) (by decide +kernel))
set_option maxRecDepth 20000 in
theorem gX4_decided_X4_needAgent : GoodIn wsX4_decided (wsV RX4 67 RX4 yX4_needAgent wsX4_needAgent) := goodIn_app (goodIn_of _ (by decide +kernel)) ggX4_decided_X4_needAgent
set_option maxRecDepth 20000 in
theorem ggX4_decided_X4_needSomeWorld : GoodIn wsX4_decided wsX4_needSomeWorld := goodIn_ca (goodIn_r _ [14, 15, 16, 1, 17, 27, 28, 29, 30, 31, 32, 33, 34] (by decide +kernel) (by decide +kernel)) (goodIn_sub (fun _ h => List.mem_cons_of_mem _ (List.mem_append_right _ h)) (by decide +kernel))
set_option maxRecDepth 20000 in
theorem gX4_decided_X4_needSomeWorld : GoodIn wsX4_decided (wsV RX4 97 RX4 yX4_needSomeWorld wsX4_needSomeWorld) := goodIn_app (goodIn_of _ (by decide +kernel)) ggX4_decided_X4_needSomeWorld
set_option maxRecDepth 20000 in
theorem ggX4_decided_X3_sameAtomsOver : GoodIn wsX4_decided wsX3_sameAtomsOver := goodIn_r _ [22, 23, 24, 25, 7, 26, 31, 32, 33, 34] (by decide +kernel) (by decide +kernel)
set_option maxRecDepth 20000 in
theorem gX4_decided_X3_sameAtomsOver : GoodIn wsX4_decided (wsV RX4 152 RX3 yX3_sameAtomsOver wsX3_sameAtomsOver) := goodIn_app (goodIn_of _ (by decide +kernel)) ggX4_decided_X3_sameAtomsOver
theorem dX4_decided_0 : decode cX4_decided 0 = .ok (.aload_n 0, 1) := by decide +kernel
theorem dX4_decided_1 : decode cX4_decided 1 = .ok (.iload_n 1, 1) := by decide +kernel
theorem dX4_decided_2 : decode cX4_decided 2 = .ok (.invokevirtual 67, 3) := by decide +kernel
theorem dX4_decided_5 : decode cX4_decided 5 = .ok (.aload_n 0, 1) := by decide +kernel
theorem dX4_decided_6 : decode cX4_decided 6 = .ok (.invokevirtual 97, 3) := by decide +kernel
theorem dX4_decided_9 : decode cX4_decided 9 = .ok (.aload_n 0, 1) := by decide +kernel
theorem dX4_decided_10 : decode cX4_decided 10 = .ok (.getfield 10, 3) := by decide +kernel
theorem dX4_decided_13 : decode cX4_decided 13 = .ok (.aload_n 0, 1) := by decide +kernel
theorem dX4_decided_14 : decode cX4_decided 14 = .ok (.getfield 10, 3) := by decide +kernel
theorem dX4_decided_17 : decode cX4_decided 17 = .ok (.getfield 70, 3) := by decide +kernel
theorem dX4_decided_20 : decode cX4_decided 20 = .ok (.iload_n 1, 1) := by decide +kernel
theorem dX4_decided_21 : decode cX4_decided 21 = .ok (.aaload, 1) := by decide +kernel
theorem dX4_decided_22 : decode cX4_decided 22 = .ok (.aload_n 0, 1) := by decide +kernel
theorem dX4_decided_23 : decode cX4_decided 23 = .ok (.getfield 10, 3) := by decide +kernel
theorem dX4_decided_26 : decode cX4_decided 26 = .ok (.getfield 94, 3) := by decide +kernel
theorem dX4_decided_29 : decode cX4_decided 29 = .ok (.iaload, 1) := by decide +kernel
theorem dX4_decided_30 : decode cX4_decided 30 = .ok (.invokevirtual 152, 3) := by decide +kernel
theorem dX4_decided_33 : decode cX4_decided 33 = .ok (.ireturn, 1) := by decide +kernel
set_option maxRecDepth 20000 in
theorem ggX4_reached_X4_needGroup : GoodIn wsX4_reached wsX4_needGroup := goodIn_ca (goodIn_r _ [6, 7, 8] (by decide +kernel) (by decide +kernel)) (goodIn_sub (fun _ h => List.mem_cons_of_mem _ (List.mem_append_left _ (List.mem_append_right _ h))) (by decide +kernel))
set_option maxRecDepth 20000 in
theorem gX4_reached_X4_needGroup : GoodIn wsX4_reached (wsV RX4 127 RX4 yX4_needGroup wsX4_needGroup) := goodIn_app (goodIn_of _ (by decide +kernel)) ggX4_reached_X4_needGroup
set_option maxRecDepth 20000 in
theorem ggX4_reached_X4_needWorld : GoodIn wsX4_reached wsX4_needWorld := goodIn_ca (goodIn_r _ [12, 13, 14, 1, 15, 29, 30, 31, 32, 33, 34, 35, 36] (by decide +kernel) (by decide +kernel)) (goodIn_sub (fun _ h => List.mem_cons_of_mem _ (List.mem_append_right _ h)) (by decide +kernel))
set_option maxRecDepth 20000 in
theorem gX4_reached_X4_needWorld : GoodIn wsX4_reached (wsV RX4 60 RX4 yX4_needWorld wsX4_needWorld) := goodIn_app (goodIn_of _ (by decide +kernel)) ggX4_reached_X4_needWorld
set_option maxRecDepth 20000 in
theorem ggX4_reached_X3_reachableFrom : GoodIn wsX4_reached wsX3_reachableFrom := goodIn_r _ [20, 21, 22, 23, 24, 19, 25, 26, 27, 5, 28, 33, 34, 35, 36] (by decide +kernel) (by decide +kernel)
set_option maxRecDepth 20000 in
theorem gX4_reached_X3_reachableFrom : GoodIn wsX4_reached (wsV RX4 155 RX3 yX3_reachableFrom wsX3_reachableFrom) := goodIn_app (goodIn_of _ (by decide +kernel)) ggX4_reached_X3_reachableFrom
theorem dX4_reached_0 : decode cX4_reached 0 = .ok (.aload_n 0, 1) := by decide +kernel
theorem dX4_reached_1 : decode cX4_reached 1 = .ok (.iload_n 1, 1) := by decide +kernel
theorem dX4_reached_2 : decode cX4_reached 2 = .ok (.invokevirtual 127, 3) := by decide +kernel
theorem dX4_reached_5 : decode cX4_reached 5 = .ok (.aload_n 0, 1) := by decide +kernel
theorem dX4_reached_6 : decode cX4_reached 6 = .ok (.iload_n 2, 1) := by decide +kernel
theorem dX4_reached_7 : decode cX4_reached 7 = .ok (.invokevirtual 60, 3) := by decide +kernel
theorem dX4_reached_10 : decode cX4_reached 10 = .ok (.aload_n 0, 1) := by decide +kernel
theorem dX4_reached_11 : decode cX4_reached 11 = .ok (.getfield 10, 3) := by decide +kernel
theorem dX4_reached_14 : decode cX4_reached 14 = .ok (.iload_n 1, 1) := by decide +kernel
theorem dX4_reached_15 : decode cX4_reached 15 = .ok (.iload_n 2, 1) := by decide +kernel
theorem dX4_reached_16 : decode cX4_reached 16 = .ok (.invokevirtual 155, 3) := by decide +kernel
theorem dX4_reached_19 : decode cX4_reached 19 = .ok (.ireturn, 1) := by decide +kernel
set_option maxRecDepth 20000 in
theorem ggX4_areAlike_X4_needWorld : GoodIn wsX4_areAlike wsX4_needWorld := goodIn_ca (goodIn_r _ [7, 8, 9, 10, 11, 52, 53, 54, 55, 60, 61, 62, 63] (by decide +kernel) (by decide +kernel)) (goodIn_sub (fun _ h => List.mem_cons_of_mem _ (List.mem_append_right _ h)) (by decide +kernel))
set_option maxRecDepth 20000 in
theorem gX4_areAlike_X4_needWorld : GoodIn wsX4_areAlike (wsV RX4 60 RX4 yX4_needWorld wsX4_needWorld) := goodIn_app (goodIn_of _ (by decide +kernel)) ggX4_areAlike_X4_needWorld
set_option maxRecDepth 20000 in
theorem ggX4_areAlike_X1_findClasses : GoodIn wsX4_areAlike wsX1_findClasses := goodIn_r _ [16, 17, 18, 19, 20, 21, 22, 15, 23, 24, 25, 26, 27, 28, 29, 30, 6, 31, 32, 33, 34, 35, 36, 37, 38, 39, 40, 41, 42, 43, 44, 45, 46, 47, 48, 49, 50, 51, 56, 57, 58, 59, 60, 61, 62, 63] (by decide +kernel) (by decide +kernel)
set_option maxRecDepth 20000 in
theorem gX4_areAlike_X1_findClasses : GoodIn wsX4_areAlike (wsV RX4 158 RX1 yX1_findClasses wsX1_findClasses) := goodIn_app (goodIn_of _ (by decide +kernel)) ggX4_areAlike_X1_findClasses
theorem dX4_areAlike_0 : decode cX4_areAlike 0 = .ok (.aload_n 0, 1) := by decide +kernel
theorem dX4_areAlike_1 : decode cX4_areAlike 1 = .ok (.iload_n 1, 1) := by decide +kernel
theorem dX4_areAlike_2 : decode cX4_areAlike 2 = .ok (.invokevirtual 60, 3) := by decide +kernel
theorem dX4_areAlike_5 : decode cX4_areAlike 5 = .ok (.aload_n 0, 1) := by decide +kernel
theorem dX4_areAlike_6 : decode cX4_areAlike 6 = .ok (.iload_n 2, 1) := by decide +kernel
theorem dX4_areAlike_7 : decode cX4_areAlike 7 = .ok (.invokevirtual 60, 3) := by decide +kernel
theorem dX4_areAlike_10 : decode cX4_areAlike 10 = .ok (.aload_n 0, 1) := by decide +kernel
theorem dX4_areAlike_11 : decode cX4_areAlike 11 = .ok (.getfield 37, 3) := by decide +kernel
theorem dX4_areAlike_14 : decode cX4_areAlike 14 = .ok (.invokevirtual 158, 3) := by decide +kernel
theorem dX4_areAlike_17 : decode cX4_areAlike 17 = .ok (.aload_n 0, 1) := by decide +kernel
theorem dX4_areAlike_18 : decode cX4_areAlike 18 = .ok (.getfield 37, 3) := by decide +kernel
theorem dX4_areAlike_21 : decode cX4_areAlike 21 = .ok (.getfield 161, 3) := by decide +kernel
theorem dX4_areAlike_24 : decode cX4_areAlike 24 = .ok (.iload_n 1, 1) := by decide +kernel
theorem dX4_areAlike_25 : decode cX4_areAlike 25 = .ok (.iaload, 1) := by decide +kernel
theorem dX4_areAlike_26 : decode cX4_areAlike 26 = .ok (.aload_n 0, 1) := by decide +kernel
theorem dX4_areAlike_27 : decode cX4_areAlike 27 = .ok (.getfield 37, 3) := by decide +kernel
theorem dX4_areAlike_30 : decode cX4_areAlike 30 = .ok (.getfield 161, 3) := by decide +kernel
theorem dX4_areAlike_33 : decode cX4_areAlike 33 = .ok (.iload_n 2, 1) := by decide +kernel
theorem dX4_areAlike_34 : decode cX4_areAlike 34 = .ok (.iaload, 1) := by decide +kernel
theorem dX4_areAlike_35 : decode cX4_areAlike 35 = .ok (.if_icmp .ne 7, 3) := by decide +kernel
theorem dX4_areAlike_38 : decode cX4_areAlike 38 = .ok (.iconst 1, 1) := by decide +kernel
theorem dX4_areAlike_39 : decode cX4_areAlike 39 = .ok (.goto 4, 3) := by decide +kernel
theorem dX4_areAlike_42 : decode cX4_areAlike 42 = .ok (.iconst 0, 1) := by decide +kernel
theorem dX4_areAlike_43 : decode cX4_areAlike 43 = .ok (.ireturn, 1) := by decide +kernel
set_option maxRecDepth 20000 in
theorem ggX4_announce_X4_needFormula : GoodIn wsX4_announce wsX4_needFormula := goodIn_ca (goodIn_r _ [7, 8, 9, 10, 11, 103, 104, 105, 106, 107, 108, 109, 110, 111, 112, 113, 114] (by decide +kernel) (by decide +kernel)) (goodIn_sub (fun _ h => List.mem_cons_of_mem _ (List.mem_append_left _ (List.mem_append_right _ h))) (by decide +kernel))
set_option maxRecDepth 20000 in
theorem gX4_announce_X4_needFormula : GoodIn wsX4_announce (wsV RX4 124 RX4 yX4_needFormula wsX4_needFormula) := goodIn_app (goodIn_of _ (by decide +kernel)) ggX4_announce_X4_needFormula
set_option maxRecDepth 20000 in
theorem ggX4_announce_X2_worldsOf : GoodIn wsX4_announce wsX2_worldsOf := goodIn_r _ [16, 17, 18, 19, 20, 21, 22, 23, 24, 25, 26, 15, 27, 28, 29, 30, 31, 32, 33, 34, 35, 36, 37, 38, 39, 40, 41, 42, 43, 44, 6, 45, 46, 47, 48, 49, 50, 51, 52, 53, 54, 55, 56, 57, 58, 59, 60, 61, 62, 63, 64, 65, 66, 115, 116, 117, 118, 119, 120, 121, 107, 108, 109, 110, 111, 112, 113, 114] (by decide +kernel) (by decide +kernel)
set_option maxRecDepth 20000 in
theorem gX4_announce_X2_worldsOf : GoodIn wsX4_announce (wsV RX4 144 RX2 yX2_worldsOf wsX2_worldsOf) := goodIn_app (goodIn_of _ (by decide +kernel)) ggX4_announce_X2_worldsOf
set_option maxRecDepth 20000 in
theorem ggX4_announce_X4_needActualIn : GoodIn wsX4_announce wsX4_needActualIn := goodIn_ca (goodIn_r _ [70, 71, 72, 2, 73, 74, 75, 76, 6, 77, 78, 79, 44, 45, 103, 104, 105, 106, 118, 119, 120, 121] (by decide +kernel) (by decide +kernel)) (goodIn_sub (fun _ h => List.mem_cons_of_mem _ (List.mem_append_right _ h)) (by decide +kernel))
set_option maxRecDepth 20000 in
theorem gX4_announce_X4_needActualIn : GoodIn wsX4_announce (wsV RX4 164 RX4 yX4_needActualIn wsX4_needActualIn) := goodIn_app (goodIn_of _ (by decide +kernel)) ggX4_announce_X4_needActualIn
set_option maxRecDepth 20000 in
theorem ggX4_announce_X3_keepOnly : GoodIn wsX4_announce wsX3_keepOnly := goodIn_r _ [83, 23, 43, 57, 84, 85, 86, 87, 88, 89, 90, 91, 44, 6, 45, 92, 93, 79, 94, 95, 96, 97, 46, 47, 98, 99, 100, 101, 21, 102, 118, 119, 120, 121] (by decide +kernel) (by decide +kernel)
set_option maxRecDepth 20000 in
theorem gX4_announce_X3_keepOnly : GoodIn wsX4_announce (wsV RX4 167 RX3 yX3_keepOnly wsX3_keepOnly) := goodIn_app (goodIn_of _ (by decide +kernel)) ggX4_announce_X3_keepOnly
theorem dX4_announce_0 : decode cX4_announce 0 = .ok (.aload_n 0, 1) := by decide +kernel
theorem dX4_announce_1 : decode cX4_announce 1 = .ok (.iload_n 1, 1) := by decide +kernel
theorem dX4_announce_2 : decode cX4_announce 2 = .ok (.invokevirtual 124, 3) := by decide +kernel
theorem dX4_announce_5 : decode cX4_announce 5 = .ok (.aload_n 0, 1) := by decide +kernel
theorem dX4_announce_6 : decode cX4_announce 6 = .ok (.getfield 28, 3) := by decide +kernel
theorem dX4_announce_9 : decode cX4_announce 9 = .ok (.iload_n 1, 1) := by decide +kernel
theorem dX4_announce_10 : decode cX4_announce 10 = .ok (.invokevirtual 144, 3) := by decide +kernel
theorem dX4_announce_13 : decode cX4_announce 13 = .ok (.istore_n 2, 1) := by decide +kernel
theorem dX4_announce_14 : decode cX4_announce 14 = .ok (.aload_n 0, 1) := by decide +kernel
theorem dX4_announce_15 : decode cX4_announce 15 = .ok (.iload_n 2, 1) := by decide +kernel
theorem dX4_announce_16 : decode cX4_announce 16 = .ok (.invokevirtual 164, 3) := by decide +kernel
theorem dX4_announce_19 : decode cX4_announce 19 = .ok (.aload_n 0, 1) := by decide +kernel
theorem dX4_announce_20 : decode cX4_announce 20 = .ok (.getfield 10, 3) := by decide +kernel
theorem dX4_announce_23 : decode cX4_announce 23 = .ok (.iload_n 2, 1) := by decide +kernel
theorem dX4_announce_24 : decode cX4_announce 24 = .ok (.invokevirtual 167, 3) := by decide +kernel
theorem dX4_announce_27 : decode cX4_announce 27 = .ok (.ireturn, 1) := by decide +kernel
set_option maxRecDepth 20000 in
theorem ggX4_tell_X4_needFormula : GoodIn wsX4_tell wsX4_needFormula := goodIn_ca (goodIn_r _ [7, 8, 9, 10, 11, 84, 85, 86, 87, 88, 89, 90, 91, 92, 93, 94, 95] (by decide +kernel) (by decide +kernel)) (goodIn_sub (fun _ h => List.mem_cons_of_mem _ (List.mem_append_left _ (List.mem_append_right _ h))) (by decide +kernel))
set_option maxRecDepth 20000 in
theorem gX4_tell_X4_needFormula : GoodIn wsX4_tell (wsV RX4 124 RX4 yX4_needFormula wsX4_needFormula) := goodIn_app (goodIn_of _ (by decide +kernel)) ggX4_tell_X4_needFormula
set_option maxRecDepth 20000 in
theorem ggX4_tell_X4_needGroup : GoodIn wsX4_tell wsX4_needGroup := goodIn_ca (goodIn_r _ [15, 16, 17] (by decide +kernel) (by decide +kernel)) (goodIn_sub (fun _ h => List.mem_cons_of_mem _ (List.mem_append_right _ h)) (by decide +kernel))
set_option maxRecDepth 20000 in
theorem gX4_tell_X4_needGroup : GoodIn wsX4_tell (wsV RX4 127 RX4 yX4_needGroup wsX4_needGroup) := goodIn_app (goodIn_of _ (by decide +kernel)) ggX4_tell_X4_needGroup
set_option maxRecDepth 20000 in
theorem ggX4_tell_X2_worldsOf : GoodIn wsX4_tell wsX2_worldsOf := goodIn_r _ [22, 23, 24, 25, 26, 27, 28, 29, 30, 31, 32, 21, 33, 34, 35, 36, 37, 38, 39, 40, 41, 42, 43, 44, 45, 46, 47, 48, 49, 50, 6, 51, 52, 53, 54, 55, 56, 57, 58, 59, 60, 61, 62, 63, 64, 65, 66, 67, 68, 69, 70, 71, 72, 96, 97, 98, 99, 100, 101, 102, 88, 89, 90, 91, 92, 93, 94, 95] (by decide +kernel) (by decide +kernel)
set_option maxRecDepth 20000 in
theorem gX4_tell_X2_worldsOf : GoodIn wsX4_tell (wsV RX4 144 RX2 yX2_worldsOf wsX2_worldsOf) := goodIn_app (goodIn_of _ (by decide +kernel)) ggX4_tell_X2_worldsOf
set_option maxRecDepth 20000 in
theorem ggX4_tell_X3_cutBetween : GoodIn wsX4_tell wsX3_cutBetween := goodIn_r _ [76, 29, 63, 50, 6, 51, 77, 78, 79, 80, 81, 82, 83, 99, 100, 101, 102] (by decide +kernel) (by decide +kernel)
set_option maxRecDepth 20000 in
theorem gX4_tell_X3_cutBetween : GoodIn wsX4_tell (wsV RX4 170 RX3 yX3_cutBetween wsX3_cutBetween) := goodIn_app (goodIn_of _ (by decide +kernel)) ggX4_tell_X3_cutBetween
theorem dX4_tell_0 : decode cX4_tell 0 = .ok (.aload_n 0, 1) := by decide +kernel
theorem dX4_tell_1 : decode cX4_tell 1 = .ok (.iload_n 2, 1) := by decide +kernel
theorem dX4_tell_2 : decode cX4_tell 2 = .ok (.invokevirtual 124, 3) := by decide +kernel
theorem dX4_tell_5 : decode cX4_tell 5 = .ok (.aload_n 0, 1) := by decide +kernel
theorem dX4_tell_6 : decode cX4_tell 6 = .ok (.iload_n 1, 1) := by decide +kernel
theorem dX4_tell_7 : decode cX4_tell 7 = .ok (.invokevirtual 127, 3) := by decide +kernel
theorem dX4_tell_10 : decode cX4_tell 10 = .ok (.aload_n 0, 1) := by decide +kernel
theorem dX4_tell_11 : decode cX4_tell 11 = .ok (.getfield 10, 3) := by decide +kernel
theorem dX4_tell_14 : decode cX4_tell 14 = .ok (.iload_n 1, 1) := by decide +kernel
theorem dX4_tell_15 : decode cX4_tell 15 = .ok (.aload_n 0, 1) := by decide +kernel
theorem dX4_tell_16 : decode cX4_tell 16 = .ok (.getfield 28, 3) := by decide +kernel
theorem dX4_tell_19 : decode cX4_tell 19 = .ok (.iload_n 2, 1) := by decide +kernel
theorem dX4_tell_20 : decode cX4_tell 20 = .ok (.invokevirtual 144, 3) := by decide +kernel
theorem dX4_tell_23 : decode cX4_tell 23 = .ok (.invokevirtual 170, 3) := by decide +kernel
theorem dX4_tell_26 : decode cX4_tell 26 = .ok (.ireturn, 1) := by decide +kernel
set_option maxRecDepth 20000 in
theorem ggX4_whisper_X4_needFormula : GoodIn wsX4_whisper wsX4_needFormula := goodIn_ca (goodIn_r _ [10, 11, 12, 13, 14, 108, 109, 110, 111, 116, 117, 118, 119, 120, 121, 122, 123] (by decide +kernel) (by decide +kernel)) (goodIn_sub (fun _ h => List.mem_cons_of_mem _ (List.mem_append_left _ (List.mem_append_right _ h))) (by decide +kernel))
set_option maxRecDepth 20000 in
theorem gX4_whisper_X4_needFormula : GoodIn wsX4_whisper (wsV RX4 124 RX4 yX4_needFormula wsX4_needFormula) := goodIn_app (goodIn_of _ (by decide +kernel)) ggX4_whisper_X4_needFormula
set_option maxRecDepth 20000 in
theorem ggX4_whisper_X4_needGroup : GoodIn wsX4_whisper wsX4_needGroup := goodIn_ca (goodIn_r _ [18, 19, 20] (by decide +kernel) (by decide +kernel)) (goodIn_sub (fun _ h => List.mem_cons_of_mem _ (List.mem_append_right _ h)) (by decide +kernel))
set_option maxRecDepth 20000 in
theorem gX4_whisper_X4_needGroup : GoodIn wsX4_whisper (wsV RX4 127 RX4 yX4_needGroup wsX4_needGroup) := goodIn_app (goodIn_of _ (by decide +kernel)) ggX4_whisper_X4_needGroup
set_option maxRecDepth 20000 in
theorem ggX4_whisper_X2_worldsOf : GoodIn wsX4_whisper wsX2_worldsOf := goodIn_r _ [25, 26, 27, 28, 29, 30, 31, 32, 33, 34, 35, 24, 36, 37, 38, 39, 40, 41, 42, 43, 44, 45, 46, 47, 48, 49, 50, 51, 52, 53, 9, 54, 55, 56, 57, 58, 59, 60, 61, 62, 63, 64, 65, 66, 67, 68, 69, 70, 71, 72, 73, 74, 75, 124, 125, 126, 112, 113, 114, 115, 116, 117, 118, 119, 120, 121, 122, 123] (by decide +kernel) (by decide +kernel)
set_option maxRecDepth 20000 in
theorem gX4_whisper_X2_worldsOf : GoodIn wsX4_whisper (wsV RX4 144 RX2 yX2_worldsOf wsX2_worldsOf) := goodIn_app (goodIn_of _ (by decide +kernel)) ggX4_whisper_X2_worldsOf
set_option maxRecDepth 20000 in
theorem ggX4_whisper_X4_needActualIn : GoodIn wsX4_whisper wsX4_needActualIn := goodIn_ca (goodIn_r _ [79, 1, 2, 4, 80, 81, 82, 83, 9, 84, 5, 85, 53, 54, 108, 109, 110, 111, 112, 113, 114, 115] (by decide +kernel) (by decide +kernel)) (goodIn_sub (fun _ h => List.mem_cons_of_mem _ (List.mem_append_left _ (List.mem_append_left _ (List.mem_append_right _ h)))) (by decide +kernel))
set_option maxRecDepth 20000 in
theorem gX4_whisper_X4_needActualIn : GoodIn wsX4_whisper (wsV RX4 164 RX4 yX4_needActualIn wsX4_needActualIn) := goodIn_app (goodIn_of _ (by decide +kernel)) ggX4_whisper_X4_needActualIn
set_option maxRecDepth 20000 in
theorem ggX4_whisper_J6_bitCount_0f7a4 : GoodIn wsX4_whisper wsJ6_bitCount_0f7a4 := goodIn_r _ [89, 90, 91, 92] (by decide +kernel) (by decide +kernel)
set_option maxRecDepth 20000 in
theorem gX4_whisper_J6_bitCount_0f7a4 : GoodIn wsX4_whisper (va_wsS RX4 147 yJ6_bitCount_0f7a4 wsJ6_bitCount_0f7a4) := goodIn_app (goodIn_of _ (by decide +kernel)) ggX4_whisper_J6_bitCount_0f7a4
set_option maxRecDepth 20000 in
theorem ggX4_whisper_X3_copyFor : GoodIn wsX4_whisper wsX3_copyFor := goodIn_r _ [96, 32, 52, 66, 97, 53, 9, 54, 98, 99, 100, 30, 101, 102, 103, 85, 104, 105, 106, 107, 55, 56, 86, 87, 88, 89, 90, 91, 92, 112, 113, 114, 115] (by decide +kernel) (by decide +kernel)
set_option maxRecDepth 20000 in
theorem gX4_whisper_X3_copyFor : GoodIn wsX4_whisper (wsV RX4 175 RX3 yX3_copyFor wsX3_copyFor) := goodIn_app (goodIn_of _ (by decide +kernel)) ggX4_whisper_X3_copyFor
theorem dX4_whisper_0 : decode cX4_whisper 0 = .ok (.aload_n 0, 1) := by decide +kernel
theorem dX4_whisper_1 : decode cX4_whisper 1 = .ok (.iload_n 2, 1) := by decide +kernel
theorem dX4_whisper_2 : decode cX4_whisper 2 = .ok (.invokevirtual 124, 3) := by decide +kernel
theorem dX4_whisper_5 : decode cX4_whisper 5 = .ok (.aload_n 0, 1) := by decide +kernel
theorem dX4_whisper_6 : decode cX4_whisper 6 = .ok (.iload_n 1, 1) := by decide +kernel
theorem dX4_whisper_7 : decode cX4_whisper 7 = .ok (.invokevirtual 127, 3) := by decide +kernel
theorem dX4_whisper_10 : decode cX4_whisper 10 = .ok (.aload_n 0, 1) := by decide +kernel
theorem dX4_whisper_11 : decode cX4_whisper 11 = .ok (.getfield 28, 3) := by decide +kernel
theorem dX4_whisper_14 : decode cX4_whisper 14 = .ok (.iload_n 2, 1) := by decide +kernel
theorem dX4_whisper_15 : decode cX4_whisper 15 = .ok (.invokevirtual 144, 3) := by decide +kernel
theorem dX4_whisper_18 : decode cX4_whisper 18 = .ok (.istore_n 3, 1) := by decide +kernel
theorem dX4_whisper_19 : decode cX4_whisper 19 = .ok (.aload_n 0, 1) := by decide +kernel
theorem dX4_whisper_20 : decode cX4_whisper 20 = .ok (.iload_n 3, 1) := by decide +kernel
theorem dX4_whisper_21 : decode cX4_whisper 21 = .ok (.invokevirtual 164, 3) := by decide +kernel
theorem dX4_whisper_24 : decode cX4_whisper 24 = .ok (.aload_n 0, 1) := by decide +kernel
theorem dX4_whisper_25 : decode cX4_whisper 25 = .ok (.getfield 10, 3) := by decide +kernel
theorem dX4_whisper_28 : decode cX4_whisper 28 = .ok (.getfield 45, 3) := by decide +kernel
theorem dX4_whisper_31 : decode cX4_whisper 31 = .ok (.iload_n 3, 1) := by decide +kernel
theorem dX4_whisper_32 : decode cX4_whisper 32 = .ok (.invokestatic 147, 3) := by decide +kernel
theorem dX4_whisper_35 : decode cX4_whisper 35 = .ok (.iadd, 1) := by decide +kernel
theorem dX4_whisper_36 : decode cX4_whisper 36 = .ok (.bipush 24, 2) := by decide +kernel
theorem dX4_whisper_38 : decode cX4_whisper 38 = .ok (.if_icmp .le 13, 3) := by decide +kernel
theorem dX4_whisper_41 : decode cX4_whisper 41 = .ok (.new 49, 3) := by decide +kernel
theorem dX4_whisper_44 : decode cX4_whisper 44 = .ok (.dup, 1) := by decide +kernel
theorem dX4_whisper_45 : decode cX4_whisper 45 = .ok (.ldc 173, 2) := by decide +kernel
theorem dX4_whisper_47 : decode cX4_whisper 47 = .ok (.invokespecial 53, 3) := by decide +kernel
theorem dX4_whisper_50 : decode cX4_whisper 50 = .ok (.athrow, 1) := by decide +kernel
theorem dX4_whisper_51 : decode cX4_whisper 51 = .ok (.aload_n 0, 1) := by decide +kernel
theorem dX4_whisper_52 : decode cX4_whisper 52 = .ok (.getfield 10, 3) := by decide +kernel
theorem dX4_whisper_55 : decode cX4_whisper 55 = .ok (.iload_n 1, 1) := by decide +kernel
theorem dX4_whisper_56 : decode cX4_whisper 56 = .ok (.iload_n 3, 1) := by decide +kernel
theorem dX4_whisper_57 : decode cX4_whisper 57 = .ok (.invokevirtual 175, 3) := by decide +kernel
theorem dX4_whisper_60 : decode cX4_whisper 60 = .ok (.aload_n 0, 1) := by decide +kernel
theorem dX4_whisper_61 : decode cX4_whisper 61 = .ok (.getfield 10, 3) := by decide +kernel
theorem dX4_whisper_64 : decode cX4_whisper 64 = .ok (.getfield 45, 3) := by decide +kernel
theorem dX4_whisper_67 : decode cX4_whisper 67 = .ok (.ireturn, 1) := by decide +kernel
set_option maxRecDepth 20000 in
theorem ggX4_contract_X1_findClasses : GoodIn wsX4_contract wsX1_findClasses := goodIn_r _ [8, 9, 10, 11, 12, 13, 14, 7, 15, 16, 17, 18, 19, 20, 21, 22, 23, 24, 25, 26, 27, 28, 29, 30, 31, 32, 33, 34, 35, 36, 37, 38, 39, 40, 41, 42, 43, 44, 68, 69, 70, 71, 64, 65, 66, 67] (by decide +kernel) (by decide +kernel)
set_option maxRecDepth 20000 in
theorem gX4_contract_X1_findClasses : GoodIn wsX4_contract (wsV RX4 158 RX1 yX1_findClasses wsX1_findClasses) := goodIn_app (goodIn_of _ (by decide +kernel)) ggX4_contract_X1_findClasses
set_option maxRecDepth 20000 in
theorem ggX4_contract_X3_mergeClasses : GoodIn wsX4_contract wsX3_mergeClasses := goodIn_r _ [49, 50, 51, 52, 53, 54, 55, 56, 57, 58, 48, 59, 64, 65, 66, 67, 68, 69, 70, 71] (by decide +kernel) (by decide +kernel)
set_option maxRecDepth 20000 in
theorem gX4_contract_X3_mergeClasses : GoodIn wsX4_contract (wsV RX4 179 RX3 yX3_mergeClasses wsX3_mergeClasses) := goodIn_app (goodIn_of _ (by decide +kernel)) ggX4_contract_X3_mergeClasses
theorem dX4_contract_0 : decode cX4_contract 0 = .ok (.aload_n 0, 1) := by decide +kernel
theorem dX4_contract_1 : decode cX4_contract 1 = .ok (.getfield 37, 3) := by decide +kernel
theorem dX4_contract_4 : decode cX4_contract 4 = .ok (.invokevirtual 158, 3) := by decide +kernel
theorem dX4_contract_7 : decode cX4_contract 7 = .ok (.aload_n 0, 1) := by decide +kernel
theorem dX4_contract_8 : decode cX4_contract 8 = .ok (.getfield 10, 3) := by decide +kernel
theorem dX4_contract_11 : decode cX4_contract 11 = .ok (.aload_n 0, 1) := by decide +kernel
theorem dX4_contract_12 : decode cX4_contract 12 = .ok (.getfield 37, 3) := by decide +kernel
theorem dX4_contract_15 : decode cX4_contract 15 = .ok (.invokevirtual 179, 3) := by decide +kernel
theorem dX4_contract_18 : decode cX4_contract 18 = .ok (.aload_n 0, 1) := by decide +kernel
theorem dX4_contract_19 : decode cX4_contract 19 = .ok (.getfield 10, 3) := by decide +kernel
theorem dX4_contract_22 : decode cX4_contract 22 = .ok (.getfield 45, 3) := by decide +kernel
theorem dX4_contract_25 : decode cX4_contract 25 = .ok (.ireturn, 1) := by decide +kernel
set_option maxRecDepth 20000 in
theorem ggX4_prune_X3_reachableFrom : GoodIn wsX4_prune wsX3_reachableFrom := goodIn_r _ [8, 9, 10, 11, 12, 7, 13, 14, 15, 16, 17, 49, 50, 51, 52] (by decide +kernel) (by decide +kernel)
set_option maxRecDepth 20000 in
theorem gX4_prune_X3_reachableFrom : GoodIn wsX4_prune (wsV RX4 155 RX3 yX3_reachableFrom wsX3_reachableFrom) := goodIn_app (goodIn_of _ (by decide +kernel)) ggX4_prune_X3_reachableFrom
set_option maxRecDepth 20000 in
theorem ggX4_prune_X4_single : GoodIn wsX4_prune wsX4_single := goodIn_r _ [20] (by decide +kernel) (by decide +kernel)
set_option maxRecDepth 20000 in
theorem gX4_prune_X4_single : GoodIn wsX4_prune (va_wsS RX4 74 yX4_single wsX4_single) := goodIn_app (goodIn_of _ (by decide +kernel)) ggX4_prune_X4_single
set_option maxRecDepth 20000 in
theorem ggX4_prune_X3_keepOnly : GoodIn wsX4_prune wsX3_keepOnly := goodIn_r _ [24, 9, 25, 14, 26, 27, 28, 29, 30, 31, 32, 33, 15, 16, 17, 34, 35, 36, 37, 38, 39, 18, 19, 20, 40, 41, 42, 43, 7, 44, 49, 50, 51, 52] (by decide +kernel) (by decide +kernel)
set_option maxRecDepth 20000 in
theorem gX4_prune_X3_keepOnly : GoodIn wsX4_prune (wsV RX4 167 RX3 yX3_keepOnly wsX3_keepOnly) := goodIn_app (goodIn_of _ (by decide +kernel)) ggX4_prune_X3_keepOnly
theorem dX4_prune_0 : decode cX4_prune 0 = .ok (.aload_n 0, 1) := by decide +kernel
theorem dX4_prune_1 : decode cX4_prune 1 = .ok (.getfield 10, 3) := by decide +kernel
theorem dX4_prune_4 : decode cX4_prune 4 = .ok (.getfield 45, 3) := by decide +kernel
theorem dX4_prune_7 : decode cX4_prune 7 = .ok (.ifCond .ne 5, 3) := by decide +kernel
theorem dX4_prune_10 : decode cX4_prune 10 = .ok (.iconst 0, 1) := by decide +kernel
theorem dX4_prune_11 : decode cX4_prune 11 = .ok (.ireturn, 1) := by decide +kernel
theorem dX4_prune_12 : decode cX4_prune 12 = .ok (.aload_n 0, 1) := by decide +kernel
theorem dX4_prune_13 : decode cX4_prune 13 = .ok (.getfield 10, 3) := by decide +kernel
theorem dX4_prune_16 : decode cX4_prune 16 = .ok (.getfield 94, 3) := by decide +kernel
theorem dX4_prune_19 : decode cX4_prune 19 = .ok (.istore_n 1, 1) := by decide +kernel
theorem dX4_prune_20 : decode cX4_prune 20 = .ok (.aload_n 0, 1) := by decide +kernel
theorem dX4_prune_21 : decode cX4_prune 21 = .ok (.getfield 10, 3) := by decide +kernel
theorem dX4_prune_24 : decode cX4_prune 24 = .ok (.aload_n 0, 1) := by decide +kernel
theorem dX4_prune_25 : decode cX4_prune 25 = .ok (.getfield 10, 3) := by decide +kernel
theorem dX4_prune_28 : decode cX4_prune 28 = .ok (.bipush 15, 2) := by decide +kernel
theorem dX4_prune_30 : decode cX4_prune 30 = .ok (.iload_n 1, 1) := by decide +kernel
theorem dX4_prune_31 : decode cX4_prune 31 = .ok (.invokevirtual 155, 3) := by decide +kernel
theorem dX4_prune_34 : decode cX4_prune 34 = .ok (.iload_n 1, 1) := by decide +kernel
theorem dX4_prune_35 : decode cX4_prune 35 = .ok (.invokestatic 74, 3) := by decide +kernel
theorem dX4_prune_38 : decode cX4_prune 38 = .ok (.ior, 1) := by decide +kernel
theorem dX4_prune_39 : decode cX4_prune 39 = .ok (.invokevirtual 167, 3) := by decide +kernel
theorem dX4_prune_42 : decode cX4_prune 42 = .ok (.ireturn, 1) := by decide +kernel
set_option maxRecDepth 20000 in
theorem ggX4_digest_X3_addTo : GoodIn wsX4_digest wsX3_addTo := goodIn_r _ [8, 9, 10, 11, 12, 13, 14, 15, 16, 30, 31, 32, 33] (by decide +kernel) (by decide +kernel)
set_option maxRecDepth 20000 in
theorem gX4_digest_X3_addTo : GoodIn wsX4_digest (wsV RX4 185 RX3 yX3_addTo wsX3_addTo) := goodIn_app (goodIn_of _ (by decide +kernel)) ggX4_digest_X3_addTo
set_option maxRecDepth 20000 in
theorem ggX4_digest_X0_addTo : GoodIn wsX4_digest wsX0_addTo := goodIn_r _ [21, 22, 23, 24, 25, 13, 14, 15, 16, 34, 35, 36, 37, 38, 39, 40, 41] (by decide +kernel) (by decide +kernel)
set_option maxRecDepth 20000 in
theorem gX4_digest_X0_addTo : GoodIn wsX4_digest (wsV RX4 189 RX0 yX0_addTo wsX0_addTo) := goodIn_app (goodIn_of _ (by decide +kernel)) ggX4_digest_X0_addTo
theorem dX4_digest_0 : decode cX4_digest 0 = .ok (.aload_n 0, 1) := by decide +kernel
theorem dX4_digest_1 : decode cX4_digest 1 = .ok (.getfield 19, 3) := by decide +kernel
theorem dX4_digest_4 : decode cX4_digest 4 = .ok (.aload_n 0, 1) := by decide +kernel
theorem dX4_digest_5 : decode cX4_digest 5 = .ok (.getfield 10, 3) := by decide +kernel
theorem dX4_digest_8 : decode cX4_digest 8 = .ok (.ldc2_w 183, 3) := by decide +kernel
theorem dX4_digest_11 : decode cX4_digest 11 = .ok (.invokevirtual 185, 3) := by decide +kernel
theorem dX4_digest_14 : decode cX4_digest 14 = .ok (.invokevirtual 189, 3) := by decide +kernel
theorem dX4_digest_17 : decode cX4_digest 17 = .ok (.lreturn, 1) := by decide +kernel
theorem dX4_needAtoms_0 : decode cX4_needAtoms 0 = .ok (.iload_n 1, 1) := by decide +kernel
theorem dX4_needAtoms_1 : decode cX4_needAtoms 1 = .ok (.ifCond .lt 9, 3) := by decide +kernel
theorem dX4_needAtoms_4 : decode cX4_needAtoms 4 = .ok (.iload_n 1, 1) := by decide +kernel
theorem dX4_needAtoms_5 : decode cX4_needAtoms 5 = .ok (.bipush 63, 2) := by decide +kernel
theorem dX4_needAtoms_7 : decode cX4_needAtoms 7 = .ok (.if_icmp .le 13, 3) := by decide +kernel
theorem dX4_needAtoms_10 : decode cX4_needAtoms 10 = .ok (.new 85, 3) := by decide +kernel
theorem dX4_needAtoms_13 : decode cX4_needAtoms 13 = .ok (.dup, 1) := by decide +kernel
theorem dX4_needAtoms_14 : decode cX4_needAtoms 14 = .ok (.ldc 190, 2) := by decide +kernel
theorem dX4_needAtoms_16 : decode cX4_needAtoms 16 = .ok (.invokespecial 89, 3) := by decide +kernel
theorem dX4_needAtoms_19 : decode cX4_needAtoms 19 = .ok (.athrow, 1) := by decide +kernel
theorem dX4_needAtoms_20 : decode cX4_needAtoms 20 = .ok (.return_, 1) := by decide +kernel
theorem dX4_needAgent_0 : decode cX4_needAgent 0 = .ok (.iload_n 1, 1) := by decide +kernel
theorem dX4_needAgent_1 : decode cX4_needAgent 1 = .ok (.ifCond .lt 8, 3) := by decide +kernel
theorem dX4_needAgent_4 : decode cX4_needAgent 4 = .ok (.iload_n 1, 1) := by decide +kernel
theorem dX4_needAgent_5 : decode cX4_needAgent 5 = .ok (.iconst 4, 1) := by decide +kernel
theorem dX4_needAgent_6 : decode cX4_needAgent 6 = .ok (.if_icmp .lt 13, 3) := by decide +kernel
theorem dX4_needAgent_9 : decode cX4_needAgent 9 = .ok (.new 113, 3) := by decide +kernel
theorem dX4_needAgent_12 : decode cX4_needAgent 12 = .ok (.dup, 1) := by decide +kernel
theorem dX4_needAgent_13 : decode cX4_needAgent 13 = .ok (.ldc 192, 2) := by decide +kernel
theorem dX4_needAgent_15 : decode cX4_needAgent 15 = .ok (.invokespecial 117, 3) := by decide +kernel
theorem dX4_needAgent_18 : decode cX4_needAgent 18 = .ok (.athrow, 1) := by decide +kernel
theorem dX4_needAgent_19 : decode cX4_needAgent 19 = .ok (.return_, 1) := by decide +kernel
theorem dX4_needGroup_0 : decode cX4_needGroup 0 = .ok (.iload_n 1, 1) := by decide +kernel
theorem dX4_needGroup_1 : decode cX4_needGroup 1 = .ok (.iconst 1, 1) := by decide +kernel
theorem dX4_needGroup_2 : decode cX4_needGroup 2 = .ok (.if_icmp .lt 9, 3) := by decide +kernel
theorem dX4_needGroup_5 : decode cX4_needGroup 5 = .ok (.iload_n 1, 1) := by decide +kernel
theorem dX4_needGroup_6 : decode cX4_needGroup 6 = .ok (.bipush 15, 2) := by decide +kernel
theorem dX4_needGroup_8 : decode cX4_needGroup 8 = .ok (.if_icmp .le 13, 3) := by decide +kernel
theorem dX4_needGroup_11 : decode cX4_needGroup 11 = .ok (.new 85, 3) := by decide +kernel
theorem dX4_needGroup_14 : decode cX4_needGroup 14 = .ok (.dup, 1) := by decide +kernel
theorem dX4_needGroup_15 : decode cX4_needGroup 15 = .ok (.ldc 194, 2) := by decide +kernel
theorem dX4_needGroup_17 : decode cX4_needGroup 17 = .ok (.invokespecial 89, 3) := by decide +kernel
theorem dX4_needGroup_20 : decode cX4_needGroup 20 = .ok (.athrow, 1) := by decide +kernel
theorem dX4_needGroup_21 : decode cX4_needGroup 21 = .ok (.return_, 1) := by decide +kernel
theorem dX4_needWorld_0 : decode cX4_needWorld 0 = .ok (.iload_n 1, 1) := by decide +kernel
theorem dX4_needWorld_1 : decode cX4_needWorld 1 = .ok (.ifCond .lt 14, 3) := by decide +kernel
theorem dX4_needWorld_4 : decode cX4_needWorld 4 = .ok (.iload_n 1, 1) := by decide +kernel
theorem dX4_needWorld_5 : decode cX4_needWorld 5 = .ok (.aload_n 0, 1) := by decide +kernel
theorem dX4_needWorld_6 : decode cX4_needWorld 6 = .ok (.getfield 10, 3) := by decide +kernel
theorem dX4_needWorld_9 : decode cX4_needWorld 9 = .ok (.getfield 45, 3) := by decide +kernel
theorem dX4_needWorld_12 : decode cX4_needWorld 12 = .ok (.if_icmp .lt 13, 3) := by decide +kernel
theorem dX4_needWorld_15 : decode cX4_needWorld 15 = .ok (.new 113, 3) := by decide +kernel
theorem dX4_needWorld_18 : decode cX4_needWorld 18 = .ok (.dup, 1) := by decide +kernel
theorem dX4_needWorld_19 : decode cX4_needWorld 19 = .ok (.ldc 196, 2) := by decide +kernel
theorem dX4_needWorld_21 : decode cX4_needWorld 21 = .ok (.invokespecial 117, 3) := by decide +kernel
theorem dX4_needWorld_24 : decode cX4_needWorld 24 = .ok (.athrow, 1) := by decide +kernel
theorem dX4_needWorld_25 : decode cX4_needWorld 25 = .ok (.return_, 1) := by decide +kernel
theorem dX4_needSomeWorld_0 : decode cX4_needSomeWorld 0 = .ok (.aload_n 0, 1) := by decide +kernel
theorem dX4_needSomeWorld_1 : decode cX4_needSomeWorld 1 = .ok (.getfield 10, 3) := by decide +kernel
theorem dX4_needSomeWorld_4 : decode cX4_needSomeWorld 4 = .ok (.getfield 45, 3) := by decide +kernel
theorem dX4_needSomeWorld_7 : decode cX4_needSomeWorld 7 = .ok (.ifCond .ne 13, 3) := by decide +kernel
theorem dX4_needSomeWorld_10 : decode cX4_needSomeWorld 10 = .ok (.new 49, 3) := by decide +kernel
theorem dX4_needSomeWorld_13 : decode cX4_needSomeWorld 13 = .ok (.dup, 1) := by decide +kernel
theorem dX4_needSomeWorld_14 : decode cX4_needSomeWorld 14 = .ok (.ldc 198, 2) := by decide +kernel
theorem dX4_needSomeWorld_16 : decode cX4_needSomeWorld 16 = .ok (.invokespecial 53, 3) := by decide +kernel
theorem dX4_needSomeWorld_19 : decode cX4_needSomeWorld 19 = .ok (.athrow, 1) := by decide +kernel
theorem dX4_needSomeWorld_20 : decode cX4_needSomeWorld 20 = .ok (.return_, 1) := by decide +kernel
set_option maxRecDepth 20000 in
theorem ggX4_needActualIn_X4_needSomeWorld : GoodIn wsX4_needActualIn wsX4_needSomeWorld := goodIn_ca (goodIn_r _ [9, 1, 2, 3, 10, 14, 15, 16, 17, 18, 19, 20, 21] (by decide +kernel) (by decide +kernel)) (goodIn_sub (fun _ h => List.mem_cons_of_mem _ (List.mem_append_right _ h)) (by decide +kernel))
set_option maxRecDepth 20000 in
theorem gX4_needActualIn_X4_needSomeWorld : GoodIn wsX4_needActualIn (wsV RX4 97 RX4 yX4_needSomeWorld wsX4_needSomeWorld) := goodIn_app (goodIn_of _ (by decide +kernel)) ggX4_needActualIn_X4_needSomeWorld
set_option maxRecDepth 20000 in
theorem ggX4_needActualIn_X4_contains : GoodIn wsX4_needActualIn wsX4_contains := goodIn_r _ [13] (by decide +kernel) (by decide +kernel)
set_option maxRecDepth 20000 in
theorem gX4_needActualIn_X4_contains : GoodIn wsX4_needActualIn (va_wsS RX4 77 yX4_contains wsX4_contains) := goodIn_app (goodIn_of _ (by decide +kernel)) ggX4_needActualIn_X4_contains
theorem dX4_needActualIn_0 : decode cX4_needActualIn 0 = .ok (.aload_n 0, 1) := by decide +kernel
theorem dX4_needActualIn_1 : decode cX4_needActualIn 1 = .ok (.invokevirtual 97, 3) := by decide +kernel
theorem dX4_needActualIn_4 : decode cX4_needActualIn 4 = .ok (.iload_n 1, 1) := by decide +kernel
theorem dX4_needActualIn_5 : decode cX4_needActualIn 5 = .ok (.aload_n 0, 1) := by decide +kernel
theorem dX4_needActualIn_6 : decode cX4_needActualIn 6 = .ok (.getfield 10, 3) := by decide +kernel
theorem dX4_needActualIn_9 : decode cX4_needActualIn 9 = .ok (.getfield 94, 3) := by decide +kernel
theorem dX4_needActualIn_12 : decode cX4_needActualIn 12 = .ok (.invokestatic 77, 3) := by decide +kernel
theorem dX4_needActualIn_15 : decode cX4_needActualIn 15 = .ok (.ifCond .ne 13, 3) := by decide +kernel
theorem dX4_needActualIn_18 : decode cX4_needActualIn 18 = .ok (.new 49, 3) := by decide +kernel
theorem dX4_needActualIn_21 : decode cX4_needActualIn 21 = .ok (.dup, 1) := by decide +kernel
theorem dX4_needActualIn_22 : decode cX4_needActualIn 22 = .ok (.ldc 200, 2) := by decide +kernel
theorem dX4_needActualIn_24 : decode cX4_needActualIn 24 = .ok (.invokespecial 53, 3) := by decide +kernel
theorem dX4_needActualIn_27 : decode cX4_needActualIn 27 = .ok (.athrow, 1) := by decide +kernel
theorem dX4_needActualIn_28 : decode cX4_needActualIn 28 = .ok (.return_, 1) := by decide +kernel
theorem dX4_needFormula_0 : decode cX4_needFormula 0 = .ok (.iload_n 1, 1) := by decide +kernel
theorem dX4_needFormula_1 : decode cX4_needFormula 1 = .ok (.ifCond .lt 14, 3) := by decide +kernel
theorem dX4_needFormula_4 : decode cX4_needFormula 4 = .ok (.iload_n 1, 1) := by decide +kernel
theorem dX4_needFormula_5 : decode cX4_needFormula 5 = .ok (.aload_n 0, 1) := by decide +kernel
theorem dX4_needFormula_6 : decode cX4_needFormula 6 = .ok (.getfield 19, 3) := by decide +kernel
theorem dX4_needFormula_9 : decode cX4_needFormula 9 = .ok (.getfield 140, 3) := by decide +kernel
theorem dX4_needFormula_12 : decode cX4_needFormula 12 = .ok (.if_icmp .lt 13, 3) := by decide +kernel
theorem dX4_needFormula_15 : decode cX4_needFormula 15 = .ok (.new 113, 3) := by decide +kernel
theorem dX4_needFormula_18 : decode cX4_needFormula 18 = .ok (.dup, 1) := by decide +kernel
theorem dX4_needFormula_19 : decode cX4_needFormula 19 = .ok (.ldc 202, 2) := by decide +kernel
theorem dX4_needFormula_21 : decode cX4_needFormula 21 = .ok (.invokespecial 117, 3) := by decide +kernel
theorem dX4_needFormula_24 : decode cX4_needFormula 24 = .ok (.athrow, 1) := by decide +kernel
theorem dX4_needFormula_25 : decode cX4_needFormula 25 = .ok (.return_, 1) := by decide +kernel
theorem dX4_needRoomForFormula_0 : decode cX4_needRoomForFormula 0 = .ok (.aload_n 0, 1) := by decide +kernel
theorem dX4_needRoomForFormula_1 : decode cX4_needRoomForFormula 1 = .ok (.getfield 19, 3) := by decide +kernel
theorem dX4_needRoomForFormula_4 : decode cX4_needRoomForFormula 4 = .ok (.getfield 140, 3) := by decide +kernel
theorem dX4_needRoomForFormula_7 : decode cX4_needRoomForFormula 7 = .ok (.bipush 40, 2) := by decide +kernel
theorem dX4_needRoomForFormula_9 : decode cX4_needRoomForFormula 9 = .ok (.if_icmp .lt 13, 3) := by decide +kernel
theorem dX4_needRoomForFormula_12 : decode cX4_needRoomForFormula 12 = .ok (.new 49, 3) := by decide +kernel
theorem dX4_needRoomForFormula_15 : decode cX4_needRoomForFormula 15 = .ok (.dup, 1) := by decide +kernel
theorem dX4_needRoomForFormula_16 : decode cX4_needRoomForFormula 16 = .ok (.ldc 204, 2) := by decide +kernel
theorem dX4_needRoomForFormula_18 : decode cX4_needRoomForFormula 18 = .ok (.invokespecial 53, 3) := by decide +kernel
theorem dX4_needRoomForFormula_21 : decode cX4_needRoomForFormula 21 = .ok (.athrow, 1) := by decide +kernel
theorem dX4_needRoomForFormula_22 : decode cX4_needRoomForFormula 22 = .ok (.return_, 1) := by decide +kernel
theorem dX4_single_0 : decode cX4_single 0 = .ok (.iconst 1, 1) := by decide +kernel
theorem dX4_single_1 : decode cX4_single 1 = .ok (.iload_n 0, 1) := by decide +kernel
theorem dX4_single_2 : decode cX4_single 2 = .ok (.ishl, 1) := by decide +kernel
theorem dX4_single_3 : decode cX4_single 3 = .ok (.ireturn, 1) := by decide +kernel
theorem dX4_contains_0 : decode cX4_contains 0 = .ok (.iload_n 0, 1) := by decide +kernel
theorem dX4_contains_1 : decode cX4_contains 1 = .ok (.iload_n 1, 1) := by decide +kernel
theorem dX4_contains_2 : decode cX4_contains 2 = .ok (.ishr, 1) := by decide +kernel
theorem dX4_contains_3 : decode cX4_contains 3 = .ok (.iconst 1, 1) := by decide +kernel
theorem dX4_contains_4 : decode cX4_contains 4 = .ok (.iand, 1) := by decide +kernel
theorem dX4_contains_5 : decode cX4_contains 5 = .ok (.ifCond .eq 7, 3) := by decide +kernel
theorem dX4_contains_8 : decode cX4_contains 8 = .ok (.iconst 1, 1) := by decide +kernel
theorem dX4_contains_9 : decode cX4_contains 9 = .ok (.goto 4, 3) := by decide +kernel
theorem dX4_contains_12 : decode cX4_contains 12 = .ok (.iconst 0, 1) := by decide +kernel
theorem dX4_contains_13 : decode cX4_contains 13 = .ok (.ireturn, 1) := by decide +kernel
set_option maxRecDepth 20000 in
theorem ggX4_rankIn_X4_single : GoodIn wsX4_rankIn wsX4_single := goodIn_r _ [4] (by decide +kernel) (by decide +kernel)
set_option maxRecDepth 20000 in
theorem gX4_rankIn_X4_single : GoodIn wsX4_rankIn (va_wsS RX4 74 yX4_single wsX4_single) := goodIn_app (goodIn_of _ (by decide +kernel)) ggX4_rankIn_X4_single
set_option maxRecDepth 20000 in
theorem ggX4_rankIn_J6_bitCount_0f7a4 : GoodIn wsX4_rankIn wsJ6_bitCount_0f7a4 := goodIn_r _ [8, 9, 10, 11] (by decide +kernel) (by decide +kernel)
set_option maxRecDepth 20000 in
theorem gX4_rankIn_J6_bitCount_0f7a4 : GoodIn wsX4_rankIn (va_wsS RX4 147 yJ6_bitCount_0f7a4 wsJ6_bitCount_0f7a4) := goodIn_app (goodIn_of _ (by decide +kernel)) ggX4_rankIn_J6_bitCount_0f7a4
theorem dX4_rankIn_0 : decode cX4_rankIn 0 = .ok (.iload_n 0, 1) := by decide +kernel
theorem dX4_rankIn_1 : decode cX4_rankIn 1 = .ok (.iload_n 1, 1) := by decide +kernel
theorem dX4_rankIn_2 : decode cX4_rankIn 2 = .ok (.invokestatic 74, 3) := by decide +kernel
theorem dX4_rankIn_5 : decode cX4_rankIn 5 = .ok (.iconst 1, 1) := by decide +kernel
theorem dX4_rankIn_6 : decode cX4_rankIn 6 = .ok (.isub, 1) := by decide +kernel
theorem dX4_rankIn_7 : decode cX4_rankIn 7 = .ok (.iand, 1) := by decide +kernel
theorem dX4_rankIn_8 : decode cX4_rankIn 8 = .ok (.invokestatic 147, 3) := by decide +kernel
theorem dX4_rankIn_11 : decode cX4_rankIn 11 = .ok (.ireturn, 1) := by decide +kernel
set_option maxRecDepth 20000 in
theorem ggX4_renumbered_X4_contains : GoodIn wsX4_renumbered wsX4_contains := goodIn_r _ [4] (by decide +kernel) (by decide +kernel)
set_option maxRecDepth 20000 in
theorem gX4_renumbered_X4_contains : GoodIn wsX4_renumbered (va_wsS RX4 77 yX4_contains wsX4_contains) := goodIn_app (goodIn_of _ (by decide +kernel)) ggX4_renumbered_X4_contains
set_option maxRecDepth 20000 in
theorem ggX4_renumbered_X4_rankIn : GoodIn wsX4_renumbered wsX4_rankIn := goodIn_r _ [7, 8, 9, 3, 10, 11, 12, 13, 14, 15, 16, 17] (by decide +kernel) (by decide +kernel)
set_option maxRecDepth 20000 in
theorem gX4_renumbered_X4_rankIn : GoodIn wsX4_renumbered (va_wsS RX4 206 yX4_rankIn wsX4_rankIn) := goodIn_app (goodIn_of _ (by decide +kernel)) ggX4_renumbered_X4_rankIn
set_option maxRecDepth 20000 in
theorem ggX4_renumbered_X4_single : GoodIn wsX4_renumbered wsX4_single := goodIn_r _ [10] (by decide +kernel) (by decide +kernel)
set_option maxRecDepth 20000 in
theorem gX4_renumbered_X4_single : GoodIn wsX4_renumbered (va_wsS RX4 74 yX4_single wsX4_single) := goodIn_app (goodIn_of _ (by decide +kernel)) ggX4_renumbered_X4_single
theorem dX4_renumbered_0 : decode cX4_renumbered 0 = .ok (.iconst 0, 1) := by decide +kernel
theorem dX4_renumbered_1 : decode cX4_renumbered 1 = .ok (.istore_n 2, 1) := by decide +kernel
theorem dX4_renumbered_2 : decode cX4_renumbered 2 = .ok (.iconst 0, 1) := by decide +kernel
theorem dX4_renumbered_3 : decode cX4_renumbered 3 = .ok (.istore_n 3, 1) := by decide +kernel
theorem dX4_renumbered_4 : decode cX4_renumbered 4 = .ok (.iload_n 3, 1) := by decide +kernel
theorem dX4_renumbered_5 : decode cX4_renumbered 5 = .ok (.bipush 24, 2) := by decide +kernel
theorem dX4_renumbered_7 : decode cX4_renumbered 7 = .ok (.if_icmp .ge 30, 3) := by decide +kernel
theorem dX4_renumbered_10 : decode cX4_renumbered 10 = .ok (.iload_n 0, 1) := by decide +kernel
theorem dX4_renumbered_11 : decode cX4_renumbered 11 = .ok (.iload_n 1, 1) := by decide +kernel
theorem dX4_renumbered_12 : decode cX4_renumbered 12 = .ok (.iand, 1) := by decide +kernel
theorem dX4_renumbered_13 : decode cX4_renumbered 13 = .ok (.iload_n 3, 1) := by decide +kernel
theorem dX4_renumbered_14 : decode cX4_renumbered 14 = .ok (.invokestatic 77, 3) := by decide +kernel
theorem dX4_renumbered_17 : decode cX4_renumbered 17 = .ok (.ifCond .eq 14, 3) := by decide +kernel
theorem dX4_renumbered_20 : decode cX4_renumbered 20 = .ok (.iload_n 2, 1) := by decide +kernel
theorem dX4_renumbered_21 : decode cX4_renumbered 21 = .ok (.iload_n 1, 1) := by decide +kernel
theorem dX4_renumbered_22 : decode cX4_renumbered 22 = .ok (.iload_n 3, 1) := by decide +kernel
theorem dX4_renumbered_23 : decode cX4_renumbered 23 = .ok (.invokestatic 206, 3) := by decide +kernel
theorem dX4_renumbered_26 : decode cX4_renumbered 26 = .ok (.invokestatic 74, 3) := by decide +kernel
theorem dX4_renumbered_29 : decode cX4_renumbered 29 = .ok (.ior, 1) := by decide +kernel
theorem dX4_renumbered_30 : decode cX4_renumbered 30 = .ok (.istore_n 2, 1) := by decide +kernel
theorem dX4_renumbered_31 : decode cX4_renumbered 31 = .ok (.iinc 3 1, 3) := by decide +kernel
theorem dX4_renumbered_34 : decode cX4_renumbered 34 = .ok (.goto (-30), 3) := by decide +kernel
theorem dX4_renumbered_37 : decode cX4_renumbered 37 = .ok (.iload_n 2, 1) := by decide +kernel
theorem dX4_renumbered_38 : decode cX4_renumbered 38 = .ok (.ireturn, 1) := by decide +kernel
theorem dX4_mixed_0 : decode cX4_mixed 0 = .ok (.lload_n 0, 1) := by decide +kernel
theorem dX4_mixed_1 : decode cX4_mixed 1 = .ok (.ldc2_w 209, 3) := by decide +kernel
theorem dX4_mixed_4 : decode cX4_mixed 4 = .ok (.lmul, 1) := by decide +kernel
theorem dX4_mixed_5 : decode cX4_mixed 5 = .ok (.iload_n 2, 1) := by decide +kernel
theorem dX4_mixed_6 : decode cX4_mixed 6 = .ok (.i2l, 1) := by decide +kernel
theorem dX4_mixed_7 : decode cX4_mixed 7 = .ok (.ladd, 1) := by decide +kernel
theorem dX4_mixed_8 : decode cX4_mixed 8 = .ok (.lreturn, 1) := by decide +kernel
