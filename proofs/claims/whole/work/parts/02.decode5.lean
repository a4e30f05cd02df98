theorem d_Ru_giveRow_0 : decode b_Ru_giveRow 0 = .ok (.aload_n 0, 1) := by decide +kernel
theorem d_Ru_giveRow_1 : decode b_Ru_giveRow 1 = .ok (.aload_n 1, 1) := by decide +kernel
theorem d_Ru_giveRow_2 : decode b_Ru_giveRow 2 = .ok (.invokevirtual 91, 3) := by decide +kernel
theorem d_Ru_giveRow_5 : decode b_Ru_giveRow 5 = .ok (.ifCond .eq 7, 3) := by decide +kernel
theorem d_Ru_giveRow_8 : decode b_Ru_giveRow 8 = .ok (.iconst 1, 1) := by decide +kernel
theorem d_Ru_giveRow_9 : decode b_Ru_giveRow 9 = .ok (.goto 4, 3) := by decide +kernel
theorem d_Ru_giveRow_12 : decode b_Ru_giveRow 12 = .ok (.iconst 0, 1) := by decide +kernel
theorem d_Ru_giveRow_13 : decode b_Ru_giveRow 13 = .ok (.ireturn, 1) := by decide +kernel
theorem d_Ru_giveTotal_0 : decode b_Ru_giveTotal 0 = .ok (.aload_n 0, 1) := by decide +kernel
theorem d_Ru_giveTotal_1 : decode b_Ru_giveTotal 1 = .ok (.getfield 19, 3) := by decide +kernel
theorem d_Ru_giveTotal_4 : decode b_Ru_giveTotal 4 = .ok (.ifCond .le 5, 3) := by decide +kernel
theorem d_Ru_giveTotal_7 : decode b_Ru_giveTotal 7 = .ok (.iconst 0, 1) := by decide +kernel
theorem d_Ru_giveTotal_8 : decode b_Ru_giveTotal 8 = .ok (.ireturn, 1) := by decide +kernel
theorem d_Ru_giveTotal_9 : decode b_Ru_giveTotal 9 = .ok (.aload_n 0, 1) := by decide +kernel
theorem d_Ru_giveTotal_10 : decode b_Ru_giveTotal 10 = .ok (.lconst 0, 1) := by decide +kernel
theorem d_Ru_giveTotal_11 : decode b_Ru_giveTotal 11 = .ok (.putfield 95, 3) := by decide +kernel
theorem d_Ru_giveTotal_14 : decode b_Ru_giveTotal 14 = .ok (.iconst 0, 1) := by decide +kernel
theorem d_Ru_giveTotal_15 : decode b_Ru_giveTotal 15 = .ok (.istore_n 2, 1) := by decide +kernel
theorem d_Ru_giveTotal_16 : decode b_Ru_giveTotal 16 = .ok (.iload_n 2, 1) := by decide +kernel
theorem d_Ru_giveTotal_17 : decode b_Ru_giveTotal 17 = .ok (.ldc 99, 2) := by decide +kernel
theorem d_Ru_giveTotal_19 : decode b_Ru_giveTotal 19 = .ok (.if_icmp .ge 58, 3) := by decide +kernel
theorem d_Ru_giveTotal_22 : decode b_Ru_giveTotal 22 = .ok (.aload_n 0, 1) := by decide +kernel
theorem d_Ru_giveTotal_23 : decode b_Ru_giveTotal 23 = .ok (.aload_n 1, 1) := by decide +kernel
theorem d_Ru_giveTotal_24 : decode b_Ru_giveTotal 24 = .ok (.invokevirtual 91, 3) := by decide +kernel
theorem d_Ru_giveTotal_27 : decode b_Ru_giveTotal 27 = .ok (.ifCond .eq 50, 3) := by decide +kernel
theorem d_Ru_giveTotal_30 : decode b_Ru_giveTotal 30 = .ok (.aload_n 0, 1) := by decide +kernel
theorem d_Ru_giveTotal_31 : decode b_Ru_giveTotal 31 = .ok (.dup, 1) := by decide +kernel
theorem d_Ru_giveTotal_32 : decode b_Ru_giveTotal 32 = .ok (.getfield 95, 3) := by decide +kernel
theorem d_Ru_giveTotal_35 : decode b_Ru_giveTotal 35 = .ok (.aload_n 0, 1) := by decide +kernel
theorem d_Ru_giveTotal_36 : decode b_Ru_giveTotal 36 = .ok (.getfield 15, 3) := by decide +kernel
theorem d_Ru_giveTotal_39 : decode b_Ru_giveTotal 39 = .ok (.getfield 100, 3) := by decide +kernel
theorem d_Ru_giveTotal_42 : decode b_Ru_giveTotal 42 = .ok (.iconst 5, 1) := by decide +kernel
theorem d_Ru_giveTotal_43 : decode b_Ru_giveTotal 43 = .ok (.if_icmp .ne 7, 3) := by decide +kernel
theorem d_Ru_giveTotal_46 : decode b_Ru_giveTotal 46 = .ok (.lconst 1, 1) := by decide +kernel
theorem d_Ru_giveTotal_47 : decode b_Ru_giveTotal 47 = .ok (.goto 20, 3) := by decide +kernel
theorem d_Ru_giveTotal_50 : decode b_Ru_giveTotal 50 = .ok (.aload_n 0, 1) := by decide +kernel
theorem d_Ru_giveTotal_51 : decode b_Ru_giveTotal 51 = .ok (.getfield 15, 3) := by decide +kernel
theorem d_Ru_giveTotal_54 : decode b_Ru_giveTotal 54 = .ok (.getfield 103, 3) := by decide +kernel
theorem d_Ru_giveTotal_57 : decode b_Ru_giveTotal 57 = .ok (.iconst 0, 1) := by decide +kernel
theorem d_Ru_giveTotal_58 : decode b_Ru_giveTotal 58 = .ok (.aaload, 1) := by decide +kernel
theorem d_Ru_giveTotal_59 : decode b_Ru_giveTotal 59 = .ok (.aload_n 0, 1) := by decide +kernel
theorem d_Ru_giveTotal_60 : decode b_Ru_giveTotal 60 = .ok (.getfield 9, 3) := by decide +kernel
theorem d_Ru_giveTotal_63 : decode b_Ru_giveTotal 63 = .ok (.invokevirtual 107, 3) := by decide +kernel
theorem d_Ru_giveTotal_66 : decode b_Ru_giveTotal 66 = .ok (.i2l, 1) := by decide +kernel
theorem d_Ru_giveTotal_67 : decode b_Ru_giveTotal 67 = .ok (.ladd, 1) := by decide +kernel
theorem d_Ru_giveTotal_68 : decode b_Ru_giveTotal 68 = .ok (.putfield 95, 3) := by decide +kernel
theorem d_Ru_giveTotal_71 : decode b_Ru_giveTotal 71 = .ok (.iinc 2 1, 3) := by decide +kernel
theorem d_Ru_giveTotal_74 : decode b_Ru_giveTotal 74 = .ok (.goto (-58), 3) := by decide +kernel
theorem d_Ru_giveTotal_77 : decode b_Ru_giveTotal 77 = .ok (.iconst 1, 1) := by decide +kernel
theorem d_Ru_giveTotal_78 : decode b_Ru_giveTotal 78 = .ok (.ireturn, 1) := by decide +kernel
theorem d_Ru_findRow_0 : decode b_Ru_findRow 0 = .ok (.aload_n 1, 1) := by decide +kernel
theorem d_Ru_findRow_1 : decode b_Ru_findRow 1 = .ok (.aload_n 0, 1) := by decide +kernel
theorem d_Ru_findRow_2 : decode b_Ru_findRow 2 = .ok (.getfield 15, 3) := by decide +kernel
theorem d_Ru_findRow_5 : decode b_Ru_findRow 5 = .ok (.getfield 41, 3) := by decide +kernel
theorem d_Ru_findRow_8 : decode b_Ru_findRow 8 = .ok (.invokevirtual 76, 3) := by decide +kernel
theorem d_Ru_findRow_11 : decode b_Ru_findRow 11 = .ok (.istore_n 2, 1) := by decide +kernel
theorem d_Ru_findRow_12 : decode b_Ru_findRow 12 = .ok (.aload_n 0, 1) := by decide +kernel
theorem d_Ru_findRow_13 : decode b_Ru_findRow 13 = .ok (.getfield 15, 3) := by decide +kernel
theorem d_Ru_findRow_16 : decode b_Ru_findRow 16 = .ok (.getfield 113, 3) := by decide +kernel
theorem d_Ru_findRow_19 : decode b_Ru_findRow 19 = .ok (.iconst (-1), 1) := by decide +kernel
theorem d_Ru_findRow_20 : decode b_Ru_findRow 20 = .ok (.if_icmp .ne 7, 3) := by decide +kernel
theorem d_Ru_findRow_23 : decode b_Ru_findRow 23 = .ok (.iconst 1, 1) := by decide +kernel
theorem d_Ru_findRow_24 : decode b_Ru_findRow 24 = .ok (.goto 14, 3) := by decide +kernel
theorem d_Ru_findRow_27 : decode b_Ru_findRow 27 = .ok (.aload_n 1, 1) := by decide +kernel
theorem d_Ru_findRow_28 : decode b_Ru_findRow 28 = .ok (.aload_n 0, 1) := by decide +kernel
theorem d_Ru_findRow_29 : decode b_Ru_findRow 29 = .ok (.getfield 15, 3) := by decide +kernel
theorem d_Ru_findRow_32 : decode b_Ru_findRow 32 = .ok (.getfield 113, 3) := by decide +kernel
theorem d_Ru_findRow_35 : decode b_Ru_findRow 35 = .ok (.invokevirtual 76, 3) := by decide +kernel
theorem d_Ru_findRow_38 : decode b_Ru_findRow 38 = .ok (.istore_n 3, 1) := by decide +kernel
theorem d_Ru_findRow_39 : decode b_Ru_findRow 39 = .ok (.aload_n 0, 1) := by decide +kernel
theorem d_Ru_findRow_40 : decode b_Ru_findRow 40 = .ok (.getfield 30, 3) := by decide +kernel
theorem d_Ru_findRow_43 : decode b_Ru_findRow 43 = .ok (.iload_n 2, 1) := by decide +kernel
theorem d_Ru_findRow_44 : decode b_Ru_findRow 44 = .ok (.if_icmp .ge 117, 3) := by decide +kernel
theorem d_Ru_findRow_47 : decode b_Ru_findRow 47 = .ok (.aload_n 1, 1) := by decide +kernel
theorem d_Ru_findRow_48 : decode b_Ru_findRow 48 = .ok (.aload_n 0, 1) := by decide +kernel
theorem d_Ru_findRow_49 : decode b_Ru_findRow 49 = .ok (.getfield 15, 3) := by decide +kernel
theorem d_Ru_findRow_52 : decode b_Ru_findRow 52 = .ok (.getfield 41, 3) := by decide +kernel
theorem d_Ru_findRow_55 : decode b_Ru_findRow 55 = .ok (.aload_n 0, 1) := by decide +kernel
theorem d_Ru_findRow_56 : decode b_Ru_findRow 56 = .ok (.aload_n 0, 1) := by decide +kernel
theorem d_Ru_findRow_57 : decode b_Ru_findRow 57 = .ok (.getfield 30, 3) := by decide +kernel
theorem d_Ru_findRow_60 : decode b_Ru_findRow 60 = .ok (.iload_n 2, 1) := by decide +kernel
theorem d_Ru_findRow_61 : decode b_Ru_findRow 61 = .ok (.invokevirtual 116, 3) := by decide +kernel
theorem d_Ru_findRow_64 : decode b_Ru_findRow 64 = .ok (.aload_n 0, 1) := by decide +kernel
theorem d_Ru_findRow_65 : decode b_Ru_findRow 65 = .ok (.getfield 9, 3) := by decide +kernel
theorem d_Ru_findRow_68 : decode b_Ru_findRow 68 = .ok (.iconst 0, 1) := by decide +kernel
theorem d_Ru_findRow_69 : decode b_Ru_findRow 69 = .ok (.invokevirtual 80, 3) := by decide +kernel
theorem d_Ru_findRow_72 : decode b_Ru_findRow 72 = .ok (.aload_n 0, 1) := by decide +kernel
theorem d_Ru_findRow_73 : decode b_Ru_findRow 73 = .ok (.getfield 33, 3) := by decide +kernel
theorem d_Ru_findRow_76 : decode b_Ru_findRow 76 = .ok (.iload_n 3, 1) := by decide +kernel
theorem d_Ru_findRow_77 : decode b_Ru_findRow 77 = .ok (.if_icmp .ge 66, 3) := by decide +kernel
theorem d_Ru_findRow_80 : decode b_Ru_findRow 80 = .ok (.aload_n 0, 1) := by decide +kernel
theorem d_Ru_findRow_81 : decode b_Ru_findRow 81 = .ok (.getfield 15, 3) := by decide +kernel
theorem d_Ru_findRow_84 : decode b_Ru_findRow 84 = .ok (.getfield 113, 3) := by decide +kernel
theorem d_Ru_findRow_87 : decode b_Ru_findRow 87 = .ok (.iconst (-1), 1) := by decide +kernel
theorem d_Ru_findRow_88 : decode b_Ru_findRow 88 = .ok (.if_icmp .eq 29, 3) := by decide +kernel
theorem d_Ru_findRow_91 : decode b_Ru_findRow 91 = .ok (.aload_n 1, 1) := by decide +kernel
theorem d_Ru_findRow_92 : decode b_Ru_findRow 92 = .ok (.aload_n 0, 1) := by decide +kernel
theorem d_Ru_findRow_93 : decode b_Ru_findRow 93 = .ok (.getfield 15, 3) := by decide +kernel
theorem d_Ru_findRow_96 : decode b_Ru_findRow 96 = .ok (.getfield 113, 3) := by decide +kernel
theorem d_Ru_findRow_99 : decode b_Ru_findRow 99 = .ok (.aload_n 0, 1) := by decide +kernel
theorem d_Ru_findRow_100 : decode b_Ru_findRow 100 = .ok (.aload_n 0, 1) := by decide +kernel
theorem d_Ru_findRow_101 : decode b_Ru_findRow 101 = .ok (.getfield 33, 3) := by decide +kernel
theorem d_Ru_findRow_104 : decode b_Ru_findRow 104 = .ok (.iload_n 3, 1) := by decide +kernel
theorem d_Ru_findRow_105 : decode b_Ru_findRow 105 = .ok (.invokevirtual 116, 3) := by decide +kernel
theorem d_Ru_findRow_108 : decode b_Ru_findRow 108 = .ok (.aload_n 0, 1) := by decide +kernel
theorem d_Ru_findRow_109 : decode b_Ru_findRow 109 = .ok (.getfield 9, 3) := by decide +kernel
theorem d_Ru_findRow_112 : decode b_Ru_findRow 112 = .ok (.bipush 10, 2) := by decide +kernel
theorem d_Ru_findRow_114 : decode b_Ru_findRow 114 = .ok (.invokevirtual 80, 3) := by decide +kernel
theorem d_Ru_findRow_117 : decode b_Ru_findRow 117 = .ok (.aload_n 0, 1) := by decide +kernel
theorem d_Ru_findRow_118 : decode b_Ru_findRow 118 = .ok (.dup, 1) := by decide +kernel
theorem d_Ru_findRow_119 : decode b_Ru_findRow 119 = .ok (.getfield 33, 3) := by decide +kernel
theorem d_Ru_findRow_122 : decode b_Ru_findRow 122 = .ok (.iconst 1, 1) := by decide +kernel
theorem d_Ru_findRow_123 : decode b_Ru_findRow 123 = .ok (.iadd, 1) := by decide +kernel
theorem d_Ru_findRow_124 : decode b_Ru_findRow 124 = .ok (.putfield 33, 3) := by decide +kernel
theorem d_Ru_findRow_127 : decode b_Ru_findRow 127 = .ok (.aload_n 0, 1) := by decide +kernel
theorem d_Ru_findRow_128 : decode b_Ru_findRow 128 = .ok (.getfield 15, 3) := by decide +kernel
theorem d_Ru_findRow_131 : decode b_Ru_findRow 131 = .ok (.aload_n 0, 1) := by decide +kernel
theorem d_Ru_findRow_132 : decode b_Ru_findRow 132 = .ok (.getfield 9, 3) := by decide +kernel
theorem d_Ru_findRow_135 : decode b_Ru_findRow 135 = .ok (.invokevirtual 83, 3) := by decide +kernel
theorem d_Ru_findRow_138 : decode b_Ru_findRow 138 = .ok (.ifCond .eq (-66), 3) := by decide +kernel
theorem d_Ru_findRow_141 : decode b_Ru_findRow 141 = .ok (.iconst 1, 1) := by decide +kernel
theorem d_Ru_findRow_142 : decode b_Ru_findRow 142 = .ok (.ireturn, 1) := by decide +kernel
theorem d_Ru_findRow_143 : decode b_Ru_findRow 143 = .ok (.aload_n 0, 1) := by decide +kernel
theorem d_Ru_findRow_144 : decode b_Ru_findRow 144 = .ok (.iconst 0, 1) := by decide +kernel
theorem d_Ru_findRow_145 : decode b_Ru_findRow 145 = .ok (.putfield 33, 3) := by decide +kernel
theorem d_Ru_findRow_148 : decode b_Ru_findRow 148 = .ok (.aload_n 0, 1) := by decide +kernel
theorem d_Ru_findRow_149 : decode b_Ru_findRow 149 = .ok (.dup, 1) := by decide +kernel
theorem d_Ru_findRow_150 : decode b_Ru_findRow 150 = .ok (.getfield 30, 3) := by decide +kernel
theorem d_Ru_findRow_153 : decode b_Ru_findRow 153 = .ok (.iconst 1, 1) := by decide +kernel
theorem d_Ru_findRow_154 : decode b_Ru_findRow 154 = .ok (.iadd, 1) := by decide +kernel
theorem d_Ru_findRow_155 : decode b_Ru_findRow 155 = .ok (.putfield 30, 3) := by decide +kernel
theorem d_Ru_findRow_158 : decode b_Ru_findRow 158 = .ok (.goto (-119), 3) := by decide +kernel
theorem d_Ru_findRow_161 : decode b_Ru_findRow 161 = .ok (.iconst 0, 1) := by decide +kernel
theorem d_Ru_findRow_162 : decode b_Ru_findRow 162 = .ok (.ireturn, 1) := by decide +kernel
theorem d_Ru_place_0 : decode b_Ru_place 0 = .ok (.aload_n 0, 1) := by decide +kernel
theorem d_Ru_place_1 : decode b_Ru_place 1 = .ok (.getfield 15, 3) := by decide +kernel
theorem d_Ru_place_4 : decode b_Ru_place 4 = .ok (.getfield 119, 3) := by decide +kernel
theorem d_Ru_place_7 : decode b_Ru_place 7 = .ok (.ifCond .eq 11, 3) := by decide +kernel
theorem d_Ru_place_10 : decode b_Ru_place 10 = .ok (.iload_n 2, 1) := by decide +kernel
theorem d_Ru_place_11 : decode b_Ru_place 11 = .ok (.iconst 1, 1) := by decide +kernel
theorem d_Ru_place_12 : decode b_Ru_place 12 = .ok (.isub, 1) := by decide +kernel
theorem d_Ru_place_13 : decode b_Ru_place 13 = .ok (.iload_n 1, 1) := by decide +kernel
theorem d_Ru_place_14 : decode b_Ru_place 14 = .ok (.isub, 1) := by decide +kernel
theorem d_Ru_place_15 : decode b_Ru_place 15 = .ok (.goto 4, 3) := by decide +kernel
theorem d_Ru_place_18 : decode b_Ru_place 18 = .ok (.iload_n 1, 1) := by decide +kernel
theorem d_Ru_place_19 : decode b_Ru_place 19 = .ok (.ireturn, 1) := by decide +kernel
theorem d_Ru_valueAt_0 : decode b_Ru_valueAt 0 = .ok (.aload_n 0, 1) := by decide +kernel
theorem d_Ru_valueAt_1 : decode b_Ru_valueAt 1 = .ok (.getfield 15, 3) := by decide +kernel
theorem d_Ru_valueAt_4 : decode b_Ru_valueAt 4 = .ok (.invokevirtual 61, 3) := by decide +kernel
theorem d_Ru_valueAt_7 : decode b_Ru_valueAt 7 = .ok (.ifCond .eq 10, 3) := by decide +kernel
theorem d_Ru_valueAt_10 : decode b_Ru_valueAt 10 = .ok (.aload_n 0, 1) := by decide +kernel
theorem d_Ru_valueAt_11 : decode b_Ru_valueAt 11 = .ok (.getfield 95, 3) := by decide +kernel
theorem d_Ru_valueAt_14 : decode b_Ru_valueAt 14 = .ok (.goto 20, 3) := by decide +kernel
theorem d_Ru_valueAt_17 : decode b_Ru_valueAt 17 = .ok (.aload_n 0, 1) := by decide +kernel
theorem d_Ru_valueAt_18 : decode b_Ru_valueAt 18 = .ok (.getfield 15, 3) := by decide +kernel
theorem d_Ru_valueAt_21 : decode b_Ru_valueAt 21 = .ok (.getfield 103, 3) := by decide +kernel
theorem d_Ru_valueAt_24 : decode b_Ru_valueAt 24 = .ok (.iload_n 1, 1) := by decide +kernel
theorem d_Ru_valueAt_25 : decode b_Ru_valueAt 25 = .ok (.aaload, 1) := by decide +kernel
theorem d_Ru_valueAt_26 : decode b_Ru_valueAt 26 = .ok (.aload_n 0, 1) := by decide +kernel
theorem d_Ru_valueAt_27 : decode b_Ru_valueAt 27 = .ok (.getfield 9, 3) := by decide +kernel
theorem d_Ru_valueAt_30 : decode b_Ru_valueAt 30 = .ok (.invokevirtual 107, 3) := by decide +kernel
theorem d_Ru_valueAt_33 : decode b_Ru_valueAt 33 = .ok (.i2l, 1) := by decide +kernel
theorem d_Ru_valueAt_34 : decode b_Ru_valueAt 34 = .ok (.lreturn, 1) := by decide +kernel
theorem d_St_init_0 : decode b_St_init 0 = .ok (.aload_n 0, 1) := by decide +kernel
theorem d_St_init_1 : decode b_St_init 1 = .ok (.invokespecial 3, 3) := by decide +kernel
theorem d_St_init_4 : decode b_St_init 4 = .ok (.aload_n 0, 1) := by decide +kernel
theorem d_St_init_5 : decode b_St_init 5 = .ok (.iconst (-1), 1) := by decide +kernel
theorem d_St_init_6 : decode b_St_init 6 = .ok (.putfield 9, 3) := by decide +kernel
theorem d_St_init_9 : decode b_St_init 9 = .ok (.aload_n 0, 1) := by decide +kernel
theorem d_St_init_10 : decode b_St_init 10 = .ok (.iconst (-1), 1) := by decide +kernel
theorem d_St_init_11 : decode b_St_init 11 = .ok (.putfield 15, 3) := by decide +kernel
theorem d_St_init_14 : decode b_St_init 14 = .ok (.aload_n 0, 1) := by decide +kernel
theorem d_St_init_15 : decode b_St_init 15 = .ok (.iconst (-1), 1) := by decide +kernel
theorem d_St_init_16 : decode b_St_init 16 = .ok (.putfield 18, 3) := by decide +kernel
theorem d_St_init_19 : decode b_St_init 19 = .ok (.aload_n 0, 1) := by decide +kernel
theorem d_St_init_20 : decode b_St_init 20 = .ok (.bipush 6, 2) := by decide +kernel
theorem d_St_init_22 : decode b_St_init 22 = .ok (.newarray .int, 2) := by decide +kernel
theorem d_St_init_24 : decode b_St_init 24 = .ok (.putfield 21, 3) := by decide +kernel
theorem d_St_init_27 : decode b_St_init 27 = .ok (.aload_n 0, 1) := by decide +kernel
theorem d_St_init_28 : decode b_St_init 28 = .ok (.bipush 12, 2) := by decide +kernel
theorem d_St_init_30 : decode b_St_init 30 = .ok (.anewarray 25, 3) := by decide +kernel
theorem d_St_init_33 : decode b_St_init 33 = .ok (.putfield 27, 3) := by decide +kernel
theorem d_St_init_36 : decode b_St_init 36 = .ok (.aload_n 0, 1) := by decide +kernel
theorem d_St_init_37 : decode b_St_init 37 = .ok (.bipush 8, 2) := by decide +kernel
theorem d_St_init_39 : decode b_St_init 39 = .ok (.anewarray 31, 3) := by decide +kernel
theorem d_St_init_42 : decode b_St_init 42 = .ok (.putfield 33, 3) := by decide +kernel
theorem d_St_init_45 : decode b_St_init 45 = .ok (.return_, 1) := by decide +kernel
theorem d_St_addNumber_0 : decode b_St_addNumber 0 = .ok (.aload_n 0, 1) := by decide +kernel
theorem d_St_addNumber_1 : decode b_St_addNumber 1 = .ok (.getfield 37, 3) := by decide +kernel
theorem d_St_addNumber_4 : decode b_St_addNumber 4 = .ok (.bipush 6, 2) := by decide +kernel
theorem d_St_addNumber_6 : decode b_St_addNumber 6 = .ok (.if_icmp .ge 13, 3) := by decide +kernel
theorem d_St_addNumber_9 : decode b_St_addNumber 9 = .ok (.aload_n 0, 1) := by decide +kernel
theorem d_St_addNumber_10 : decode b_St_addNumber 10 = .ok (.getfield 21, 3) := by decide +kernel
theorem d_St_addNumber_13 : decode b_St_addNumber 13 = .ok (.aload_n 0, 1) := by decide +kernel
theorem d_St_addNumber_14 : decode b_St_addNumber 14 = .ok (.getfield 37, 3) := by decide +kernel
theorem d_St_addNumber_17 : decode b_St_addNumber 17 = .ok (.iload_n 1, 1) := by decide +kernel
theorem d_St_addNumber_18 : decode b_St_addNumber 18 = .ok (.iastore, 1) := by decide +kernel
theorem d_St_addNumber_19 : decode b_St_addNumber 19 = .ok (.aload_n 0, 1) := by decide +kernel
theorem d_St_addNumber_20 : decode b_St_addNumber 20 = .ok (.dup, 1) := by decide +kernel
theorem d_St_addNumber_21 : decode b_St_addNumber 21 = .ok (.getfield 37, 3) := by decide +kernel
theorem d_St_addNumber_24 : decode b_St_addNumber 24 = .ok (.iconst 1, 1) := by decide +kernel
theorem d_St_addNumber_25 : decode b_St_addNumber 25 = .ok (.iadd, 1) := by decide +kernel
theorem d_St_addNumber_26 : decode b_St_addNumber 26 = .ok (.putfield 37, 3) := by decide +kernel
theorem d_St_addNumber_29 : decode b_St_addNumber 29 = .ok (.return_, 1) := by decide +kernel
theorem d_St_addPick_0 : decode b_St_addPick 0 = .ok (.aload_n 0, 1) := by decide +kernel
theorem d_St_addPick_1 : decode b_St_addPick 1 = .ok (.getfield 40, 3) := by decide +kernel
theorem d_St_addPick_4 : decode b_St_addPick 4 = .ok (.aload_n 0, 1) := by decide +kernel
theorem d_St_addPick_5 : decode b_St_addPick 5 = .ok (.getfield 27, 3) := by decide +kernel
theorem d_St_addPick_8 : decode b_St_addPick 8 = .ok (.arraylength, 1) := by decide +kernel
theorem d_St_addPick_9 : decode b_St_addPick 9 = .ok (.if_icmp .ge 31, 3) := by decide +kernel
theorem d_St_addPick_12 : decode b_St_addPick 12 = .ok (.aload_n 0, 1) := by decide +kernel
theorem d_St_addPick_13 : decode b_St_addPick 13 = .ok (.getfield 27, 3) := by decide +kernel
theorem d_St_addPick_16 : decode b_St_addPick 16 = .ok (.aload_n 0, 1) := by decide +kernel
theorem d_St_addPick_17 : decode b_St_addPick 17 = .ok (.getfield 40, 3) := by decide +kernel
theorem d_St_addPick_20 : decode b_St_addPick 20 = .ok (.new 25, 3) := by decide +kernel
theorem d_St_addPick_23 : decode b_St_addPick 23 = .ok (.dup, 1) := by decide +kernel
theorem d_St_addPick_24 : decode b_St_addPick 24 = .ok (.iconst 2, 1) := by decide +kernel
theorem d_St_addPick_25 : decode b_St_addPick 25 = .ok (.iload_n 1, 1) := by decide +kernel
theorem d_St_addPick_26 : decode b_St_addPick 26 = .ok (.invokespecial 43, 3) := by decide +kernel
theorem d_St_addPick_29 : decode b_St_addPick 29 = .ok (.aastore, 1) := by decide +kernel
theorem d_St_addPick_30 : decode b_St_addPick 30 = .ok (.aload_n 0, 1) := by decide +kernel
theorem d_St_addPick_31 : decode b_St_addPick 31 = .ok (.dup, 1) := by decide +kernel
theorem d_St_addPick_32 : decode b_St_addPick 32 = .ok (.getfield 40, 3) := by decide +kernel
theorem d_St_addPick_35 : decode b_St_addPick 35 = .ok (.iconst 1, 1) := by decide +kernel
theorem d_St_addPick_36 : decode b_St_addPick 36 = .ok (.iadd, 1) := by decide +kernel
theorem d_St_addPick_37 : decode b_St_addPick 37 = .ok (.putfield 40, 3) := by decide +kernel
theorem d_St_addPick_40 : decode b_St_addPick 40 = .ok (.return_, 1) := by decide +kernel
theorem d_St_addCondition_0 : decode b_St_addCondition 0 = .ok (.aload_n 0, 1) := by decide +kernel
theorem d_St_addCondition_1 : decode b_St_addCondition 1 = .ok (.getfield 46, 3) := by decide +kernel
theorem d_St_addCondition_4 : decode b_St_addCondition 4 = .ok (.bipush 8, 2) := by decide +kernel
theorem d_St_addCondition_6 : decode b_St_addCondition 6 = .ok (.if_icmp .ge 23, 3) := by decide +kernel
theorem d_St_addCondition_9 : decode b_St_addCondition 9 = .ok (.aload_n 0, 1) := by decide +kernel
theorem d_St_addCondition_10 : decode b_St_addCondition 10 = .ok (.getfield 33, 3) := by decide +kernel
theorem d_St_addCondition_13 : decode b_St_addCondition 13 = .ok (.aload_n 0, 1) := by decide +kernel
theorem d_St_addCondition_14 : decode b_St_addCondition 14 = .ok (.getfield 46, 3) := by decide +kernel
theorem d_St_addCondition_17 : decode b_St_addCondition 17 = .ok (.aload_n 1, 1) := by decide +kernel
theorem d_St_addCondition_18 : decode b_St_addCondition 18 = .ok (.aastore, 1) := by decide +kernel
theorem d_St_addCondition_19 : decode b_St_addCondition 19 = .ok (.aload_n 0, 1) := by decide +kernel
theorem d_St_addCondition_20 : decode b_St_addCondition 20 = .ok (.dup, 1) := by decide +kernel
theorem d_St_addCondition_21 : decode b_St_addCondition 21 = .ok (.getfield 46, 3) := by decide +kernel
theorem d_St_addCondition_24 : decode b_St_addCondition 24 = .ok (.iconst 1, 1) := by decide +kernel
theorem d_St_addCondition_25 : decode b_St_addCondition 25 = .ok (.iadd, 1) := by decide +kernel
theorem d_St_addCondition_26 : decode b_St_addCondition 26 = .ok (.putfield 46, 3) := by decide +kernel
theorem d_St_addCondition_29 : decode b_St_addCondition 29 = .ok (.return_, 1) := by decide +kernel
theorem d_St_fault_0 : decode b_St_fault 0 = .ok (.aload_n 0, 1) := by decide +kernel
theorem d_St_fault_1 : decode b_St_fault 1 = .ok (.getfield 49, 3) := by decide +kernel
theorem d_St_fault_4 : decode b_St_fault 4 = .ok (.ifCond .ne 9, 3) := by decide +kernel
theorem d_St_fault_7 : decode b_St_fault 7 = .ok (.aload_n 0, 1) := by decide +kernel
theorem d_St_fault_8 : decode b_St_fault 8 = .ok (.aload_n 1, 1) := by decide +kernel
theorem d_St_fault_9 : decode b_St_fault 9 = .ok (.invokevirtual 52, 3) := by decide +kernel
theorem d_St_fault_12 : decode b_St_fault 12 = .ok (.ireturn, 1) := by decide +kernel
theorem d_St_fault_13 : decode b_St_fault 13 = .ok (.aload_n 1, 1) := by decide +kernel
theorem d_St_fault_14 : decode b_St_fault 14 = .ok (.aload_n 0, 1) := by decide +kernel
theorem d_St_fault_15 : decode b_St_fault 15 = .ok (.getfield 15, 3) := by decide +kernel
theorem d_St_fault_18 : decode b_St_fault 18 = .ok (.invokevirtual 56, 3) := by decide +kernel
theorem d_St_fault_21 : decode b_St_fault 21 = .ok (.ifCond .eq 22, 3) := by decide +kernel
theorem d_St_fault_24 : decode b_St_fault 24 = .ok (.aload_n 0, 1) := by decide +kernel
theorem d_St_fault_25 : decode b_St_fault 25 = .ok (.getfield 18, 3) := by decide +kernel
theorem d_St_fault_28 : decode b_St_fault 28 = .ok (.iconst (-1), 1) := by decide +kernel
theorem d_St_fault_29 : decode b_St_fault 29 = .ok (.if_icmp .eq 17, 3) := by decide +kernel
theorem d_St_fault_32 : decode b_St_fault 32 = .ok (.aload_n 1, 1) := by decide +kernel
theorem d_St_fault_33 : decode b_St_fault 33 = .ok (.aload_n 0, 1) := by decide +kernel
theorem d_St_fault_34 : decode b_St_fault 34 = .ok (.getfield 18, 3) := by decide +kernel
theorem d_St_fault_37 : decode b_St_fault 37 = .ok (.invokevirtual 56, 3) := by decide +kernel
theorem d_St_fault_40 : decode b_St_fault 40 = .ok (.ifCond .ne 6, 3) := by decide +kernel
theorem d_St_fault_43 : decode b_St_fault 43 = .ok (.bipush (-2), 2) := by decide +kernel
theorem d_St_fault_45 : decode b_St_fault 45 = .ok (.ireturn, 1) := by decide +kernel
theorem d_St_fault_46 : decode b_St_fault 46 = .ok (.aload_n 0, 1) := by decide +kernel
theorem d_St_fault_47 : decode b_St_fault 47 = .ok (.aload_n 1, 1) := by decide +kernel
theorem d_St_fault_48 : decode b_St_fault 48 = .ok (.aload_n 0, 1) := by decide +kernel
theorem d_St_fault_49 : decode b_St_fault 49 = .ok (.getfield 15, 3) := by decide +kernel
theorem d_St_fault_52 : decode b_St_fault 52 = .ok (.invokevirtual 62, 3) := by decide +kernel
theorem d_St_fault_55 : decode b_St_fault 55 = .ok (.aload_n 1, 1) := by decide +kernel
theorem d_St_fault_56 : decode b_St_fault 56 = .ok (.aload_n 0, 1) := by decide +kernel
theorem d_St_fault_57 : decode b_St_fault 57 = .ok (.getfield 18, 3) := by decide +kernel
theorem d_St_fault_60 : decode b_St_fault 60 = .ok (.invokevirtual 62, 3) := by decide +kernel
theorem d_St_fault_63 : decode b_St_fault 63 = .ok (.invokevirtual 66, 3) := by decide +kernel
theorem d_St_fault_66 : decode b_St_fault 66 = .ok (.ifCond .ne 6, 3) := by decide +kernel
theorem d_St_fault_69 : decode b_St_fault 69 = .ok (.bipush (-3), 2) := by decide +kernel
theorem d_St_fault_71 : decode b_St_fault 71 = .ok (.ireturn, 1) := by decide +kernel
theorem d_St_fault_72 : decode b_St_fault 72 = .ok (.aload_n 0, 1) := by decide +kernel
theorem d_St_fault_73 : decode b_St_fault 73 = .ok (.getfield 49, 3) := by decide +kernel
theorem d_St_fault_76 : decode b_St_fault 76 = .ok (.iconst 1, 1) := by decide +kernel
theorem d_St_fault_77 : decode b_St_fault 77 = .ok (.if_icmp .ne 21, 3) := by decide +kernel
theorem d_St_fault_80 : decode b_St_fault 80 = .ok (.aload_n 0, 1) := by decide +kernel
theorem d_St_fault_81 : decode b_St_fault 81 = .ok (.getfield 37, 3) := by decide +kernel
theorem d_St_fault_84 : decode b_St_fault 84 = .ok (.aload_n 1, 1) := by decide +kernel
theorem d_St_fault_85 : decode b_St_fault 85 = .ok (.aload_n 0, 1) := by decide +kernel
theorem d_St_fault_86 : decode b_St_fault 86 = .ok (.getfield 15, 3) := by decide +kernel
theorem d_St_fault_89 : decode b_St_fault 89 = .ok (.invokevirtual 62, 3) := by decide +kernel
theorem d_St_fault_92 : decode b_St_fault 92 = .ok (.if_icmp .eq 6, 3) := by decide +kernel
theorem d_St_fault_95 : decode b_St_fault 95 = .ok (.bipush (-5), 2) := by decide +kernel
theorem d_St_fault_97 : decode b_St_fault 97 = .ok (.ireturn, 1) := by decide +kernel
theorem d_St_fault_98 : decode b_St_fault 98 = .ok (.iconst 0, 1) := by decide +kernel
theorem d_St_fault_99 : decode b_St_fault 99 = .ok (.ireturn, 1) := by decide +kernel
theorem d_St_faultOfCreate_0 : decode b_St_faultOfCreate 0 = .ok (.aload_n 1, 1) := by decide +kernel
theorem d_St_faultOfCreate_1 : decode b_St_faultOfCreate 1 = .ok (.aload_n 0, 1) := by decide +kernel
theorem d_St_faultOfCreate_2 : decode b_St_faultOfCreate 2 = .ok (.getfield 15, 3) := by decide +kernel
theorem d_St_faultOfCreate_5 : decode b_St_faultOfCreate 5 = .ok (.invokevirtual 56, 3) := by decide +kernel
theorem d_St_faultOfCreate_8 : decode b_St_faultOfCreate 8 = .ok (.ifCond .eq 6, 3) := by decide +kernel
theorem d_St_faultOfCreate_11 : decode b_St_faultOfCreate 11 = .ok (.bipush (-4), 2) := by decide +kernel
theorem d_St_faultOfCreate_13 : decode b_St_faultOfCreate 13 = .ok (.ireturn, 1) := by decide +kernel
theorem d_St_faultOfCreate_14 : decode b_St_faultOfCreate 14 = .ok (.aload_n 0, 1) := by decide +kernel
theorem d_St_faultOfCreate_15 : decode b_St_faultOfCreate 15 = .ok (.getfield 21, 3) := by decide +kernel
theorem d_St_faultOfCreate_18 : decode b_St_faultOfCreate 18 = .ok (.iconst 0, 1) := by decide +kernel
theorem d_St_faultOfCreate_19 : decode b_St_faultOfCreate 19 = .ok (.iaload, 1) := by decide +kernel
theorem d_St_faultOfCreate_20 : decode b_St_faultOfCreate 20 = .ok (.iconst 1, 1) := by decide +kernel
theorem d_St_faultOfCreate_21 : decode b_St_faultOfCreate 21 = .ok (.if_icmp .lt 18, 3) := by decide +kernel
theorem d_St_faultOfCreate_24 : decode b_St_faultOfCreate 24 = .ok (.aload_n 0, 1) := by decide +kernel
theorem d_St_faultOfCreate_25 : decode b_St_faultOfCreate 25 = .ok (.getfield 21, 3) := by decide +kernel
theorem d_St_faultOfCreate_28 : decode b_St_faultOfCreate 28 = .ok (.iconst 0, 1) := by decide +kernel
theorem d_St_faultOfCreate_29 : decode b_St_faultOfCreate 29 = .ok (.iaload, 1) := by decide +kernel
theorem d_St_faultOfCreate_30 : decode b_St_faultOfCreate 30 = .ok (.bipush 6, 2) := by decide +kernel
theorem d_St_faultOfCreate_32 : decode b_St_faultOfCreate 32 = .ok (.if_icmp .gt 7, 3) := by decide +kernel
theorem d_St_faultOfCreate_35 : decode b_St_faultOfCreate 35 = .ok (.iconst 0, 1) := by decide +kernel
theorem d_St_faultOfCreate_36 : decode b_St_faultOfCreate 36 = .ok (.goto 5, 3) := by decide +kernel
theorem d_St_faultOfCreate_39 : decode b_St_faultOfCreate 39 = .ok (.bipush (-5), 2) := by decide +kernel
theorem d_St_faultOfCreate_41 : decode b_St_faultOfCreate 41 = .ok (.ireturn, 1) := by decide +kernel
theorem d_St_columnsAreThere_0 : decode b_St_columnsAreThere 0 = .ok (.iconst 0, 1) := by decide +kernel
theorem d_St_columnsAreThere_1 : decode b_St_columnsAreThere 1 = .ok (.istore_n 3, 1) := by decide +kernel
theorem d_St_columnsAreThere_2 : decode b_St_columnsAreThere 2 = .ok (.iload_n 3, 1) := by decide +kernel
theorem d_St_columnsAreThere_3 : decode b_St_columnsAreThere 3 = .ok (.aload_n 0, 1) := by decide +kernel
theorem d_St_columnsAreThere_4 : decode b_St_columnsAreThere 4 = .ok (.getfield 40, 3) := by decide +kernel
theorem d_St_columnsAreThere_7 : decode b_St_columnsAreThere 7 = .ok (.if_icmp .ge 25, 3) := by decide +kernel
theorem d_St_columnsAreThere_10 : decode b_St_columnsAreThere 10 = .ok (.aload_n 0, 1) := by decide +kernel
theorem d_St_columnsAreThere_11 : decode b_St_columnsAreThere 11 = .ok (.getfield 27, 3) := by decide +kernel
theorem d_St_columnsAreThere_14 : decode b_St_columnsAreThere 14 = .ok (.iload_n 3, 1) := by decide +kernel
theorem d_St_columnsAreThere_15 : decode b_St_columnsAreThere 15 = .ok (.aaload, 1) := by decide +kernel
theorem d_St_columnsAreThere_16 : decode b_St_columnsAreThere 16 = .ok (.iload_n 1, 1) := by decide +kernel
theorem d_St_columnsAreThere_17 : decode b_St_columnsAreThere 17 = .ok (.iload_n 2, 1) := by decide +kernel
theorem d_St_columnsAreThere_18 : decode b_St_columnsAreThere 18 = .ok (.invokevirtual 70, 3) := by decide +kernel
theorem d_St_columnsAreThere_21 : decode b_St_columnsAreThere 21 = .ok (.ifCond .ne 5, 3) := by decide +kernel
theorem d_St_columnsAreThere_24 : decode b_St_columnsAreThere 24 = .ok (.iconst 0, 1) := by decide +kernel
theorem d_St_columnsAreThere_25 : decode b_St_columnsAreThere 25 = .ok (.ireturn, 1) := by decide +kernel
theorem d_St_columnsAreThere_26 : decode b_St_columnsAreThere 26 = .ok (.iinc 3 1, 3) := by decide +kernel
theorem d_St_columnsAreThere_29 : decode b_St_columnsAreThere 29 = .ok (.goto (-27), 3) := by decide +kernel
theorem d_St_columnsAreThere_32 : decode b_St_columnsAreThere 32 = .ok (.iconst 0, 1) := by decide +kernel
theorem d_St_columnsAreThere_33 : decode b_St_columnsAreThere 33 = .ok (.istore_n 3, 1) := by decide +kernel
theorem d_St_columnsAreThere_34 : decode b_St_columnsAreThere 34 = .ok (.iload_n 3, 1) := by decide +kernel
theorem d_St_columnsAreThere_35 : decode b_St_columnsAreThere 35 = .ok (.aload_n 0, 1) := by decide +kernel
theorem d_St_columnsAreThere_36 : decode b_St_columnsAreThere 36 = .ok (.getfield 46, 3) := by decide +kernel
theorem d_St_columnsAreThere_39 : decode b_St_columnsAreThere 39 = .ok (.if_icmp .ge 25, 3) := by decide +kernel
theorem d_St_columnsAreThere_42 : decode b_St_columnsAreThere 42 = .ok (.aload_n 0, 1) := by decide +kernel
theorem d_St_columnsAreThere_43 : decode b_St_columnsAreThere 43 = .ok (.getfield 33, 3) := by decide +kernel
theorem d_St_columnsAreThere_46 : decode b_St_columnsAreThere 46 = .ok (.iload_n 3, 1) := by decide +kernel
theorem d_St_columnsAreThere_47 : decode b_St_columnsAreThere 47 = .ok (.aaload, 1) := by decide +kernel
theorem d_St_columnsAreThere_48 : decode b_St_columnsAreThere 48 = .ok (.iload_n 1, 1) := by decide +kernel
theorem d_St_columnsAreThere_49 : decode b_St_columnsAreThere 49 = .ok (.iload_n 2, 1) := by decide +kernel
theorem d_St_columnsAreThere_50 : decode b_St_columnsAreThere 50 = .ok (.invokevirtual 72, 3) := by decide +kernel
theorem d_St_columnsAreThere_53 : decode b_St_columnsAreThere 53 = .ok (.ifCond .ne 5, 3) := by decide +kernel
theorem d_St_columnsAreThere_56 : decode b_St_columnsAreThere 56 = .ok (.iconst 0, 1) := by decide +kernel
theorem d_St_columnsAreThere_57 : decode b_St_columnsAreThere 57 = .ok (.ireturn, 1) := by decide +kernel
theorem d_St_columnsAreThere_58 : decode b_St_columnsAreThere 58 = .ok (.iinc 3 1, 3) := by decide +kernel
theorem d_St_columnsAreThere_61 : decode b_St_columnsAreThere 61 = .ok (.goto (-27), 3) := by decide +kernel
theorem d_St_columnsAreThere_64 : decode b_St_columnsAreThere 64 = .ok (.iconst 1, 1) := by decide +kernel
theorem d_St_columnsAreThere_65 : decode b_St_columnsAreThere 65 = .ok (.ireturn, 1) := by decide +kernel
theorem d_St_spellOutAll_0 : decode b_St_spellOutAll 0 = .ok (.aload_n 0, 1) := by decide +kernel
theorem d_St_spellOutAll_1 : decode b_St_spellOutAll 1 = .ok (.getfield 9, 3) := by decide +kernel
theorem d_St_spellOutAll_4 : decode b_St_spellOutAll 4 = .ok (.iconst 4, 1) := by decide +kernel
theorem d_St_spellOutAll_5 : decode b_St_spellOutAll 5 = .ok (.if_icmp .eq 4, 3) := by decide +kernel
theorem d_St_spellOutAll_8 : decode b_St_spellOutAll 8 = .ok (.return_, 1) := by decide +kernel
theorem d_St_spellOutAll_9 : decode b_St_spellOutAll 9 = .ok (.aload_n 0, 1) := by decide +kernel
theorem d_St_spellOutAll_10 : decode b_St_spellOutAll 10 = .ok (.iconst 0, 1) := by decide +kernel
theorem d_St_spellOutAll_11 : decode b_St_spellOutAll 11 = .ok (.aload_n 1, 1) := by decide +kernel
theorem d_St_spellOutAll_12 : decode b_St_spellOutAll 12 = .ok (.aload_n 0, 1) := by decide +kernel
theorem d_St_spellOutAll_13 : decode b_St_spellOutAll 13 = .ok (.getfield 15, 3) := by decide +kernel
theorem d_St_spellOutAll_16 : decode b_St_spellOutAll 16 = .ok (.invokevirtual 62, 3) := by decide +kernel
theorem d_St_spellOutAll_19 : decode b_St_spellOutAll 19 = .ok (.invokevirtual 73, 3) := by decide +kernel
theorem d_St_spellOutAll_22 : decode b_St_spellOutAll 22 = .ok (.aload_n 0, 1) := by decide +kernel
theorem d_St_spellOutAll_23 : decode b_St_spellOutAll 23 = .ok (.bipush 10, 2) := by decide +kernel
theorem d_St_spellOutAll_25 : decode b_St_spellOutAll 25 = .ok (.aload_n 1, 1) := by decide +kernel
theorem d_St_spellOutAll_26 : decode b_St_spellOutAll 26 = .ok (.aload_n 0, 1) := by decide +kernel
theorem d_St_spellOutAll_27 : decode b_St_spellOutAll 27 = .ok (.getfield 18, 3) := by decide +kernel
theorem d_St_spellOutAll_30 : decode b_St_spellOutAll 30 = .ok (.invokevirtual 62, 3) := by decide +kernel
theorem d_St_spellOutAll_33 : decode b_St_spellOutAll 33 = .ok (.invokevirtual 73, 3) := by decide +kernel
theorem d_St_spellOutAll_36 : decode b_St_spellOutAll 36 = .ok (.return_, 1) := by decide +kernel
theorem d_St_addPicks_0 : decode b_St_addPicks 0 = .ok (.iconst 0, 1) := by decide +kernel
theorem d_St_addPicks_1 : decode b_St_addPicks 1 = .ok (.istore_n 3, 1) := by decide +kernel
theorem d_St_addPicks_2 : decode b_St_addPicks 2 = .ok (.iload_n 3, 1) := by decide +kernel
theorem d_St_addPicks_3 : decode b_St_addPicks 3 = .ok (.iload_n 2, 1) := by decide +kernel
theorem d_St_addPicks_4 : decode b_St_addPicks 4 = .ok (.if_icmp .ge 16, 3) := by decide +kernel
theorem d_St_addPicks_7 : decode b_St_addPicks 7 = .ok (.aload_n 0, 1) := by decide +kernel
theorem d_St_addPicks_8 : decode b_St_addPicks 8 = .ok (.iload_n 1, 1) := by decide +kernel
theorem d_St_addPicks_9 : decode b_St_addPicks 9 = .ok (.iload_n 3, 1) := by decide +kernel
theorem d_St_addPicks_10 : decode b_St_addPicks 10 = .ok (.iadd, 1) := by decide +kernel
theorem d_St_addPicks_11 : decode b_St_addPicks 11 = .ok (.invokevirtual 76, 3) := by decide +kernel
theorem d_St_addPicks_14 : decode b_St_addPicks 14 = .ok (.iinc 3 1, 3) := by decide +kernel
theorem d_St_addPicks_17 : decode b_St_addPicks 17 = .ok (.goto (-15), 3) := by decide +kernel
theorem d_St_addPicks_20 : decode b_St_addPicks 20 = .ok (.return_, 1) := by decide +kernel
theorem d_St_hasTotal_0 : decode b_St_hasTotal 0 = .ok (.aload_n 0, 1) := by decide +kernel
theorem d_St_hasTotal_1 : decode b_St_hasTotal 1 = .ok (.getfield 9, 3) := by decide +kernel
theorem d_St_hasTotal_4 : decode b_St_hasTotal 4 = .ok (.iconst 5, 1) := by decide +kernel
theorem d_St_hasTotal_5 : decode b_St_hasTotal 5 = .ok (.if_icmp .eq 12, 3) := by decide +kernel
theorem d_St_hasTotal_8 : decode b_St_hasTotal 8 = .ok (.aload_n 0, 1) := by decide +kernel
theorem d_St_hasTotal_9 : decode b_St_hasTotal 9 = .ok (.getfield 9, 3) := by decide +kernel
theorem d_St_hasTotal_12 : decode b_St_hasTotal 12 = .ok (.bipush 6, 2) := by decide +kernel
theorem d_St_hasTotal_14 : decode b_St_hasTotal 14 = .ok (.if_icmp .ne 7, 3) := by decide +kernel
theorem d_St_hasTotal_17 : decode b_St_hasTotal 17 = .ok (.iconst 1, 1) := by decide +kernel
theorem d_St_hasTotal_18 : decode b_St_hasTotal 18 = .ok (.goto 4, 3) := by decide +kernel
theorem d_St_hasTotal_21 : decode b_St_hasTotal 21 = .ok (.iconst 0, 1) := by decide +kernel
theorem d_St_hasTotal_22 : decode b_St_hasTotal 22 = .ok (.ireturn, 1) := by decide +kernel
theorem d_St_columnCount_0 : decode b_St_columnCount 0 = .ok (.aload_n 0, 1) := by decide +kernel
theorem d_St_columnCount_1 : decode b_St_columnCount 1 = .ok (.invokevirtual 80, 3) := by decide +kernel
theorem d_St_columnCount_4 : decode b_St_columnCount 4 = .ok (.ifCond .eq 7, 3) := by decide +kernel
theorem d_St_columnCount_7 : decode b_St_columnCount 7 = .ok (.iconst 1, 1) := by decide +kernel
theorem d_St_columnCount_8 : decode b_St_columnCount 8 = .ok (.goto 7, 3) := by decide +kernel
theorem d_St_columnCount_11 : decode b_St_columnCount 11 = .ok (.aload_n 0, 1) := by decide +kernel
theorem d_St_columnCount_12 : decode b_St_columnCount 12 = .ok (.getfield 40, 3) := by decide +kernel
theorem d_St_columnCount_15 : decode b_St_columnCount 15 = .ok (.ireturn, 1) := by decide +kernel
theorem d_St_holds_0 : decode b_St_holds 0 = .ok (.iconst 0, 1) := by decide +kernel
theorem d_St_holds_1 : decode b_St_holds 1 = .ok (.istore_n 2, 1) := by decide +kernel
theorem d_St_holds_2 : decode b_St_holds 2 = .ok (.iload_n 2, 1) := by decide +kernel
theorem d_St_holds_3 : decode b_St_holds 3 = .ok (.aload_n 0, 1) := by decide +kernel
theorem d_St_holds_4 : decode b_St_holds 4 = .ok (.getfield 46, 3) := by decide +kernel
theorem d_St_holds_7 : decode b_St_holds 7 = .ok (.if_icmp .ge 24, 3) := by decide +kernel
theorem d_St_holds_10 : decode b_St_holds 10 = .ok (.aload_n 0, 1) := by decide +kernel
theorem d_St_holds_11 : decode b_St_holds 11 = .ok (.getfield 33, 3) := by decide +kernel
theorem d_St_holds_14 : decode b_St_holds 14 = .ok (.iload_n 2, 1) := by decide +kernel
theorem d_St_holds_15 : decode b_St_holds 15 = .ok (.aaload, 1) := by decide +kernel
theorem d_St_holds_16 : decode b_St_holds 16 = .ok (.aload_n 1, 1) := by decide +kernel
theorem d_St_holds_17 : decode b_St_holds 17 = .ok (.invokevirtual 84, 3) := by decide +kernel
theorem d_St_holds_20 : decode b_St_holds 20 = .ok (.ifCond .ne 5, 3) := by decide +kernel
theorem d_St_holds_23 : decode b_St_holds 23 = .ok (.iconst 0, 1) := by decide +kernel
theorem d_St_holds_24 : decode b_St_holds 24 = .ok (.ireturn, 1) := by decide +kernel
theorem d_St_holds_25 : decode b_St_holds 25 = .ok (.iinc 2 1, 3) := by decide +kernel
theorem d_St_holds_28 : decode b_St_holds 28 = .ok (.goto (-26), 3) := by decide +kernel
theorem d_St_holds_31 : decode b_St_holds 31 = .ok (.iconst 1, 1) := by decide +kernel
theorem d_St_holds_32 : decode b_St_holds 32 = .ok (.ireturn, 1) := by decide +kernel
theorem d_Ta_init_0 : decode b_Ta_init 0 = .ok (.aload_n 0, 1) := by decide +kernel
theorem d_Ta_init_1 : decode b_Ta_init 1 = .ok (.invokespecial 3, 3) := by decide +kernel
theorem d_Ta_init_4 : decode b_Ta_init 4 = .ok (.aload_n 0, 1) := by decide +kernel
theorem d_Ta_init_5 : decode b_Ta_init 5 = .ok (.sipush 2400, 3) := by decide +kernel
theorem d_Ta_init_8 : decode b_Ta_init 8 = .ok (.newarray .int, 2) := by decide +kernel
theorem d_Ta_init_10 : decode b_Ta_init 10 = .ok (.putfield 9, 3) := by decide +kernel
theorem d_Ta_init_13 : decode b_Ta_init 13 = .ok (.aload_n 0, 1) := by decide +kernel
theorem d_Ta_init_14 : decode b_Ta_init 14 = .ok (.bipush 10, 2) := by decide +kernel
theorem d_Ta_init_16 : decode b_Ta_init 16 = .ok (.newarray .int, 2) := by decide +kernel
theorem d_Ta_init_18 : decode b_Ta_init 18 = .ok (.putfield 15, 3) := by decide +kernel
theorem d_Ta_init_21 : decode b_Ta_init 21 = .ok (.aload_n 0, 1) := by decide +kernel
theorem d_Ta_init_22 : decode b_Ta_init 22 = .ok (.bipush 11, 2) := by decide +kernel
theorem d_Ta_init_24 : decode b_Ta_init 24 = .ok (.newarray .int, 2) := by decide +kernel
theorem d_Ta_init_26 : decode b_Ta_init 26 = .ok (.putfield 18, 3) := by decide +kernel
theorem d_Ta_init_29 : decode b_Ta_init 29 = .ok (.return_, 1) := by decide +kernel
theorem d_Ta_isThere_0 : decode b_Ta_isThere 0 = .ok (.aload_n 0, 1) := by decide +kernel
theorem d_Ta_isThere_1 : decode b_Ta_isThere 1 = .ok (.iload_n 1, 1) := by decide +kernel
theorem d_Ta_isThere_2 : decode b_Ta_isThere 2 = .ok (.invokevirtual 21, 3) := by decide +kernel
theorem d_Ta_isThere_5 : decode b_Ta_isThere 5 = .ok (.ifCond .le 7, 3) := by decide +kernel
theorem d_Ta_isThere_8 : decode b_Ta_isThere 8 = .ok (.iconst 1, 1) := by decide +kernel
theorem d_Ta_isThere_9 : decode b_Ta_isThere 9 = .ok (.goto 4, 3) := by decide +kernel
theorem d_Ta_isThere_12 : decode b_Ta_isThere 12 = .ok (.iconst 0, 1) := by decide +kernel
theorem d_Ta_isThere_13 : decode b_Ta_isThere 13 = .ok (.ireturn, 1) := by decide +kernel
theorem d_Ta_columnsOf_0 : decode b_Ta_columnsOf 0 = .ok (.iload_n 1, 1) := by decide +kernel
theorem d_Ta_columnsOf_1 : decode b_Ta_columnsOf 1 = .ok (.ifCond .lt 18, 3) := by decide +kernel
theorem d_Ta_columnsOf_4 : decode b_Ta_columnsOf 4 = .ok (.iload_n 1, 1) := by decide +kernel
theorem d_Ta_columnsOf_5 : decode b_Ta_columnsOf 5 = .ok (.bipush 10, 2) := by decide +kernel
theorem d_Ta_columnsOf_7 : decode b_Ta_columnsOf 7 = .ok (.if_icmp .ge 12, 3) := by decide +kernel
theorem d_Ta_columnsOf_10 : decode b_Ta_columnsOf 10 = .ok (.aload_n 0, 1) := by decide +kernel
theorem d_Ta_columnsOf_11 : decode b_Ta_columnsOf 11 = .ok (.getfield 15, 3) := by decide +kernel
theorem d_Ta_columnsOf_14 : decode b_Ta_columnsOf 14 = .ok (.iload_n 1, 1) := by decide +kernel
theorem d_Ta_columnsOf_15 : decode b_Ta_columnsOf 15 = .ok (.iaload, 1) := by decide +kernel
theorem d_Ta_columnsOf_16 : decode b_Ta_columnsOf 16 = .ok (.goto 4, 3) := by decide +kernel
theorem d_Ta_columnsOf_19 : decode b_Ta_columnsOf 19 = .ok (.iconst 0, 1) := by decide +kernel
theorem d_Ta_columnsOf_20 : decode b_Ta_columnsOf 20 = .ok (.ireturn, 1) := by decide +kernel
theorem d_Ta_rowsOf_0 : decode b_Ta_rowsOf 0 = .ok (.iload_n 1, 1) := by decide +kernel
theorem d_Ta_rowsOf_1 : decode b_Ta_rowsOf 1 = .ok (.ifCond .lt 27, 3) := by decide +kernel
theorem d_Ta_rowsOf_4 : decode b_Ta_rowsOf 4 = .ok (.iload_n 1, 1) := by decide +kernel
theorem d_Ta_rowsOf_5 : decode b_Ta_rowsOf 5 = .ok (.bipush 10, 2) := by decide +kernel
theorem d_Ta_rowsOf_7 : decode b_Ta_rowsOf 7 = .ok (.if_icmp .ge 21, 3) := by decide +kernel
theorem d_Ta_rowsOf_10 : decode b_Ta_rowsOf 10 = .ok (.aload_n 0, 1) := by decide +kernel
theorem d_Ta_rowsOf_11 : decode b_Ta_rowsOf 11 = .ok (.getfield 18, 3) := by decide +kernel
theorem d_Ta_rowsOf_14 : decode b_Ta_rowsOf 14 = .ok (.iload_n 1, 1) := by decide +kernel
theorem d_Ta_rowsOf_15 : decode b_Ta_rowsOf 15 = .ok (.iconst 1, 1) := by decide +kernel
theorem d_Ta_rowsOf_16 : decode b_Ta_rowsOf 16 = .ok (.iadd, 1) := by decide +kernel
theorem d_Ta_rowsOf_17 : decode b_Ta_rowsOf 17 = .ok (.iaload, 1) := by decide +kernel
theorem d_Ta_rowsOf_18 : decode b_Ta_rowsOf 18 = .ok (.aload_n 0, 1) := by decide +kernel
theorem d_Ta_rowsOf_19 : decode b_Ta_rowsOf 19 = .ok (.getfield 18, 3) := by decide +kernel
theorem d_Ta_rowsOf_22 : decode b_Ta_rowsOf 22 = .ok (.iload_n 1, 1) := by decide +kernel
theorem d_Ta_rowsOf_23 : decode b_Ta_rowsOf 23 = .ok (.iaload, 1) := by decide +kernel
theorem d_Ta_rowsOf_24 : decode b_Ta_rowsOf 24 = .ok (.isub, 1) := by decide +kernel
theorem d_Ta_rowsOf_25 : decode b_Ta_rowsOf 25 = .ok (.goto 4, 3) := by decide +kernel
theorem d_Ta_rowsOf_28 : decode b_Ta_rowsOf 28 = .ok (.iconst 0, 1) := by decide +kernel
theorem d_Ta_rowsOf_29 : decode b_Ta_rowsOf 29 = .ok (.ireturn, 1) := by decide +kernel
theorem d_Ta_rowsInAll_0 : decode b_Ta_rowsInAll 0 = .ok (.aload_n 0, 1) := by decide +kernel
theorem d_Ta_rowsInAll_1 : decode b_Ta_rowsInAll 1 = .ok (.getfield 18, 3) := by decide +kernel
theorem d_Ta_rowsInAll_4 : decode b_Ta_rowsInAll 4 = .ok (.bipush 10, 2) := by decide +kernel
theorem d_Ta_rowsInAll_6 : decode b_Ta_rowsInAll 6 = .ok (.iaload, 1) := by decide +kernel
theorem d_Ta_rowsInAll_7 : decode b_Ta_rowsInAll 7 = .ok (.ireturn, 1) := by decide +kernel
theorem d_Ta_cellOf_0 : decode b_Ta_cellOf 0 = .ok (.aload_n 0, 1) := by decide +kernel
theorem d_Ta_cellOf_1 : decode b_Ta_cellOf 1 = .ok (.getfield 18, 3) := by decide +kernel
theorem d_Ta_cellOf_4 : decode b_Ta_cellOf 4 = .ok (.iload_n 1, 1) := by decide +kernel
theorem d_Ta_cellOf_5 : decode b_Ta_cellOf 5 = .ok (.iaload, 1) := by decide +kernel
theorem d_Ta_cellOf_6 : decode b_Ta_cellOf 6 = .ok (.iload_n 2, 1) := by decide +kernel
theorem d_Ta_cellOf_7 : decode b_Ta_cellOf 7 = .ok (.iadd, 1) := by decide +kernel
theorem d_Ta_cellOf_8 : decode b_Ta_cellOf 8 = .ok (.bipush 6, 2) := by decide +kernel
theorem d_Ta_cellOf_10 : decode b_Ta_cellOf 10 = .ok (.imul, 1) := by decide +kernel
theorem d_Ta_cellOf_11 : decode b_Ta_cellOf 11 = .ok (.ireturn, 1) := by decide +kernel
theorem d_Ta_keyAt_0 : decode b_Ta_keyAt 0 = .ok (.aload_n 0, 1) := by decide +kernel
theorem d_Ta_keyAt_1 : decode b_Ta_keyAt 1 = .ok (.getfield 9, 3) := by decide +kernel
theorem d_Ta_keyAt_4 : decode b_Ta_keyAt 4 = .ok (.aload_n 0, 1) := by decide +kernel
theorem d_Ta_keyAt_5 : decode b_Ta_keyAt 5 = .ok (.iload_n 1, 1) := by decide +kernel
theorem d_Ta_keyAt_6 : decode b_Ta_keyAt 6 = .ok (.iload_n 2, 1) := by decide +kernel
theorem d_Ta_keyAt_7 : decode b_Ta_keyAt 7 = .ok (.invokevirtual 25, 3) := by decide +kernel
theorem d_Ta_keyAt_10 : decode b_Ta_keyAt 10 = .ok (.iaload, 1) := by decide +kernel
theorem d_Ta_keyAt_11 : decode b_Ta_keyAt 11 = .ok (.ireturn, 1) := by decide +kernel
theorem d_Ta_read_0 : decode b_Ta_read 0 = .ok (.aload_n 0, 1) := by decide +kernel
theorem d_Ta_read_1 : decode b_Ta_read 1 = .ok (.getfield 9, 3) := by decide +kernel
theorem d_Ta_read_4 : decode b_Ta_read 4 = .ok (.aload_n 0, 1) := by decide +kernel
theorem d_Ta_read_5 : decode b_Ta_read 5 = .ok (.iload_n 1, 1) := by decide +kernel
theorem d_Ta_read_6 : decode b_Ta_read 6 = .ok (.iload_n 2, 1) := by decide +kernel
theorem d_Ta_read_7 : decode b_Ta_read 7 = .ok (.invokevirtual 25, 3) := by decide +kernel
theorem d_Ta_read_10 : decode b_Ta_read 10 = .ok (.aload_n 3, 1) := by decide +kernel
theorem d_Ta_read_11 : decode b_Ta_read 11 = .ok (.iload 4, 2) := by decide +kernel
theorem d_Ta_read_13 : decode b_Ta_read 13 = .ok (.bipush 6, 2) := by decide +kernel
theorem d_Ta_read_15 : decode b_Ta_read 15 = .ok (.invokestatic 29, 3) := by decide +kernel
theorem d_Ta_read_18 : decode b_Ta_read 18 = .ok (.return_, 1) := by decide +kernel
theorem d_Ta_placeNotBelow_0 : decode b_Ta_placeNotBelow 0 = .ok (.aload_n 0, 1) := by decide +kernel
theorem d_Ta_placeNotBelow_1 : decode b_Ta_placeNotBelow 1 = .ok (.iload_n 1, 1) := by decide +kernel
theorem d_Ta_placeNotBelow_2 : decode b_Ta_placeNotBelow 2 = .ok (.invokevirtual 35, 3) := by decide +kernel
theorem d_Ta_placeNotBelow_5 : decode b_Ta_placeNotBelow 5 = .ok (.istore_n 3, 1) := by decide +kernel
theorem d_Ta_placeNotBelow_6 : decode b_Ta_placeNotBelow 6 = .ok (.iconst 0, 1) := by decide +kernel
theorem d_Ta_placeNotBelow_7 : decode b_Ta_placeNotBelow 7 = .ok (.istore 4, 2) := by decide +kernel
theorem d_Ta_placeNotBelow_9 : decode b_Ta_placeNotBelow 9 = .ok (.iload 4, 2) := by decide +kernel
theorem d_Ta_placeNotBelow_11 : decode b_Ta_placeNotBelow 11 = .ok (.iload_n 3, 1) := by decide +kernel
theorem d_Ta_placeNotBelow_12 : decode b_Ta_placeNotBelow 12 = .ok (.if_icmp .ge 20, 3) := by decide +kernel
theorem d_Ta_placeNotBelow_15 : decode b_Ta_placeNotBelow 15 = .ok (.aload_n 0, 1) := by decide +kernel
theorem d_Ta_placeNotBelow_16 : decode b_Ta_placeNotBelow 16 = .ok (.iload_n 1, 1) := by decide +kernel
theorem d_Ta_placeNotBelow_17 : decode b_Ta_placeNotBelow 17 = .ok (.iload 4, 2) := by decide +kernel
theorem d_Ta_placeNotBelow_19 : decode b_Ta_placeNotBelow 19 = .ok (.invokevirtual 38, 3) := by decide +kernel
theorem d_Ta_placeNotBelow_22 : decode b_Ta_placeNotBelow 22 = .ok (.iload_n 2, 1) := by decide +kernel
theorem d_Ta_placeNotBelow_23 : decode b_Ta_placeNotBelow 23 = .ok (.if_icmp .ge 9, 3) := by decide +kernel
theorem d_Ta_placeNotBelow_26 : decode b_Ta_placeNotBelow 26 = .ok (.iinc 4 1, 3) := by decide +kernel
theorem d_Ta_placeNotBelow_29 : decode b_Ta_placeNotBelow 29 = .ok (.goto (-20), 3) := by decide +kernel
theorem d_Ta_placeNotBelow_32 : decode b_Ta_placeNotBelow 32 = .ok (.iload 4, 2) := by decide +kernel
theorem d_Ta_placeNotBelow_34 : decode b_Ta_placeNotBelow 34 = .ok (.ireturn, 1) := by decide +kernel
theorem d_Ta_hasKeyAt_0 : decode b_Ta_hasKeyAt 0 = .ok (.iload_n 2, 1) := by decide +kernel
theorem d_Ta_hasKeyAt_1 : decode b_Ta_hasKeyAt 1 = .ok (.aload_n 0, 1) := by decide +kernel
theorem d_Ta_hasKeyAt_2 : decode b_Ta_hasKeyAt 2 = .ok (.iload_n 1, 1) := by decide +kernel
theorem d_Ta_hasKeyAt_3 : decode b_Ta_hasKeyAt 3 = .ok (.invokevirtual 35, 3) := by decide +kernel
theorem d_Ta_hasKeyAt_6 : decode b_Ta_hasKeyAt 6 = .ok (.if_icmp .ge 17, 3) := by decide +kernel
theorem d_Ta_hasKeyAt_9 : decode b_Ta_hasKeyAt 9 = .ok (.aload_n 0, 1) := by decide +kernel
theorem d_Ta_hasKeyAt_10 : decode b_Ta_hasKeyAt 10 = .ok (.iload_n 1, 1) := by decide +kernel
theorem d_Ta_hasKeyAt_11 : decode b_Ta_hasKeyAt 11 = .ok (.iload_n 2, 1) := by decide +kernel
theorem d_Ta_hasKeyAt_12 : decode b_Ta_hasKeyAt 12 = .ok (.invokevirtual 38, 3) := by decide +kernel
theorem d_Ta_hasKeyAt_15 : decode b_Ta_hasKeyAt 15 = .ok (.iload_n 3, 1) := by decide +kernel
theorem d_Ta_hasKeyAt_16 : decode b_Ta_hasKeyAt 16 = .ok (.if_icmp .ne 7, 3) := by decide +kernel
theorem d_Ta_hasKeyAt_19 : decode b_Ta_hasKeyAt 19 = .ok (.iconst 1, 1) := by decide +kernel
theorem d_Ta_hasKeyAt_20 : decode b_Ta_hasKeyAt 20 = .ok (.goto 4, 3) := by decide +kernel
theorem d_Ta_hasKeyAt_23 : decode b_Ta_hasKeyAt 23 = .ok (.iconst 0, 1) := by decide +kernel
theorem d_Ta_hasKeyAt_24 : decode b_Ta_hasKeyAt 24 = .ok (.ireturn, 1) := by decide +kernel
theorem d_Ta_placeNearest_0 : decode b_Ta_placeNearest 0 = .ok (.aload_n 0, 1) := by decide +kernel
theorem d_Ta_placeNearest_1 : decode b_Ta_placeNearest 1 = .ok (.iload_n 1, 1) := by decide +kernel
theorem d_Ta_placeNearest_2 : decode b_Ta_placeNearest 2 = .ok (.iload_n 2, 1) := by decide +kernel
theorem d_Ta_placeNearest_3 : decode b_Ta_placeNearest 3 = .ok (.invokevirtual 41, 3) := by decide +kernel
theorem d_Ta_placeNearest_6 : decode b_Ta_placeNearest 6 = .ok (.istore 4, 2) := by decide +kernel
theorem d_Ta_placeNearest_8 : decode b_Ta_placeNearest 8 = .ok (.iload_n 3, 1) := by decide +kernel
theorem d_Ta_placeNearest_9 : decode b_Ta_placeNearest 9 = .ok (.ifCond .eq 20, 3) := by decide +kernel
theorem d_Ta_placeNearest_12 : decode b_Ta_placeNearest 12 = .ok (.iload 4, 2) := by decide +kernel
theorem d_Ta_placeNearest_14 : decode b_Ta_placeNearest 14 = .ok (.aload_n 0, 1) := by decide +kernel
theorem d_Ta_placeNearest_15 : decode b_Ta_placeNearest 15 = .ok (.iload_n 1, 1) := by decide +kernel
theorem d_Ta_placeNearest_16 : decode b_Ta_placeNearest 16 = .ok (.invokevirtual 35, 3) := by decide +kernel
theorem d_Ta_placeNearest_19 : decode b_Ta_placeNearest 19 = .ok (.if_icmp .ge 8, 3) := by decide +kernel
theorem d_Ta_placeNearest_22 : decode b_Ta_placeNearest 22 = .ok (.iload 4, 2) := by decide +kernel
theorem d_Ta_placeNearest_24 : decode b_Ta_placeNearest 24 = .ok (.goto 4, 3) := by decide +kernel
theorem d_Ta_placeNearest_27 : decode b_Ta_placeNearest 27 = .ok (.iconst (-1), 1) := by decide +kernel
theorem d_Ta_placeNearest_28 : decode b_Ta_placeNearest 28 = .ok (.ireturn, 1) := by decide +kernel
theorem d_Ta_placeNearest_29 : decode b_Ta_placeNearest 29 = .ok (.aload_n 0, 1) := by decide +kernel
theorem d_Ta_placeNearest_30 : decode b_Ta_placeNearest 30 = .ok (.iload_n 1, 1) := by decide +kernel
theorem d_Ta_placeNearest_31 : decode b_Ta_placeNearest 31 = .ok (.iload 4, 2) := by decide +kernel
theorem d_Ta_placeNearest_33 : decode b_Ta_placeNearest 33 = .ok (.iload_n 2, 1) := by decide +kernel
theorem d_Ta_placeNearest_34 : decode b_Ta_placeNearest 34 = .ok (.invokevirtual 44, 3) := by decide +kernel
theorem d_Ta_placeNearest_37 : decode b_Ta_placeNearest 37 = .ok (.ifCond .eq 6, 3) := by decide +kernel
theorem d_Ta_placeNearest_40 : decode b_Ta_placeNearest 40 = .ok (.iload 4, 2) := by decide +kernel
theorem d_Ta_placeNearest_42 : decode b_Ta_placeNearest 42 = .ok (.ireturn, 1) := by decide +kernel
theorem d_Ta_placeNearest_43 : decode b_Ta_placeNearest 43 = .ok (.iload 4, 2) := by decide +kernel
theorem d_Ta_placeNearest_45 : decode b_Ta_placeNearest 45 = .ok (.ifCond .le 10, 3) := by decide +kernel
theorem d_Ta_placeNearest_48 : decode b_Ta_placeNearest 48 = .ok (.iload 4, 2) := by decide +kernel
theorem d_Ta_placeNearest_50 : decode b_Ta_placeNearest 50 = .ok (.iconst 1, 1) := by decide +kernel
theorem d_Ta_placeNearest_51 : decode b_Ta_placeNearest 51 = .ok (.isub, 1) := by decide +kernel
theorem d_Ta_placeNearest_52 : decode b_Ta_placeNearest 52 = .ok (.goto 4, 3) := by decide +kernel
theorem d_Ta_placeNearest_55 : decode b_Ta_placeNearest 55 = .ok (.iconst (-1), 1) := by decide +kernel
theorem d_Ta_placeNearest_56 : decode b_Ta_placeNearest 56 = .ok (.ireturn, 1) := by decide +kernel
theorem d_Ta_create_0 : decode b_Ta_create 0 = .ok (.aload_n 0, 1) := by decide +kernel
theorem d_Ta_create_1 : decode b_Ta_create 1 = .ok (.iload_n 1, 1) := by decide +kernel
theorem d_Ta_create_2 : decode b_Ta_create 2 = .ok (.invokevirtual 48, 3) := by decide +kernel
theorem d_Ta_create_5 : decode b_Ta_create 5 = .ok (.ifCond .eq 6, 3) := by decide +kernel
theorem d_Ta_create_8 : decode b_Ta_create 8 = .ok (.bipush (-3), 2) := by decide +kernel
theorem d_Ta_create_10 : decode b_Ta_create 10 = .ok (.ireturn, 1) := by decide +kernel
theorem d_Ta_create_11 : decode b_Ta_create 11 = .ok (.aload_n 0, 1) := by decide +kernel
theorem d_Ta_create_12 : decode b_Ta_create 12 = .ok (.getfield 15, 3) := by decide +kernel
theorem d_Ta_create_15 : decode b_Ta_create 15 = .ok (.iload_n 1, 1) := by decide +kernel
theorem d_Ta_create_16 : decode b_Ta_create 16 = .ok (.iload_n 2, 1) := by decide +kernel
theorem d_Ta_create_17 : decode b_Ta_create 17 = .ok (.iastore, 1) := by decide +kernel
theorem d_Ta_create_18 : decode b_Ta_create 18 = .ok (.iconst 0, 1) := by decide +kernel
theorem d_Ta_create_19 : decode b_Ta_create 19 = .ok (.ireturn, 1) := by decide +kernel
theorem d_Ta_insert_0 : decode b_Ta_insert 0 = .ok (.aload_n 0, 1) := by decide +kernel
theorem d_Ta_insert_1 : decode b_Ta_insert 1 = .ok (.iload_n 1, 1) := by decide +kernel
theorem d_Ta_insert_2 : decode b_Ta_insert 2 = .ok (.aload_n 2, 1) := by decide +kernel
theorem d_Ta_insert_3 : decode b_Ta_insert 3 = .ok (.iconst 0, 1) := by decide +kernel
theorem d_Ta_insert_4 : decode b_Ta_insert 4 = .ok (.iaload, 1) := by decide +kernel
theorem d_Ta_insert_5 : decode b_Ta_insert 5 = .ok (.invokevirtual 41, 3) := by decide +kernel
theorem d_Ta_insert_8 : decode b_Ta_insert 8 = .ok (.istore_n 3, 1) := by decide +kernel
theorem d_Ta_insert_9 : decode b_Ta_insert 9 = .ok (.aload_n 0, 1) := by decide +kernel
theorem d_Ta_insert_10 : decode b_Ta_insert 10 = .ok (.iload_n 1, 1) := by decide +kernel
theorem d_Ta_insert_11 : decode b_Ta_insert 11 = .ok (.iload_n 3, 1) := by decide +kernel
theorem d_Ta_insert_12 : decode b_Ta_insert 12 = .ok (.aload_n 2, 1) := by decide +kernel
theorem d_Ta_insert_13 : decode b_Ta_insert 13 = .ok (.iconst 0, 1) := by decide +kernel
theorem d_Ta_insert_14 : decode b_Ta_insert 14 = .ok (.iaload, 1) := by decide +kernel
theorem d_Ta_insert_15 : decode b_Ta_insert 15 = .ok (.invokevirtual 44, 3) := by decide +kernel
theorem d_Ta_insert_18 : decode b_Ta_insert 18 = .ok (.ifCond .eq 5, 3) := by decide +kernel
theorem d_Ta_insert_21 : decode b_Ta_insert 21 = .ok (.iconst (-1), 1) := by decide +kernel
theorem d_Ta_insert_22 : decode b_Ta_insert 22 = .ok (.ireturn, 1) := by decide +kernel
theorem d_Ta_insert_23 : decode b_Ta_insert 23 = .ok (.aload_n 0, 1) := by decide +kernel
theorem d_Ta_insert_24 : decode b_Ta_insert 24 = .ok (.invokevirtual 52, 3) := by decide +kernel
theorem d_Ta_insert_27 : decode b_Ta_insert 27 = .ok (.sipush 400, 3) := by decide +kernel
theorem d_Ta_insert_30 : decode b_Ta_insert 30 = .ok (.if_icmp .lt 6, 3) := by decide +kernel
theorem d_Ta_insert_33 : decode b_Ta_insert 33 = .ok (.bipush (-2), 2) := by decide +kernel
theorem d_Ta_insert_35 : decode b_Ta_insert 35 = .ok (.ireturn, 1) := by decide +kernel
theorem d_Ta_insert_36 : decode b_Ta_insert 36 = .ok (.aload_n 0, 1) := by decide +kernel
theorem d_Ta_insert_37 : decode b_Ta_insert 37 = .ok (.iload_n 1, 1) := by decide +kernel
theorem d_Ta_insert_38 : decode b_Ta_insert 38 = .ok (.iload_n 3, 1) := by decide +kernel
theorem d_Ta_insert_39 : decode b_Ta_insert 39 = .ok (.invokevirtual 25, 3) := by decide +kernel
theorem d_Ta_insert_42 : decode b_Ta_insert 42 = .ok (.istore 4, 2) := by decide +kernel
theorem d_Ta_insert_44 : decode b_Ta_insert 44 = .ok (.aload_n 0, 1) := by decide +kernel
theorem d_Ta_insert_45 : decode b_Ta_insert 45 = .ok (.getfield 9, 3) := by decide +kernel
theorem d_Ta_insert_48 : decode b_Ta_insert 48 = .ok (.iload 4, 2) := by decide +kernel
theorem d_Ta_insert_50 : decode b_Ta_insert 50 = .ok (.aload_n 0, 1) := by decide +kernel
theorem d_Ta_insert_51 : decode b_Ta_insert 51 = .ok (.getfield 9, 3) := by decide +kernel
theorem d_Ta_insert_54 : decode b_Ta_insert 54 = .ok (.iload 4, 2) := by decide +kernel
theorem d_Ta_insert_56 : decode b_Ta_insert 56 = .ok (.bipush 6, 2) := by decide +kernel
theorem d_Ta_insert_58 : decode b_Ta_insert 58 = .ok (.iadd, 1) := by decide +kernel
theorem d_Ta_insert_59 : decode b_Ta_insert 59 = .ok (.aload_n 0, 1) := by decide +kernel
theorem d_Ta_insert_60 : decode b_Ta_insert 60 = .ok (.invokevirtual 52, 3) := by decide +kernel
theorem d_Ta_insert_63 : decode b_Ta_insert 63 = .ok (.bipush 6, 2) := by decide +kernel
theorem d_Ta_insert_65 : decode b_Ta_insert 65 = .ok (.imul, 1) := by decide +kernel
theorem d_Ta_insert_66 : decode b_Ta_insert 66 = .ok (.iload 4, 2) := by decide +kernel
theorem d_Ta_insert_68 : decode b_Ta_insert 68 = .ok (.isub, 1) := by decide +kernel
theorem d_Ta_insert_69 : decode b_Ta_insert 69 = .ok (.invokestatic 29, 3) := by decide +kernel
theorem d_Ta_insert_72 : decode b_Ta_insert 72 = .ok (.aload_n 2, 1) := by decide +kernel
theorem d_Ta_insert_73 : decode b_Ta_insert 73 = .ok (.iconst 0, 1) := by decide +kernel
theorem d_Ta_insert_74 : decode b_Ta_insert 74 = .ok (.aload_n 0, 1) := by decide +kernel
theorem d_Ta_insert_75 : decode b_Ta_insert 75 = .ok (.getfield 9, 3) := by decide +kernel
theorem d_Ta_insert_78 : decode b_Ta_insert 78 = .ok (.iload 4, 2) := by decide +kernel
theorem d_Ta_insert_80 : decode b_Ta_insert 80 = .ok (.bipush 6, 2) := by decide +kernel
theorem d_Ta_insert_82 : decode b_Ta_insert 82 = .ok (.invokestatic 29, 3) := by decide +kernel
theorem d_Ta_insert_85 : decode b_Ta_insert 85 = .ok (.aload_n 0, 1) := by decide +kernel
theorem d_Ta_insert_86 : decode b_Ta_insert 86 = .ok (.iload_n 1, 1) := by decide +kernel
theorem d_Ta_insert_87 : decode b_Ta_insert 87 = .ok (.iconst 1, 1) := by decide +kernel
theorem d_Ta_insert_88 : decode b_Ta_insert 88 = .ok (.invokevirtual 56, 3) := by decide +kernel
theorem d_Ta_insert_91 : decode b_Ta_insert 91 = .ok (.iconst 0, 1) := by decide +kernel
theorem d_Ta_insert_92 : decode b_Ta_insert 92 = .ok (.ireturn, 1) := by decide +kernel
