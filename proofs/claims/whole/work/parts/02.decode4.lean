theorem d_Op_init_0 : decode b_Op_init 0 = .ok (.aload_n 0, 1) := by decide +kernel
theorem d_Op_init_1 : decode b_Op_init 1 = .ok (.invokespecial 3, 3) := by decide +kernel
theorem d_Op_init_4 : decode b_Op_init 4 = .ok (.aload_n 0, 1) := by decide +kernel
theorem d_Op_init_5 : decode b_Op_init 5 = .ok (.iload_n 1, 1) := by decide +kernel
theorem d_Op_init_6 : decode b_Op_init 6 = .ok (.putfield 9, 3) := by decide +kernel
theorem d_Op_init_9 : decode b_Op_init 9 = .ok (.aload_n 0, 1) := by decide +kernel
theorem d_Op_init_10 : decode b_Op_init 10 = .ok (.iload_n 2, 1) := by decide +kernel
theorem d_Op_init_11 : decode b_Op_init 11 = .ok (.putfield 15, 3) := by decide +kernel
theorem d_Op_init_14 : decode b_Op_init 14 = .ok (.return_, 1) := by decide +kernel
theorem d_Op_isThere_0 : decode b_Op_isThere 0 = .ok (.aload_n 0, 1) := by decide +kernel
theorem d_Op_isThere_1 : decode b_Op_isThere 1 = .ok (.getfield 9, 3) := by decide +kernel
theorem d_Op_isThere_4 : decode b_Op_isThere 4 = .ok (.iconst 3, 1) := by decide +kernel
theorem d_Op_isThere_5 : decode b_Op_isThere 5 = .ok (.if_icmp .ne 5, 3) := by decide +kernel
theorem d_Op_isThere_8 : decode b_Op_isThere 8 = .ok (.iconst 1, 1) := by decide +kernel
theorem d_Op_isThere_9 : decode b_Op_isThere 9 = .ok (.ireturn, 1) := by decide +kernel
theorem d_Op_isThere_10 : decode b_Op_isThere 10 = .ok (.aload_n 0, 1) := by decide +kernel
theorem d_Op_isThere_11 : decode b_Op_isThere 11 = .ok (.getfield 15, 3) := by decide +kernel
theorem d_Op_isThere_14 : decode b_Op_isThere 14 = .ok (.bipush 10, 2) := by decide +kernel
theorem d_Op_isThere_16 : decode b_Op_isThere 16 = .ok (.if_icmp .ge 19, 3) := by decide +kernel
theorem d_Op_isThere_19 : decode b_Op_isThere 19 = .ok (.aload_n 0, 1) := by decide +kernel
theorem d_Op_isThere_20 : decode b_Op_isThere 20 = .ok (.getfield 15, 3) := by decide +kernel
theorem d_Op_isThere_23 : decode b_Op_isThere 23 = .ok (.iload_n 1, 1) := by decide +kernel
theorem d_Op_isThere_24 : decode b_Op_isThere 24 = .ok (.if_icmp .ge 7, 3) := by decide +kernel
theorem d_Op_isThere_27 : decode b_Op_isThere 27 = .ok (.iconst 1, 1) := by decide +kernel
theorem d_Op_isThere_28 : decode b_Op_isThere 28 = .ok (.goto 23, 3) := by decide +kernel
theorem d_Op_isThere_31 : decode b_Op_isThere 31 = .ok (.iconst 0, 1) := by decide +kernel
theorem d_Op_isThere_32 : decode b_Op_isThere 32 = .ok (.goto 19, 3) := by decide +kernel
theorem d_Op_isThere_35 : decode b_Op_isThere 35 = .ok (.aload_n 0, 1) := by decide +kernel
theorem d_Op_isThere_36 : decode b_Op_isThere 36 = .ok (.getfield 15, 3) := by decide +kernel
theorem d_Op_isThere_39 : decode b_Op_isThere 39 = .ok (.bipush 10, 2) := by decide +kernel
theorem d_Op_isThere_41 : decode b_Op_isThere 41 = .ok (.isub, 1) := by decide +kernel
theorem d_Op_isThere_42 : decode b_Op_isThere 42 = .ok (.iload_n 2, 1) := by decide +kernel
theorem d_Op_isThere_43 : decode b_Op_isThere 43 = .ok (.if_icmp .ge 7, 3) := by decide +kernel
theorem d_Op_isThere_46 : decode b_Op_isThere 46 = .ok (.iconst 1, 1) := by decide +kernel
theorem d_Op_isThere_47 : decode b_Op_isThere 47 = .ok (.goto 4, 3) := by decide +kernel
theorem d_Op_isThere_50 : decode b_Op_isThere 50 = .ok (.iconst 0, 1) := by decide +kernel
theorem d_Op_isThere_51 : decode b_Op_isThere 51 = .ok (.ireturn, 1) := by decide +kernel
theorem d_Op_value_0 : decode b_Op_value 0 = .ok (.aload_n 0, 1) := by decide +kernel
theorem d_Op_value_1 : decode b_Op_value 1 = .ok (.getfield 9, 3) := by decide +kernel
theorem d_Op_value_4 : decode b_Op_value 4 = .ok (.iconst 3, 1) := by decide +kernel
theorem d_Op_value_5 : decode b_Op_value 5 = .ok (.if_icmp .ne 10, 3) := by decide +kernel
theorem d_Op_value_8 : decode b_Op_value 8 = .ok (.aload_n 0, 1) := by decide +kernel
theorem d_Op_value_9 : decode b_Op_value 9 = .ok (.getfield 15, 3) := by decide +kernel
theorem d_Op_value_12 : decode b_Op_value 12 = .ok (.goto 9, 3) := by decide +kernel
theorem d_Op_value_15 : decode b_Op_value 15 = .ok (.aload_n 1, 1) := by decide +kernel
theorem d_Op_value_16 : decode b_Op_value 16 = .ok (.aload_n 0, 1) := by decide +kernel
theorem d_Op_value_17 : decode b_Op_value 17 = .ok (.getfield 15, 3) := by decide +kernel
theorem d_Op_value_20 : decode b_Op_value 20 = .ok (.iaload, 1) := by decide +kernel
theorem d_Op_value_21 : decode b_Op_value 21 = .ok (.ireturn, 1) := by decide +kernel
theorem d_Pa_init_0 : decode b_Pa_init 0 = .ok (.aload_n 0, 1) := by decide +kernel
theorem d_Pa_init_1 : decode b_Pa_init 1 = .ok (.invokespecial 3, 3) := by decide +kernel
theorem d_Pa_init_4 : decode b_Pa_init 4 = .ok (.aload_n 0, 1) := by decide +kernel
theorem d_Pa_init_5 : decode b_Pa_init 5 = .ok (.new 9, 3) := by decide +kernel
theorem d_Pa_init_8 : decode b_Pa_init 8 = .ok (.dup, 1) := by decide +kernel
theorem d_Pa_init_9 : decode b_Pa_init 9 = .ok (.invokespecial 11, 3) := by decide +kernel
theorem d_Pa_init_12 : decode b_Pa_init 12 = .ok (.putfield 12, 3) := by decide +kernel
theorem d_Pa_init_15 : decode b_Pa_init 15 = .ok (.aload_n 0, 1) := by decide +kernel
theorem d_Pa_init_16 : decode b_Pa_init 16 = .ok (.aload_n 1, 1) := by decide +kernel
theorem d_Pa_init_17 : decode b_Pa_init 17 = .ok (.putfield 18, 3) := by decide +kernel
theorem d_Pa_init_20 : decode b_Pa_init 20 = .ok (.return_, 1) := by decide +kernel
theorem d_Pa_parse_0 : decode b_Pa_parse 0 = .ok (.aload_n 0, 1) := by decide +kernel
theorem d_Pa_parse_1 : decode b_Pa_parse 1 = .ok (.getfield 12, 3) := by decide +kernel
theorem d_Pa_parse_4 : decode b_Pa_parse 4 = .ok (.aload_n 0, 1) := by decide +kernel
theorem d_Pa_parse_5 : decode b_Pa_parse 5 = .ok (.iconst 0, 1) := by decide +kernel
theorem d_Pa_parse_6 : decode b_Pa_parse 6 = .ok (.iconst 3, 1) := by decide +kernel
theorem d_Pa_parse_7 : decode b_Pa_parse 7 = .ok (.invokevirtual 22, 3) := by decide +kernel
theorem d_Pa_parse_10 : decode b_Pa_parse 10 = .ok (.putfield 26, 3) := by decide +kernel
theorem d_Pa_parse_13 : decode b_Pa_parse 13 = .ok (.iconst 0, 1) := by decide +kernel
theorem d_Pa_parse_14 : decode b_Pa_parse 14 = .ok (.istore_n 1, 1) := by decide +kernel
theorem d_Pa_parse_15 : decode b_Pa_parse 15 = .ok (.aload_n 0, 1) := by decide +kernel
theorem d_Pa_parse_16 : decode b_Pa_parse 16 = .ok (.getfield 12, 3) := by decide +kernel
theorem d_Pa_parse_19 : decode b_Pa_parse 19 = .ok (.getfield 26, 3) := by decide +kernel
theorem d_Pa_parse_22 : decode b_Pa_parse 22 = .ok (.tableswitch 136 0 3 #[30, 53, 76, 99], 30) := by decide +kernel
theorem d_Pa_parse_52 : decode b_Pa_parse 52 = .ok (.aload_n 0, 1) := by decide +kernel
theorem d_Pa_parse_53 : decode b_Pa_parse 53 = .ok (.invokevirtual 30, 3) := by decide +kernel
theorem d_Pa_parse_56 : decode b_Pa_parse 56 = .ok (.ifCond .eq 14, 3) := by decide +kernel
theorem d_Pa_parse_59 : decode b_Pa_parse 59 = .ok (.aload_n 0, 1) := by decide +kernel
theorem d_Pa_parse_60 : decode b_Pa_parse 60 = .ok (.invokevirtual 34, 3) := by decide +kernel
theorem d_Pa_parse_63 : decode b_Pa_parse 63 = .ok (.ifCond .eq 7, 3) := by decide +kernel
theorem d_Pa_parse_66 : decode b_Pa_parse 66 = .ok (.iconst 1, 1) := by decide +kernel
theorem d_Pa_parse_67 : decode b_Pa_parse 67 = .ok (.goto 4, 3) := by decide +kernel
theorem d_Pa_parse_70 : decode b_Pa_parse 70 = .ok (.iconst 0, 1) := by decide +kernel
theorem d_Pa_parse_71 : decode b_Pa_parse 71 = .ok (.istore_n 1, 1) := by decide +kernel
theorem d_Pa_parse_72 : decode b_Pa_parse 72 = .ok (.goto 86, 3) := by decide +kernel
theorem d_Pa_parse_75 : decode b_Pa_parse 75 = .ok (.aload_n 0, 1) := by decide +kernel
theorem d_Pa_parse_76 : decode b_Pa_parse 76 = .ok (.invokevirtual 30, 3) := by decide +kernel
theorem d_Pa_parse_79 : decode b_Pa_parse 79 = .ok (.ifCond .eq 14, 3) := by decide +kernel
theorem d_Pa_parse_82 : decode b_Pa_parse 82 = .ok (.aload_n 0, 1) := by decide +kernel
theorem d_Pa_parse_83 : decode b_Pa_parse 83 = .ok (.invokevirtual 37, 3) := by decide +kernel
theorem d_Pa_parse_86 : decode b_Pa_parse 86 = .ok (.ifCond .eq 7, 3) := by decide +kernel
theorem d_Pa_parse_89 : decode b_Pa_parse 89 = .ok (.iconst 1, 1) := by decide +kernel
theorem d_Pa_parse_90 : decode b_Pa_parse 90 = .ok (.goto 4, 3) := by decide +kernel
theorem d_Pa_parse_93 : decode b_Pa_parse 93 = .ok (.iconst 0, 1) := by decide +kernel
theorem d_Pa_parse_94 : decode b_Pa_parse 94 = .ok (.istore_n 1, 1) := by decide +kernel
theorem d_Pa_parse_95 : decode b_Pa_parse 95 = .ok (.goto 63, 3) := by decide +kernel
theorem d_Pa_parse_98 : decode b_Pa_parse 98 = .ok (.aload_n 0, 1) := by decide +kernel
theorem d_Pa_parse_99 : decode b_Pa_parse 99 = .ok (.invokevirtual 30, 3) := by decide +kernel
theorem d_Pa_parse_102 : decode b_Pa_parse 102 = .ok (.ifCond .eq 14, 3) := by decide +kernel
theorem d_Pa_parse_105 : decode b_Pa_parse 105 = .ok (.aload_n 0, 1) := by decide +kernel
theorem d_Pa_parse_106 : decode b_Pa_parse 106 = .ok (.invokevirtual 40, 3) := by decide +kernel
theorem d_Pa_parse_109 : decode b_Pa_parse 109 = .ok (.ifCond .eq 7, 3) := by decide +kernel
theorem d_Pa_parse_112 : decode b_Pa_parse 112 = .ok (.iconst 1, 1) := by decide +kernel
theorem d_Pa_parse_113 : decode b_Pa_parse 113 = .ok (.goto 4, 3) := by decide +kernel
theorem d_Pa_parse_116 : decode b_Pa_parse 116 = .ok (.iconst 0, 1) := by decide +kernel
theorem d_Pa_parse_117 : decode b_Pa_parse 117 = .ok (.istore_n 1, 1) := by decide +kernel
theorem d_Pa_parse_118 : decode b_Pa_parse 118 = .ok (.goto 40, 3) := by decide +kernel
theorem d_Pa_parse_121 : decode b_Pa_parse 121 = .ok (.aload_n 0, 1) := by decide +kernel
theorem d_Pa_parse_122 : decode b_Pa_parse 122 = .ok (.invokevirtual 43, 3) := by decide +kernel
theorem d_Pa_parse_125 : decode b_Pa_parse 125 = .ok (.ifCond .eq 28, 3) := by decide +kernel
theorem d_Pa_parse_128 : decode b_Pa_parse 128 = .ok (.aload_n 0, 1) := by decide +kernel
theorem d_Pa_parse_129 : decode b_Pa_parse 129 = .ok (.invokevirtual 46, 3) := by decide +kernel
theorem d_Pa_parse_132 : decode b_Pa_parse 132 = .ok (.ifCond .eq 21, 3) := by decide +kernel
theorem d_Pa_parse_135 : decode b_Pa_parse 135 = .ok (.aload_n 0, 1) := by decide +kernel
theorem d_Pa_parse_136 : decode b_Pa_parse 136 = .ok (.invokevirtual 40, 3) := by decide +kernel
theorem d_Pa_parse_139 : decode b_Pa_parse 139 = .ok (.ifCond .eq 14, 3) := by decide +kernel
theorem d_Pa_parse_142 : decode b_Pa_parse 142 = .ok (.aload_n 0, 1) := by decide +kernel
theorem d_Pa_parse_143 : decode b_Pa_parse 143 = .ok (.invokevirtual 49, 3) := by decide +kernel
theorem d_Pa_parse_146 : decode b_Pa_parse 146 = .ok (.ifCond .eq 7, 3) := by decide +kernel
theorem d_Pa_parse_149 : decode b_Pa_parse 149 = .ok (.iconst 1, 1) := by decide +kernel
theorem d_Pa_parse_150 : decode b_Pa_parse 150 = .ok (.goto 4, 3) := by decide +kernel
theorem d_Pa_parse_153 : decode b_Pa_parse 153 = .ok (.iconst 0, 1) := by decide +kernel
theorem d_Pa_parse_154 : decode b_Pa_parse 154 = .ok (.istore_n 1, 1) := by decide +kernel
theorem d_Pa_parse_155 : decode b_Pa_parse 155 = .ok (.goto 3, 3) := by decide +kernel
theorem d_Pa_parse_158 : decode b_Pa_parse 158 = .ok (.iload_n 1, 1) := by decide +kernel
theorem d_Pa_parse_159 : decode b_Pa_parse 159 = .ok (.ifCond .eq 24, 3) := by decide +kernel
theorem d_Pa_parse_162 : decode b_Pa_parse 162 = .ok (.aload_n 0, 1) := by decide +kernel
theorem d_Pa_parse_163 : decode b_Pa_parse 163 = .ok (.getfield 52, 3) := by decide +kernel
theorem d_Pa_parse_166 : decode b_Pa_parse 166 = .ok (.aload_n 0, 1) := by decide +kernel
theorem d_Pa_parse_167 : decode b_Pa_parse 167 = .ok (.getfield 18, 3) := by decide +kernel
theorem d_Pa_parse_170 : decode b_Pa_parse 170 = .ok (.getfield 55, 3) := by decide +kernel
theorem d_Pa_parse_173 : decode b_Pa_parse 173 = .ok (.if_icmp .ne 10, 3) := by decide +kernel
theorem d_Pa_parse_176 : decode b_Pa_parse 176 = .ok (.aload_n 0, 1) := by decide +kernel
theorem d_Pa_parse_177 : decode b_Pa_parse 177 = .ok (.getfield 12, 3) := by decide +kernel
theorem d_Pa_parse_180 : decode b_Pa_parse 180 = .ok (.goto 4, 3) := by decide +kernel
theorem d_Pa_parse_183 : decode b_Pa_parse 183 = .ok (.aconst_null, 1) := by decide +kernel
theorem d_Pa_parse_184 : decode b_Pa_parse 184 = .ok (.areturn, 1) := by decide +kernel
theorem d_Pa_takeFrom_0 : decode b_Pa_takeFrom 0 = .ok (.aload_n 0, 1) := by decide +kernel
theorem d_Pa_takeFrom_1 : decode b_Pa_takeFrom 1 = .ok (.bipush 7, 2) := by decide +kernel
theorem d_Pa_takeFrom_3 : decode b_Pa_takeFrom 3 = .ok (.invokevirtual 60, 3) := by decide +kernel
theorem d_Pa_takeFrom_6 : decode b_Pa_takeFrom 6 = .ok (.ifCond .eq 10, 3) := by decide +kernel
theorem d_Pa_takeFrom_9 : decode b_Pa_takeFrom 9 = .ok (.aload_n 0, 1) := by decide +kernel
theorem d_Pa_takeFrom_10 : decode b_Pa_takeFrom 10 = .ok (.invokevirtual 30, 3) := by decide +kernel
theorem d_Pa_takeFrom_13 : decode b_Pa_takeFrom 13 = .ok (.ifCond .ne 5, 3) := by decide +kernel
theorem d_Pa_takeFrom_16 : decode b_Pa_takeFrom 16 = .ok (.iconst 0, 1) := by decide +kernel
theorem d_Pa_takeFrom_17 : decode b_Pa_takeFrom 17 = .ok (.ireturn, 1) := by decide +kernel
theorem d_Pa_takeFrom_18 : decode b_Pa_takeFrom 18 = .ok (.aload_n 0, 1) := by decide +kernel
theorem d_Pa_takeFrom_19 : decode b_Pa_takeFrom 19 = .ok (.getfield 12, 3) := by decide +kernel
theorem d_Pa_takeFrom_22 : decode b_Pa_takeFrom 22 = .ok (.aload_n 0, 1) := by decide +kernel
theorem d_Pa_takeFrom_23 : decode b_Pa_takeFrom 23 = .ok (.invokevirtual 64, 3) := by decide +kernel
theorem d_Pa_takeFrom_26 : decode b_Pa_takeFrom 26 = .ok (.putfield 68, 3) := by decide +kernel
theorem d_Pa_takeFrom_29 : decode b_Pa_takeFrom 29 = .ok (.iconst 1, 1) := by decide +kernel
theorem d_Pa_takeFrom_30 : decode b_Pa_takeFrom 30 = .ok (.ireturn, 1) := by decide +kernel
theorem d_Pa_takeOrder_0 : decode b_Pa_takeOrder 0 = .ok (.aload_n 0, 1) := by decide +kernel
theorem d_Pa_takeOrder_1 : decode b_Pa_takeOrder 1 = .ok (.getfield 12, 3) := by decide +kernel
theorem d_Pa_takeOrder_4 : decode b_Pa_takeOrder 4 = .ok (.aload_n 0, 1) := by decide +kernel
theorem d_Pa_takeOrder_5 : decode b_Pa_takeOrder 5 = .ok (.bipush 13, 2) := by decide +kernel
theorem d_Pa_takeOrder_7 : decode b_Pa_takeOrder 7 = .ok (.invokevirtual 60, 3) := by decide +kernel
theorem d_Pa_takeOrder_10 : decode b_Pa_takeOrder 10 = .ok (.putfield 71, 3) := by decide +kernel
theorem d_Pa_takeOrder_13 : decode b_Pa_takeOrder 13 = .ok (.iconst 1, 1) := by decide +kernel
theorem d_Pa_takeOrder_14 : decode b_Pa_takeOrder 14 = .ok (.ireturn, 1) := by decide +kernel
theorem d_Pa_takeWord_0 : decode b_Pa_takeWord 0 = .ok (.aload_n 0, 1) := by decide +kernel
theorem d_Pa_takeWord_1 : decode b_Pa_takeWord 1 = .ok (.iload_n 1, 1) := by decide +kernel
theorem d_Pa_takeWord_2 : decode b_Pa_takeWord 2 = .ok (.iload_n 1, 1) := by decide +kernel
theorem d_Pa_takeWord_3 : decode b_Pa_takeWord 3 = .ok (.invokevirtual 22, 3) := by decide +kernel
theorem d_Pa_takeWord_6 : decode b_Pa_takeWord 6 = .ok (.iload_n 1, 1) := by decide +kernel
theorem d_Pa_takeWord_7 : decode b_Pa_takeWord 7 = .ok (.if_icmp .ne 7, 3) := by decide +kernel
theorem d_Pa_takeWord_10 : decode b_Pa_takeWord 10 = .ok (.iconst 1, 1) := by decide +kernel
theorem d_Pa_takeWord_11 : decode b_Pa_takeWord 11 = .ok (.goto 4, 3) := by decide +kernel
theorem d_Pa_takeWord_14 : decode b_Pa_takeWord 14 = .ok (.iconst 0, 1) := by decide +kernel
theorem d_Pa_takeWord_15 : decode b_Pa_takeWord 15 = .ok (.ireturn, 1) := by decide +kernel
theorem d_Pa_takeWordBetween_0 : decode b_Pa_takeWordBetween 0 = .ok (.aload_n 0, 1) := by decide +kernel
theorem d_Pa_takeWordBetween_1 : decode b_Pa_takeWordBetween 1 = .ok (.getfield 18, 3) := by decide +kernel
theorem d_Pa_takeWordBetween_4 : decode b_Pa_takeWordBetween 4 = .ok (.aload_n 0, 1) := by decide +kernel
theorem d_Pa_takeWordBetween_5 : decode b_Pa_takeWordBetween 5 = .ok (.getfield 52, 3) := by decide +kernel
theorem d_Pa_takeWordBetween_8 : decode b_Pa_takeWordBetween 8 = .ok (.iconst 0, 1) := by decide +kernel
theorem d_Pa_takeWordBetween_9 : decode b_Pa_takeWordBetween 9 = .ok (.invokevirtual 75, 3) := by decide +kernel
theorem d_Pa_takeWordBetween_12 : decode b_Pa_takeWordBetween 12 = .ok (.ifCond .eq 35, 3) := by decide +kernel
theorem d_Pa_takeWordBetween_15 : decode b_Pa_takeWordBetween 15 = .ok (.aload_n 0, 1) := by decide +kernel
theorem d_Pa_takeWordBetween_16 : decode b_Pa_takeWordBetween 16 = .ok (.getfield 18, 3) := by decide +kernel
theorem d_Pa_takeWordBetween_19 : decode b_Pa_takeWordBetween 19 = .ok (.getfield 79, 3) := by decide +kernel
theorem d_Pa_takeWordBetween_22 : decode b_Pa_takeWordBetween 22 = .ok (.aload_n 0, 1) := by decide +kernel
theorem d_Pa_takeWordBetween_23 : decode b_Pa_takeWordBetween 23 = .ok (.getfield 52, 3) := by decide +kernel
theorem d_Pa_takeWordBetween_26 : decode b_Pa_takeWordBetween 26 = .ok (.iaload, 1) := by decide +kernel
theorem d_Pa_takeWordBetween_27 : decode b_Pa_takeWordBetween 27 = .ok (.iload_n 1, 1) := by decide +kernel
theorem d_Pa_takeWordBetween_28 : decode b_Pa_takeWordBetween 28 = .ok (.if_icmp .lt 19, 3) := by decide +kernel
theorem d_Pa_takeWordBetween_31 : decode b_Pa_takeWordBetween 31 = .ok (.aload_n 0, 1) := by decide +kernel
theorem d_Pa_takeWordBetween_32 : decode b_Pa_takeWordBetween 32 = .ok (.getfield 18, 3) := by decide +kernel
theorem d_Pa_takeWordBetween_35 : decode b_Pa_takeWordBetween 35 = .ok (.getfield 79, 3) := by decide +kernel
theorem d_Pa_takeWordBetween_38 : decode b_Pa_takeWordBetween 38 = .ok (.aload_n 0, 1) := by decide +kernel
theorem d_Pa_takeWordBetween_39 : decode b_Pa_takeWordBetween 39 = .ok (.getfield 52, 3) := by decide +kernel
theorem d_Pa_takeWordBetween_42 : decode b_Pa_takeWordBetween 42 = .ok (.iaload, 1) := by decide +kernel
theorem d_Pa_takeWordBetween_43 : decode b_Pa_takeWordBetween 43 = .ok (.iload_n 2, 1) := by decide +kernel
theorem d_Pa_takeWordBetween_44 : decode b_Pa_takeWordBetween 44 = .ok (.if_icmp .le 5, 3) := by decide +kernel
theorem d_Pa_takeWordBetween_47 : decode b_Pa_takeWordBetween 47 = .ok (.iconst (-1), 1) := by decide +kernel
theorem d_Pa_takeWordBetween_48 : decode b_Pa_takeWordBetween 48 = .ok (.ireturn, 1) := by decide +kernel
theorem d_Pa_takeWordBetween_49 : decode b_Pa_takeWordBetween 49 = .ok (.aload_n 0, 1) := by decide +kernel
theorem d_Pa_takeWordBetween_50 : decode b_Pa_takeWordBetween 50 = .ok (.dup, 1) := by decide +kernel
theorem d_Pa_takeWordBetween_51 : decode b_Pa_takeWordBetween 51 = .ok (.getfield 52, 3) := by decide +kernel
theorem d_Pa_takeWordBetween_54 : decode b_Pa_takeWordBetween 54 = .ok (.iconst 1, 1) := by decide +kernel
theorem d_Pa_takeWordBetween_55 : decode b_Pa_takeWordBetween 55 = .ok (.iadd, 1) := by decide +kernel
theorem d_Pa_takeWordBetween_56 : decode b_Pa_takeWordBetween 56 = .ok (.putfield 52, 3) := by decide +kernel
theorem d_Pa_takeWordBetween_59 : decode b_Pa_takeWordBetween 59 = .ok (.aload_n 0, 1) := by decide +kernel
theorem d_Pa_takeWordBetween_60 : decode b_Pa_takeWordBetween 60 = .ok (.getfield 18, 3) := by decide +kernel
theorem d_Pa_takeWordBetween_63 : decode b_Pa_takeWordBetween 63 = .ok (.getfield 79, 3) := by decide +kernel
theorem d_Pa_takeWordBetween_66 : decode b_Pa_takeWordBetween 66 = .ok (.aload_n 0, 1) := by decide +kernel
theorem d_Pa_takeWordBetween_67 : decode b_Pa_takeWordBetween 67 = .ok (.getfield 52, 3) := by decide +kernel
theorem d_Pa_takeWordBetween_70 : decode b_Pa_takeWordBetween 70 = .ok (.iconst 1, 1) := by decide +kernel
theorem d_Pa_takeWordBetween_71 : decode b_Pa_takeWordBetween 71 = .ok (.isub, 1) := by decide +kernel
theorem d_Pa_takeWordBetween_72 : decode b_Pa_takeWordBetween 72 = .ok (.iaload, 1) := by decide +kernel
theorem d_Pa_takeWordBetween_73 : decode b_Pa_takeWordBetween 73 = .ok (.ireturn, 1) := by decide +kernel
theorem d_Pa_takeTable_0 : decode b_Pa_takeTable 0 = .ok (.aload_n 0, 1) := by decide +kernel
theorem d_Pa_takeTable_1 : decode b_Pa_takeTable 1 = .ok (.getfield 18, 3) := by decide +kernel
theorem d_Pa_takeTable_4 : decode b_Pa_takeTable 4 = .ok (.aload_n 0, 1) := by decide +kernel
theorem d_Pa_takeTable_5 : decode b_Pa_takeTable 5 = .ok (.getfield 52, 3) := by decide +kernel
theorem d_Pa_takeTable_8 : decode b_Pa_takeTable 8 = .ok (.iconst 1, 1) := by decide +kernel
theorem d_Pa_takeTable_9 : decode b_Pa_takeTable 9 = .ok (.invokevirtual 75, 3) := by decide +kernel
theorem d_Pa_takeTable_12 : decode b_Pa_takeTable 12 = .ok (.ifCond .ne 5, 3) := by decide +kernel
theorem d_Pa_takeTable_15 : decode b_Pa_takeTable 15 = .ok (.iconst (-1), 1) := by decide +kernel
theorem d_Pa_takeTable_16 : decode b_Pa_takeTable 16 = .ok (.ireturn, 1) := by decide +kernel
theorem d_Pa_takeTable_17 : decode b_Pa_takeTable 17 = .ok (.aload_n 0, 1) := by decide +kernel
theorem d_Pa_takeTable_18 : decode b_Pa_takeTable 18 = .ok (.dup, 1) := by decide +kernel
theorem d_Pa_takeTable_19 : decode b_Pa_takeTable 19 = .ok (.getfield 52, 3) := by decide +kernel
theorem d_Pa_takeTable_22 : decode b_Pa_takeTable 22 = .ok (.iconst 1, 1) := by decide +kernel
theorem d_Pa_takeTable_23 : decode b_Pa_takeTable 23 = .ok (.iadd, 1) := by decide +kernel
theorem d_Pa_takeTable_24 : decode b_Pa_takeTable 24 = .ok (.putfield 52, 3) := by decide +kernel
theorem d_Pa_takeTable_27 : decode b_Pa_takeTable 27 = .ok (.aload_n 0, 1) := by decide +kernel
theorem d_Pa_takeTable_28 : decode b_Pa_takeTable 28 = .ok (.getfield 18, 3) := by decide +kernel
theorem d_Pa_takeTable_31 : decode b_Pa_takeTable 31 = .ok (.getfield 79, 3) := by decide +kernel
theorem d_Pa_takeTable_34 : decode b_Pa_takeTable 34 = .ok (.aload_n 0, 1) := by decide +kernel
theorem d_Pa_takeTable_35 : decode b_Pa_takeTable 35 = .ok (.getfield 52, 3) := by decide +kernel
theorem d_Pa_takeTable_38 : decode b_Pa_takeTable 38 = .ok (.iconst 1, 1) := by decide +kernel
theorem d_Pa_takeTable_39 : decode b_Pa_takeTable 39 = .ok (.isub, 1) := by decide +kernel
theorem d_Pa_takeTable_40 : decode b_Pa_takeTable 40 = .ok (.iaload, 1) := by decide +kernel
theorem d_Pa_takeTable_41 : decode b_Pa_takeTable 41 = .ok (.ireturn, 1) := by decide +kernel
theorem d_Pa_takeFirstTable_0 : decode b_Pa_takeFirstTable 0 = .ok (.aload_n 0, 1) := by decide +kernel
theorem d_Pa_takeFirstTable_1 : decode b_Pa_takeFirstTable 1 = .ok (.getfield 12, 3) := by decide +kernel
theorem d_Pa_takeFirstTable_4 : decode b_Pa_takeFirstTable 4 = .ok (.aload_n 0, 1) := by decide +kernel
theorem d_Pa_takeFirstTable_5 : decode b_Pa_takeFirstTable 5 = .ok (.invokevirtual 64, 3) := by decide +kernel
theorem d_Pa_takeFirstTable_8 : decode b_Pa_takeFirstTable 8 = .ok (.putfield 83, 3) := by decide +kernel
theorem d_Pa_takeFirstTable_11 : decode b_Pa_takeFirstTable 11 = .ok (.aload_n 0, 1) := by decide +kernel
theorem d_Pa_takeFirstTable_12 : decode b_Pa_takeFirstTable 12 = .ok (.getfield 12, 3) := by decide +kernel
theorem d_Pa_takeFirstTable_15 : decode b_Pa_takeFirstTable 15 = .ok (.getfield 83, 3) := by decide +kernel
theorem d_Pa_takeFirstTable_18 : decode b_Pa_takeFirstTable 18 = .ok (.iconst (-1), 1) := by decide +kernel
theorem d_Pa_takeFirstTable_19 : decode b_Pa_takeFirstTable 19 = .ok (.if_icmp .eq 7, 3) := by decide +kernel
theorem d_Pa_takeFirstTable_22 : decode b_Pa_takeFirstTable 22 = .ok (.iconst 1, 1) := by decide +kernel
theorem d_Pa_takeFirstTable_23 : decode b_Pa_takeFirstTable 23 = .ok (.goto 4, 3) := by decide +kernel
theorem d_Pa_takeFirstTable_26 : decode b_Pa_takeFirstTable 26 = .ok (.iconst 0, 1) := by decide +kernel
theorem d_Pa_takeFirstTable_27 : decode b_Pa_takeFirstTable 27 = .ok (.ireturn, 1) := by decide +kernel
theorem d_Pa_takeNumber_0 : decode b_Pa_takeNumber 0 = .ok (.aload_n 0, 1) := by decide +kernel
theorem d_Pa_takeNumber_1 : decode b_Pa_takeNumber 1 = .ok (.getfield 18, 3) := by decide +kernel
theorem d_Pa_takeNumber_4 : decode b_Pa_takeNumber 4 = .ok (.aload_n 0, 1) := by decide +kernel
theorem d_Pa_takeNumber_5 : decode b_Pa_takeNumber 5 = .ok (.getfield 52, 3) := by decide +kernel
theorem d_Pa_takeNumber_8 : decode b_Pa_takeNumber 8 = .ok (.iconst 3, 1) := by decide +kernel
theorem d_Pa_takeNumber_9 : decode b_Pa_takeNumber 9 = .ok (.invokevirtual 75, 3) := by decide +kernel
theorem d_Pa_takeNumber_12 : decode b_Pa_takeNumber 12 = .ok (.ifCond .ne 5, 3) := by decide +kernel
theorem d_Pa_takeNumber_15 : decode b_Pa_takeNumber 15 = .ok (.iconst 0, 1) := by decide +kernel
theorem d_Pa_takeNumber_16 : decode b_Pa_takeNumber 16 = .ok (.ireturn, 1) := by decide +kernel
theorem d_Pa_takeNumber_17 : decode b_Pa_takeNumber 17 = .ok (.aload_n 0, 1) := by decide +kernel
theorem d_Pa_takeNumber_18 : decode b_Pa_takeNumber 18 = .ok (.getfield 12, 3) := by decide +kernel
theorem d_Pa_takeNumber_21 : decode b_Pa_takeNumber 21 = .ok (.aload_n 0, 1) := by decide +kernel
theorem d_Pa_takeNumber_22 : decode b_Pa_takeNumber 22 = .ok (.getfield 18, 3) := by decide +kernel
theorem d_Pa_takeNumber_25 : decode b_Pa_takeNumber 25 = .ok (.getfield 79, 3) := by decide +kernel
theorem d_Pa_takeNumber_28 : decode b_Pa_takeNumber 28 = .ok (.aload_n 0, 1) := by decide +kernel
theorem d_Pa_takeNumber_29 : decode b_Pa_takeNumber 29 = .ok (.getfield 52, 3) := by decide +kernel
theorem d_Pa_takeNumber_32 : decode b_Pa_takeNumber 32 = .ok (.iaload, 1) := by decide +kernel
theorem d_Pa_takeNumber_33 : decode b_Pa_takeNumber 33 = .ok (.invokevirtual 86, 3) := by decide +kernel
theorem d_Pa_takeNumber_36 : decode b_Pa_takeNumber 36 = .ok (.aload_n 0, 1) := by decide +kernel
theorem d_Pa_takeNumber_37 : decode b_Pa_takeNumber 37 = .ok (.dup, 1) := by decide +kernel
theorem d_Pa_takeNumber_38 : decode b_Pa_takeNumber 38 = .ok (.getfield 52, 3) := by decide +kernel
theorem d_Pa_takeNumber_41 : decode b_Pa_takeNumber 41 = .ok (.iconst 1, 1) := by decide +kernel
theorem d_Pa_takeNumber_42 : decode b_Pa_takeNumber 42 = .ok (.iadd, 1) := by decide +kernel
theorem d_Pa_takeNumber_43 : decode b_Pa_takeNumber 43 = .ok (.putfield 52, 3) := by decide +kernel
theorem d_Pa_takeNumber_46 : decode b_Pa_takeNumber 46 = .ok (.iconst 1, 1) := by decide +kernel
theorem d_Pa_takeNumber_47 : decode b_Pa_takeNumber 47 = .ok (.ireturn, 1) := by decide +kernel
theorem d_Pa_takeNumbers_0 : decode b_Pa_takeNumbers 0 = .ok (.aload_n 0, 1) := by decide +kernel
theorem d_Pa_takeNumbers_1 : decode b_Pa_takeNumbers 1 = .ok (.invokevirtual 34, 3) := by decide +kernel
theorem d_Pa_takeNumbers_4 : decode b_Pa_takeNumbers 4 = .ok (.istore_n 1, 1) := by decide +kernel
theorem d_Pa_takeNumbers_5 : decode b_Pa_takeNumbers 5 = .ok (.iconst 1, 1) := by decide +kernel
theorem d_Pa_takeNumbers_6 : decode b_Pa_takeNumbers 6 = .ok (.istore_n 2, 1) := by decide +kernel
theorem d_Pa_takeNumbers_7 : decode b_Pa_takeNumbers 7 = .ok (.iload_n 2, 1) := by decide +kernel
theorem d_Pa_takeNumbers_8 : decode b_Pa_takeNumbers 8 = .ok (.bipush 60, 2) := by decide +kernel
theorem d_Pa_takeNumbers_10 : decode b_Pa_takeNumbers 10 = .ok (.if_icmp .ge 18, 3) := by decide +kernel
theorem d_Pa_takeNumbers_13 : decode b_Pa_takeNumbers 13 = .ok (.iload_n 1, 1) := by decide +kernel
theorem d_Pa_takeNumbers_14 : decode b_Pa_takeNumbers 14 = .ok (.ifCond .eq 14, 3) := by decide +kernel
theorem d_Pa_takeNumbers_17 : decode b_Pa_takeNumbers 17 = .ok (.aload_n 0, 1) := by decide +kernel
theorem d_Pa_takeNumbers_18 : decode b_Pa_takeNumbers 18 = .ok (.invokevirtual 34, 3) := by decide +kernel
theorem d_Pa_takeNumbers_21 : decode b_Pa_takeNumbers 21 = .ok (.istore_n 1, 1) := by decide +kernel
theorem d_Pa_takeNumbers_22 : decode b_Pa_takeNumbers 22 = .ok (.iinc 2 1, 3) := by decide +kernel
theorem d_Pa_takeNumbers_25 : decode b_Pa_takeNumbers 25 = .ok (.goto (-18), 3) := by decide +kernel
theorem d_Pa_takeNumbers_28 : decode b_Pa_takeNumbers 28 = .ok (.aload_n 0, 1) := by decide +kernel
theorem d_Pa_takeNumbers_29 : decode b_Pa_takeNumbers 29 = .ok (.getfield 12, 3) := by decide +kernel
theorem d_Pa_takeNumbers_32 : decode b_Pa_takeNumbers 32 = .ok (.getfield 90, 3) := by decide +kernel
theorem d_Pa_takeNumbers_35 : decode b_Pa_takeNumbers 35 = .ok (.ifCond .le 7, 3) := by decide +kernel
theorem d_Pa_takeNumbers_38 : decode b_Pa_takeNumbers 38 = .ok (.iconst 1, 1) := by decide +kernel
theorem d_Pa_takeNumbers_39 : decode b_Pa_takeNumbers 39 = .ok (.goto 4, 3) := by decide +kernel
theorem d_Pa_takeNumbers_42 : decode b_Pa_takeNumbers 42 = .ok (.iconst 0, 1) := by decide +kernel
theorem d_Pa_takeNumbers_43 : decode b_Pa_takeNumbers 43 = .ok (.ireturn, 1) := by decide +kernel
theorem d_Pa_takeList_0 : decode b_Pa_takeList 0 = .ok (.aload_n 0, 1) := by decide +kernel
theorem d_Pa_takeList_1 : decode b_Pa_takeList 1 = .ok (.iconst 4, 1) := by decide +kernel
theorem d_Pa_takeList_2 : decode b_Pa_takeList 2 = .ok (.invokevirtual 60, 3) := by decide +kernel
theorem d_Pa_takeList_5 : decode b_Pa_takeList 5 = .ok (.ifCond .eq 13, 3) := by decide +kernel
theorem d_Pa_takeList_8 : decode b_Pa_takeList 8 = .ok (.aload_n 0, 1) := by decide +kernel
theorem d_Pa_takeList_9 : decode b_Pa_takeList 9 = .ok (.getfield 12, 3) := by decide +kernel
theorem d_Pa_takeList_12 : decode b_Pa_takeList 12 = .ok (.iconst 4, 1) := by decide +kernel
theorem d_Pa_takeList_13 : decode b_Pa_takeList 13 = .ok (.putfield 93, 3) := by decide +kernel
theorem d_Pa_takeList_16 : decode b_Pa_takeList 16 = .ok (.iconst 1, 1) := by decide +kernel
theorem d_Pa_takeList_17 : decode b_Pa_takeList 17 = .ok (.ireturn, 1) := by decide +kernel
theorem d_Pa_takeList_18 : decode b_Pa_takeList 18 = .ok (.aload_n 0, 1) := by decide +kernel
theorem d_Pa_takeList_19 : decode b_Pa_takeList 19 = .ok (.iconst 5, 1) := by decide +kernel
theorem d_Pa_takeList_20 : decode b_Pa_takeList 20 = .ok (.invokevirtual 60, 3) := by decide +kernel
theorem d_Pa_takeList_23 : decode b_Pa_takeList 23 = .ok (.ifCond .eq 13, 3) := by decide +kernel
theorem d_Pa_takeList_26 : decode b_Pa_takeList 26 = .ok (.aload_n 0, 1) := by decide +kernel
theorem d_Pa_takeList_27 : decode b_Pa_takeList 27 = .ok (.getfield 12, 3) := by decide +kernel
theorem d_Pa_takeList_30 : decode b_Pa_takeList 30 = .ok (.iconst 5, 1) := by decide +kernel
theorem d_Pa_takeList_31 : decode b_Pa_takeList 31 = .ok (.putfield 93, 3) := by decide +kernel
theorem d_Pa_takeList_34 : decode b_Pa_takeList 34 = .ok (.iconst 1, 1) := by decide +kernel
theorem d_Pa_takeList_35 : decode b_Pa_takeList 35 = .ok (.ireturn, 1) := by decide +kernel
theorem d_Pa_takeList_36 : decode b_Pa_takeList 36 = .ok (.aload_n 0, 1) := by decide +kernel
theorem d_Pa_takeList_37 : decode b_Pa_takeList 37 = .ok (.bipush 6, 2) := by decide +kernel
theorem d_Pa_takeList_39 : decode b_Pa_takeList 39 = .ok (.invokevirtual 60, 3) := by decide +kernel
theorem d_Pa_takeList_42 : decode b_Pa_takeList 42 = .ok (.ifCond .eq 18, 3) := by decide +kernel
theorem d_Pa_takeList_45 : decode b_Pa_takeList 45 = .ok (.aload_n 0, 1) := by decide +kernel
theorem d_Pa_takeList_46 : decode b_Pa_takeList 46 = .ok (.getfield 12, 3) := by decide +kernel
theorem d_Pa_takeList_49 : decode b_Pa_takeList 49 = .ok (.bipush 6, 2) := by decide +kernel
theorem d_Pa_takeList_51 : decode b_Pa_takeList 51 = .ok (.putfield 93, 3) := by decide +kernel
theorem d_Pa_takeList_54 : decode b_Pa_takeList 54 = .ok (.aload_n 0, 1) := by decide +kernel
theorem d_Pa_takeList_55 : decode b_Pa_takeList 55 = .ok (.iconst 1, 1) := by decide +kernel
theorem d_Pa_takeList_56 : decode b_Pa_takeList 56 = .ok (.invokevirtual 96, 3) := by decide +kernel
theorem d_Pa_takeList_59 : decode b_Pa_takeList 59 = .ok (.ireturn, 1) := by decide +kernel
theorem d_Pa_takeList_60 : decode b_Pa_takeList 60 = .ok (.aload_n 0, 1) := by decide +kernel
theorem d_Pa_takeList_61 : decode b_Pa_takeList 61 = .ok (.bipush 8, 2) := by decide +kernel
theorem d_Pa_takeList_63 : decode b_Pa_takeList 63 = .ok (.invokevirtual 96, 3) := by decide +kernel
theorem d_Pa_takeList_66 : decode b_Pa_takeList 66 = .ok (.ireturn, 1) := by decide +kernel
theorem d_Pa_takeColumns_0 : decode b_Pa_takeColumns 0 = .ok (.iconst 0, 1) := by decide +kernel
theorem d_Pa_takeColumns_1 : decode b_Pa_takeColumns 1 = .ok (.istore_n 2, 1) := by decide +kernel
theorem d_Pa_takeColumns_2 : decode b_Pa_takeColumns 2 = .ok (.iload_n 2, 1) := by decide +kernel
theorem d_Pa_takeColumns_3 : decode b_Pa_takeColumns 3 = .ok (.iload_n 1, 1) := by decide +kernel
theorem d_Pa_takeColumns_4 : decode b_Pa_takeColumns 4 = .ok (.if_icmp .ge 53, 3) := by decide +kernel
theorem d_Pa_takeColumns_7 : decode b_Pa_takeColumns 7 = .ok (.aload_n 0, 1) := by decide +kernel
theorem d_Pa_takeColumns_8 : decode b_Pa_takeColumns 8 = .ok (.getfield 18, 3) := by decide +kernel
theorem d_Pa_takeColumns_11 : decode b_Pa_takeColumns 11 = .ok (.aload_n 0, 1) := by decide +kernel
theorem d_Pa_takeColumns_12 : decode b_Pa_takeColumns 12 = .ok (.getfield 52, 3) := by decide +kernel
theorem d_Pa_takeColumns_15 : decode b_Pa_takeColumns 15 = .ok (.iconst 2, 1) := by decide +kernel
theorem d_Pa_takeColumns_16 : decode b_Pa_takeColumns 16 = .ok (.invokevirtual 75, 3) := by decide +kernel
theorem d_Pa_takeColumns_19 : decode b_Pa_takeColumns 19 = .ok (.ifCond .eq 38, 3) := by decide +kernel
theorem d_Pa_takeColumns_22 : decode b_Pa_takeColumns 22 = .ok (.aload_n 0, 1) := by decide +kernel
theorem d_Pa_takeColumns_23 : decode b_Pa_takeColumns 23 = .ok (.getfield 12, 3) := by decide +kernel
theorem d_Pa_takeColumns_26 : decode b_Pa_takeColumns 26 = .ok (.aload_n 0, 1) := by decide +kernel
theorem d_Pa_takeColumns_27 : decode b_Pa_takeColumns 27 = .ok (.getfield 18, 3) := by decide +kernel
theorem d_Pa_takeColumns_30 : decode b_Pa_takeColumns 30 = .ok (.getfield 79, 3) := by decide +kernel
theorem d_Pa_takeColumns_33 : decode b_Pa_takeColumns 33 = .ok (.aload_n 0, 1) := by decide +kernel
theorem d_Pa_takeColumns_34 : decode b_Pa_takeColumns 34 = .ok (.getfield 52, 3) := by decide +kernel
theorem d_Pa_takeColumns_37 : decode b_Pa_takeColumns 37 = .ok (.iaload, 1) := by decide +kernel
theorem d_Pa_takeColumns_38 : decode b_Pa_takeColumns 38 = .ok (.invokevirtual 99, 3) := by decide +kernel
theorem d_Pa_takeColumns_41 : decode b_Pa_takeColumns 41 = .ok (.aload_n 0, 1) := by decide +kernel
theorem d_Pa_takeColumns_42 : decode b_Pa_takeColumns 42 = .ok (.dup, 1) := by decide +kernel
theorem d_Pa_takeColumns_43 : decode b_Pa_takeColumns 43 = .ok (.getfield 52, 3) := by decide +kernel
theorem d_Pa_takeColumns_46 : decode b_Pa_takeColumns 46 = .ok (.iconst 1, 1) := by decide +kernel
theorem d_Pa_takeColumns_47 : decode b_Pa_takeColumns 47 = .ok (.iadd, 1) := by decide +kernel
theorem d_Pa_takeColumns_48 : decode b_Pa_takeColumns 48 = .ok (.putfield 52, 3) := by decide +kernel
theorem d_Pa_takeColumns_51 : decode b_Pa_takeColumns 51 = .ok (.iinc 2 1, 3) := by decide +kernel
theorem d_Pa_takeColumns_54 : decode b_Pa_takeColumns 54 = .ok (.goto (-52), 3) := by decide +kernel
theorem d_Pa_takeColumns_57 : decode b_Pa_takeColumns 57 = .ok (.aload_n 0, 1) := by decide +kernel
theorem d_Pa_takeColumns_58 : decode b_Pa_takeColumns 58 = .ok (.getfield 12, 3) := by decide +kernel
theorem d_Pa_takeColumns_61 : decode b_Pa_takeColumns 61 = .ok (.getfield 102, 3) := by decide +kernel
theorem d_Pa_takeColumns_64 : decode b_Pa_takeColumns 64 = .ok (.ifCond .le 7, 3) := by decide +kernel
theorem d_Pa_takeColumns_67 : decode b_Pa_takeColumns 67 = .ok (.iconst 1, 1) := by decide +kernel
theorem d_Pa_takeColumns_68 : decode b_Pa_takeColumns 68 = .ok (.goto 4, 3) := by decide +kernel
theorem d_Pa_takeColumns_71 : decode b_Pa_takeColumns 71 = .ok (.iconst 0, 1) := by decide +kernel
theorem d_Pa_takeColumns_72 : decode b_Pa_takeColumns 72 = .ok (.ireturn, 1) := by decide +kernel
theorem d_Pa_takeConditions_0 : decode b_Pa_takeConditions 0 = .ok (.bipush 8, 2) := by decide +kernel
theorem d_Pa_takeConditions_2 : decode b_Pa_takeConditions 2 = .ok (.istore_n 1, 1) := by decide +kernel
theorem d_Pa_takeConditions_3 : decode b_Pa_takeConditions 3 = .ok (.iconst 0, 1) := by decide +kernel
theorem d_Pa_takeConditions_4 : decode b_Pa_takeConditions 4 = .ok (.istore_n 2, 1) := by decide +kernel
theorem d_Pa_takeConditions_5 : decode b_Pa_takeConditions 5 = .ok (.iload_n 2, 1) := by decide +kernel
theorem d_Pa_takeConditions_6 : decode b_Pa_takeConditions 6 = .ok (.bipush 8, 2) := by decide +kernel
theorem d_Pa_takeConditions_8 : decode b_Pa_takeConditions 8 = .ok (.if_icmp .ge 39, 3) := by decide +kernel
theorem d_Pa_takeConditions_11 : decode b_Pa_takeConditions 11 = .ok (.aload_n 0, 1) := by decide +kernel
theorem d_Pa_takeConditions_12 : decode b_Pa_takeConditions 12 = .ok (.iload_n 1, 1) := by decide +kernel
theorem d_Pa_takeConditions_13 : decode b_Pa_takeConditions 13 = .ok (.invokevirtual 60, 3) := by decide +kernel
theorem d_Pa_takeConditions_16 : decode b_Pa_takeConditions 16 = .ok (.ifCond .eq 31, 3) := by decide +kernel
theorem d_Pa_takeConditions_19 : decode b_Pa_takeConditions 19 = .ok (.aload_n 0, 1) := by decide +kernel
theorem d_Pa_takeConditions_20 : decode b_Pa_takeConditions 20 = .ok (.invokevirtual 105, 3) := by decide +kernel
theorem d_Pa_takeConditions_23 : decode b_Pa_takeConditions 23 = .ok (.astore_n 3, 1) := by decide +kernel
theorem d_Pa_takeConditions_24 : decode b_Pa_takeConditions 24 = .ok (.aload_n 3, 1) := by decide +kernel
theorem d_Pa_takeConditions_25 : decode b_Pa_takeConditions 25 = .ok (.ifnonnull 5, 3) := by decide +kernel
theorem d_Pa_takeConditions_28 : decode b_Pa_takeConditions 28 = .ok (.iconst 0, 1) := by decide +kernel
theorem d_Pa_takeConditions_29 : decode b_Pa_takeConditions 29 = .ok (.ireturn, 1) := by decide +kernel
theorem d_Pa_takeConditions_30 : decode b_Pa_takeConditions 30 = .ok (.aload_n 0, 1) := by decide +kernel
theorem d_Pa_takeConditions_31 : decode b_Pa_takeConditions 31 = .ok (.getfield 12, 3) := by decide +kernel
theorem d_Pa_takeConditions_34 : decode b_Pa_takeConditions 34 = .ok (.aload_n 3, 1) := by decide +kernel
theorem d_Pa_takeConditions_35 : decode b_Pa_takeConditions 35 = .ok (.invokevirtual 109, 3) := by decide +kernel
theorem d_Pa_takeConditions_38 : decode b_Pa_takeConditions 38 = .ok (.bipush 9, 2) := by decide +kernel
theorem d_Pa_takeConditions_40 : decode b_Pa_takeConditions 40 = .ok (.istore_n 1, 1) := by decide +kernel
theorem d_Pa_takeConditions_41 : decode b_Pa_takeConditions 41 = .ok (.iinc 2 1, 3) := by decide +kernel
theorem d_Pa_takeConditions_44 : decode b_Pa_takeConditions 44 = .ok (.goto (-39), 3) := by decide +kernel
theorem d_Pa_takeConditions_47 : decode b_Pa_takeConditions 47 = .ok (.iconst 1, 1) := by decide +kernel
theorem d_Pa_takeConditions_48 : decode b_Pa_takeConditions 48 = .ok (.ireturn, 1) := by decide +kernel
theorem d_Pa_takeCondition_0 : decode b_Pa_takeCondition 0 = .ok (.aload_n 0, 1) := by decide +kernel
theorem d_Pa_takeCondition_1 : decode b_Pa_takeCondition 1 = .ok (.invokevirtual 113, 3) := by decide +kernel
theorem d_Pa_takeCondition_4 : decode b_Pa_takeCondition 4 = .ok (.astore_n 1, 1) := by decide +kernel
theorem d_Pa_takeCondition_5 : decode b_Pa_takeCondition 5 = .ok (.aload_n 0, 1) := by decide +kernel
theorem d_Pa_takeCondition_6 : decode b_Pa_takeCondition 6 = .ok (.bipush 10, 2) := by decide +kernel
theorem d_Pa_takeCondition_8 : decode b_Pa_takeCondition 8 = .ok (.bipush 12, 2) := by decide +kernel
theorem d_Pa_takeCondition_10 : decode b_Pa_takeCondition 10 = .ok (.invokevirtual 22, 3) := by decide +kernel
theorem d_Pa_takeCondition_13 : decode b_Pa_takeCondition 13 = .ok (.istore_n 2, 1) := by decide +kernel
theorem d_Pa_takeCondition_14 : decode b_Pa_takeCondition 14 = .ok (.aload_n 0, 1) := by decide +kernel
theorem d_Pa_takeCondition_15 : decode b_Pa_takeCondition 15 = .ok (.invokevirtual 113, 3) := by decide +kernel
theorem d_Pa_takeCondition_18 : decode b_Pa_takeCondition 18 = .ok (.astore_n 3, 1) := by decide +kernel
theorem d_Pa_takeCondition_19 : decode b_Pa_takeCondition 19 = .ok (.aload_n 1, 1) := by decide +kernel
theorem d_Pa_takeCondition_20 : decode b_Pa_takeCondition 20 = .ok (.ifnull 12, 3) := by decide +kernel
theorem d_Pa_takeCondition_23 : decode b_Pa_takeCondition 23 = .ok (.iload_n 2, 1) := by decide +kernel
theorem d_Pa_takeCondition_24 : decode b_Pa_takeCondition 24 = .ok (.iconst (-1), 1) := by decide +kernel
theorem d_Pa_takeCondition_25 : decode b_Pa_takeCondition 25 = .ok (.if_icmp .eq 7, 3) := by decide +kernel
theorem d_Pa_takeCondition_28 : decode b_Pa_takeCondition 28 = .ok (.aload_n 3, 1) := by decide +kernel
theorem d_Pa_takeCondition_29 : decode b_Pa_takeCondition 29 = .ok (.ifnonnull 5, 3) := by decide +kernel
theorem d_Pa_takeCondition_32 : decode b_Pa_takeCondition 32 = .ok (.aconst_null, 1) := by decide +kernel
theorem d_Pa_takeCondition_33 : decode b_Pa_takeCondition 33 = .ok (.areturn, 1) := by decide +kernel
theorem d_Pa_takeCondition_34 : decode b_Pa_takeCondition 34 = .ok (.new 117, 3) := by decide +kernel
theorem d_Pa_takeCondition_37 : decode b_Pa_takeCondition 37 = .ok (.dup, 1) := by decide +kernel
theorem d_Pa_takeCondition_38 : decode b_Pa_takeCondition 38 = .ok (.aload_n 1, 1) := by decide +kernel
theorem d_Pa_takeCondition_39 : decode b_Pa_takeCondition 39 = .ok (.iload_n 2, 1) := by decide +kernel
theorem d_Pa_takeCondition_40 : decode b_Pa_takeCondition 40 = .ok (.aload_n 3, 1) := by decide +kernel
theorem d_Pa_takeCondition_41 : decode b_Pa_takeCondition 41 = .ok (.invokespecial 119, 3) := by decide +kernel
theorem d_Pa_takeCondition_44 : decode b_Pa_takeCondition 44 = .ok (.areturn, 1) := by decide +kernel
theorem d_Pa_takeOperand_0 : decode b_Pa_takeOperand 0 = .ok (.aload_n 0, 1) := by decide +kernel
theorem d_Pa_takeOperand_1 : decode b_Pa_takeOperand 1 = .ok (.getfield 18, 3) := by decide +kernel
theorem d_Pa_takeOperand_4 : decode b_Pa_takeOperand 4 = .ok (.aload_n 0, 1) := by decide +kernel
theorem d_Pa_takeOperand_5 : decode b_Pa_takeOperand 5 = .ok (.getfield 52, 3) := by decide +kernel
theorem d_Pa_takeOperand_8 : decode b_Pa_takeOperand 8 = .ok (.iconst 2, 1) := by decide +kernel
theorem d_Pa_takeOperand_9 : decode b_Pa_takeOperand 9 = .ok (.invokevirtual 75, 3) := by decide +kernel
theorem d_Pa_takeOperand_12 : decode b_Pa_takeOperand 12 = .ok (.ifCond .ne 20, 3) := by decide +kernel
theorem d_Pa_takeOperand_15 : decode b_Pa_takeOperand 15 = .ok (.aload_n 0, 1) := by decide +kernel
theorem d_Pa_takeOperand_16 : decode b_Pa_takeOperand 16 = .ok (.getfield 18, 3) := by decide +kernel
theorem d_Pa_takeOperand_19 : decode b_Pa_takeOperand 19 = .ok (.aload_n 0, 1) := by decide +kernel
theorem d_Pa_takeOperand_20 : decode b_Pa_takeOperand 20 = .ok (.getfield 52, 3) := by decide +kernel
theorem d_Pa_takeOperand_23 : decode b_Pa_takeOperand 23 = .ok (.iconst 3, 1) := by decide +kernel
theorem d_Pa_takeOperand_24 : decode b_Pa_takeOperand 24 = .ok (.invokevirtual 75, 3) := by decide +kernel
theorem d_Pa_takeOperand_27 : decode b_Pa_takeOperand 27 = .ok (.ifCond .ne 5, 3) := by decide +kernel
theorem d_Pa_takeOperand_30 : decode b_Pa_takeOperand 30 = .ok (.aconst_null, 1) := by decide +kernel
theorem d_Pa_takeOperand_31 : decode b_Pa_takeOperand 31 = .ok (.areturn, 1) := by decide +kernel
theorem d_Pa_takeOperand_32 : decode b_Pa_takeOperand 32 = .ok (.aload_n 0, 1) := by decide +kernel
theorem d_Pa_takeOperand_33 : decode b_Pa_takeOperand 33 = .ok (.dup, 1) := by decide +kernel
theorem d_Pa_takeOperand_34 : decode b_Pa_takeOperand 34 = .ok (.getfield 52, 3) := by decide +kernel
theorem d_Pa_takeOperand_37 : decode b_Pa_takeOperand 37 = .ok (.iconst 1, 1) := by decide +kernel
theorem d_Pa_takeOperand_38 : decode b_Pa_takeOperand 38 = .ok (.iadd, 1) := by decide +kernel
theorem d_Pa_takeOperand_39 : decode b_Pa_takeOperand 39 = .ok (.putfield 52, 3) := by decide +kernel
theorem d_Pa_takeOperand_42 : decode b_Pa_takeOperand 42 = .ok (.new 122, 3) := by decide +kernel
theorem d_Pa_takeOperand_45 : decode b_Pa_takeOperand 45 = .ok (.dup, 1) := by decide +kernel
theorem d_Pa_takeOperand_46 : decode b_Pa_takeOperand 46 = .ok (.aload_n 0, 1) := by decide +kernel
theorem d_Pa_takeOperand_47 : decode b_Pa_takeOperand 47 = .ok (.getfield 18, 3) := by decide +kernel
theorem d_Pa_takeOperand_50 : decode b_Pa_takeOperand 50 = .ok (.getfield 124, 3) := by decide +kernel
theorem d_Pa_takeOperand_53 : decode b_Pa_takeOperand 53 = .ok (.aload_n 0, 1) := by decide +kernel
theorem d_Pa_takeOperand_54 : decode b_Pa_takeOperand 54 = .ok (.getfield 52, 3) := by decide +kernel
theorem d_Pa_takeOperand_57 : decode b_Pa_takeOperand 57 = .ok (.iconst 1, 1) := by decide +kernel
theorem d_Pa_takeOperand_58 : decode b_Pa_takeOperand 58 = .ok (.isub, 1) := by decide +kernel
theorem d_Pa_takeOperand_59 : decode b_Pa_takeOperand 59 = .ok (.iaload, 1) := by decide +kernel
theorem d_Pa_takeOperand_60 : decode b_Pa_takeOperand 60 = .ok (.aload_n 0, 1) := by decide +kernel
theorem d_Pa_takeOperand_61 : decode b_Pa_takeOperand 61 = .ok (.getfield 18, 3) := by decide +kernel
theorem d_Pa_takeOperand_64 : decode b_Pa_takeOperand 64 = .ok (.getfield 79, 3) := by decide +kernel
theorem d_Pa_takeOperand_67 : decode b_Pa_takeOperand 67 = .ok (.aload_n 0, 1) := by decide +kernel
theorem d_Pa_takeOperand_68 : decode b_Pa_takeOperand 68 = .ok (.getfield 52, 3) := by decide +kernel
theorem d_Pa_takeOperand_71 : decode b_Pa_takeOperand 71 = .ok (.iconst 1, 1) := by decide +kernel
theorem d_Pa_takeOperand_72 : decode b_Pa_takeOperand 72 = .ok (.isub, 1) := by decide +kernel
theorem d_Pa_takeOperand_73 : decode b_Pa_takeOperand 73 = .ok (.iaload, 1) := by decide +kernel
theorem d_Pa_takeOperand_74 : decode b_Pa_takeOperand 74 = .ok (.invokespecial 127, 3) := by decide +kernel
theorem d_Pa_takeOperand_77 : decode b_Pa_takeOperand 77 = .ok (.areturn, 1) := by decide +kernel
theorem d_Ru_init_0 : decode b_Ru_init 0 = .ok (.aload_n 0, 1) := by decide +kernel
theorem d_Ru_init_1 : decode b_Ru_init 1 = .ok (.invokespecial 3, 3) := by decide +kernel
theorem d_Ru_init_4 : decode b_Ru_init 4 = .ok (.aload_n 0, 1) := by decide +kernel
theorem d_Ru_init_5 : decode b_Ru_init 5 = .ok (.bipush 16, 2) := by decide +kernel
theorem d_Ru_init_7 : decode b_Ru_init 7 = .ok (.newarray .int, 2) := by decide +kernel
theorem d_Ru_init_9 : decode b_Ru_init 9 = .ok (.putfield 9, 3) := by decide +kernel
theorem d_Ru_init_12 : decode b_Ru_init 12 = .ok (.return_, 1) := by decide +kernel
theorem d_Ru_begin_0 : decode b_Ru_begin 0 = .ok (.aload_n 0, 1) := by decide +kernel
theorem d_Ru_begin_1 : decode b_Ru_begin 1 = .ok (.aload_n 1, 1) := by decide +kernel
theorem d_Ru_begin_2 : decode b_Ru_begin 2 = .ok (.putfield 15, 3) := by decide +kernel
theorem d_Ru_begin_5 : decode b_Ru_begin 5 = .ok (.aload_n 0, 1) := by decide +kernel
theorem d_Ru_begin_6 : decode b_Ru_begin 6 = .ok (.iconst 0, 1) := by decide +kernel
theorem d_Ru_begin_7 : decode b_Ru_begin 7 = .ok (.putfield 19, 3) := by decide +kernel
theorem d_Ru_begin_10 : decode b_Ru_begin 10 = .ok (.aload_n 0, 1) := by decide +kernel
theorem d_Ru_begin_11 : decode b_Ru_begin 11 = .ok (.iconst 0, 1) := by decide +kernel
theorem d_Ru_begin_12 : decode b_Ru_begin 12 = .ok (.putfield 23, 3) := by decide +kernel
theorem d_Ru_begin_15 : decode b_Ru_begin 15 = .ok (.aload_n 0, 1) := by decide +kernel
theorem d_Ru_begin_16 : decode b_Ru_begin 16 = .ok (.iconst 0, 1) := by decide +kernel
theorem d_Ru_begin_17 : decode b_Ru_begin 17 = .ok (.putfield 27, 3) := by decide +kernel
theorem d_Ru_begin_20 : decode b_Ru_begin 20 = .ok (.aload_n 0, 1) := by decide +kernel
theorem d_Ru_begin_21 : decode b_Ru_begin 21 = .ok (.iconst 0, 1) := by decide +kernel
theorem d_Ru_begin_22 : decode b_Ru_begin 22 = .ok (.putfield 30, 3) := by decide +kernel
theorem d_Ru_begin_25 : decode b_Ru_begin 25 = .ok (.aload_n 0, 1) := by decide +kernel
theorem d_Ru_begin_26 : decode b_Ru_begin 26 = .ok (.iconst 0, 1) := by decide +kernel
theorem d_Ru_begin_27 : decode b_Ru_begin 27 = .ok (.putfield 33, 3) := by decide +kernel
theorem d_Ru_begin_30 : decode b_Ru_begin 30 = .ok (.return_, 1) := by decide +kernel
theorem d_Ru_advance_0 : decode b_Ru_advance 0 = .ok (.aload_n 0, 1) := by decide +kernel
theorem d_Ru_advance_1 : decode b_Ru_advance 1 = .ok (.getfield 27, 3) := by decide +kernel
theorem d_Ru_advance_4 : decode b_Ru_advance 4 = .ok (.ifCond .eq 5, 3) := by decide +kernel
theorem d_Ru_advance_7 : decode b_Ru_advance 7 = .ok (.iconst 0, 1) := by decide +kernel
theorem d_Ru_advance_8 : decode b_Ru_advance 8 = .ok (.ireturn, 1) := by decide +kernel
theorem d_Ru_advance_9 : decode b_Ru_advance 9 = .ok (.iconst 0, 1) := by decide +kernel
theorem d_Ru_advance_10 : decode b_Ru_advance 10 = .ok (.istore_n 2, 1) := by decide +kernel
theorem d_Ru_advance_11 : decode b_Ru_advance 11 = .ok (.aload_n 0, 1) := by decide +kernel
theorem d_Ru_advance_12 : decode b_Ru_advance 12 = .ok (.getfield 15, 3) := by decide +kernel
theorem d_Ru_advance_15 : decode b_Ru_advance 15 = .ok (.getfield 36, 3) := by decide +kernel
theorem d_Ru_advance_18 : decode b_Ru_advance 18 = .ok (.tableswitch 80 0 2 #[26, 50, 72], 26) := by decide +kernel
theorem d_Ru_advance_44 : decode b_Ru_advance 44 = .ok (.aload_n 1, 1) := by decide +kernel
theorem d_Ru_advance_45 : decode b_Ru_advance 45 = .ok (.aload_n 0, 1) := by decide +kernel
theorem d_Ru_advance_46 : decode b_Ru_advance 46 = .ok (.getfield 15, 3) := by decide +kernel
theorem d_Ru_advance_49 : decode b_Ru_advance 49 = .ok (.getfield 41, 3) := by decide +kernel
theorem d_Ru_advance_52 : decode b_Ru_advance 52 = .ok (.aload_n 0, 1) := by decide +kernel
theorem d_Ru_advance_53 : decode b_Ru_advance 53 = .ok (.getfield 15, 3) := by decide +kernel
theorem d_Ru_advance_56 : decode b_Ru_advance 56 = .ok (.getfield 44, 3) := by decide +kernel
theorem d_Ru_advance_59 : decode b_Ru_advance 59 = .ok (.iconst 0, 1) := by decide +kernel
theorem d_Ru_advance_60 : decode b_Ru_advance 60 = .ok (.iaload, 1) := by decide +kernel
theorem d_Ru_advance_61 : decode b_Ru_advance 61 = .ok (.invokevirtual 47, 3) := by decide +kernel
theorem d_Ru_advance_64 : decode b_Ru_advance 64 = .ok (.istore_n 2, 1) := by decide +kernel
theorem d_Ru_advance_65 : decode b_Ru_advance 65 = .ok (.goto 57, 3) := by decide +kernel
theorem d_Ru_advance_68 : decode b_Ru_advance 68 = .ok (.aload_n 1, 1) := by decide +kernel
theorem d_Ru_advance_69 : decode b_Ru_advance 69 = .ok (.aload_n 0, 1) := by decide +kernel
theorem d_Ru_advance_70 : decode b_Ru_advance 70 = .ok (.getfield 15, 3) := by decide +kernel
theorem d_Ru_advance_73 : decode b_Ru_advance 73 = .ok (.getfield 41, 3) := by decide +kernel
theorem d_Ru_advance_76 : decode b_Ru_advance 76 = .ok (.aload_n 0, 1) := by decide +kernel
theorem d_Ru_advance_77 : decode b_Ru_advance 77 = .ok (.getfield 15, 3) := by decide +kernel
theorem d_Ru_advance_80 : decode b_Ru_advance 80 = .ok (.getfield 44, 3) := by decide +kernel
theorem d_Ru_advance_83 : decode b_Ru_advance 83 = .ok (.invokevirtual 53, 3) := by decide +kernel
theorem d_Ru_advance_86 : decode b_Ru_advance 86 = .ok (.istore_n 2, 1) := by decide +kernel
theorem d_Ru_advance_87 : decode b_Ru_advance 87 = .ok (.goto 35, 3) := by decide +kernel
theorem d_Ru_advance_90 : decode b_Ru_advance 90 = .ok (.aload_n 0, 1) := by decide +kernel
theorem d_Ru_advance_91 : decode b_Ru_advance 91 = .ok (.aload_n 1, 1) := by decide +kernel
theorem d_Ru_advance_92 : decode b_Ru_advance 92 = .ok (.invokevirtual 57, 3) := by decide +kernel
theorem d_Ru_advance_95 : decode b_Ru_advance 95 = .ok (.goto 27, 3) := by decide +kernel
theorem d_Ru_advance_98 : decode b_Ru_advance 98 = .ok (.aload_n 0, 1) := by decide +kernel
theorem d_Ru_advance_99 : decode b_Ru_advance 99 = .ok (.getfield 15, 3) := by decide +kernel
theorem d_Ru_advance_102 : decode b_Ru_advance 102 = .ok (.invokevirtual 61, 3) := by decide +kernel
theorem d_Ru_advance_105 : decode b_Ru_advance 105 = .ok (.ifCond .eq 11, 3) := by decide +kernel
theorem d_Ru_advance_108 : decode b_Ru_advance 108 = .ok (.aload_n 0, 1) := by decide +kernel
theorem d_Ru_advance_109 : decode b_Ru_advance 109 = .ok (.aload_n 1, 1) := by decide +kernel
theorem d_Ru_advance_110 : decode b_Ru_advance 110 = .ok (.invokevirtual 65, 3) := by decide +kernel
theorem d_Ru_advance_113 : decode b_Ru_advance 113 = .ok (.goto 8, 3) := by decide +kernel
theorem d_Ru_advance_116 : decode b_Ru_advance 116 = .ok (.aload_n 0, 1) := by decide +kernel
theorem d_Ru_advance_117 : decode b_Ru_advance 117 = .ok (.aload_n 1, 1) := by decide +kernel
theorem d_Ru_advance_118 : decode b_Ru_advance 118 = .ok (.invokevirtual 69, 3) := by decide +kernel
theorem d_Ru_advance_121 : decode b_Ru_advance 121 = .ok (.istore_n 2, 1) := by decide +kernel
theorem d_Ru_advance_122 : decode b_Ru_advance 122 = .ok (.aload_n 0, 1) := by decide +kernel
theorem d_Ru_advance_123 : decode b_Ru_advance 123 = .ok (.iload_n 2, 1) := by decide +kernel
theorem d_Ru_advance_124 : decode b_Ru_advance 124 = .ok (.invokevirtual 72, 3) := by decide +kernel
theorem d_Ru_advance_127 : decode b_Ru_advance 127 = .ok (.iload_n 2, 1) := by decide +kernel
theorem d_Ru_advance_128 : decode b_Ru_advance 128 = .ok (.ireturn, 1) := by decide +kernel
theorem d_Ru_note_0 : decode b_Ru_note 0 = .ok (.aload_n 0, 1) := by decide +kernel
theorem d_Ru_note_1 : decode b_Ru_note 1 = .ok (.iload_n 1, 1) := by decide +kernel
theorem d_Ru_note_2 : decode b_Ru_note 2 = .ok (.iconst 1, 1) := by decide +kernel
theorem d_Ru_note_3 : decode b_Ru_note 3 = .ok (.if_icmp .ne 7, 3) := by decide +kernel
theorem d_Ru_note_6 : decode b_Ru_note 6 = .ok (.iconst 1, 1) := by decide +kernel
theorem d_Ru_note_7 : decode b_Ru_note 7 = .ok (.goto 4, 3) := by decide +kernel
theorem d_Ru_note_10 : decode b_Ru_note 10 = .ok (.iconst 0, 1) := by decide +kernel
theorem d_Ru_note_11 : decode b_Ru_note 11 = .ok (.putfield 23, 3) := by decide +kernel
theorem d_Ru_note_14 : decode b_Ru_note 14 = .ok (.aload_n 0, 1) := by decide +kernel
theorem d_Ru_note_15 : decode b_Ru_note 15 = .ok (.aload_n 0, 1) := by decide +kernel
theorem d_Ru_note_16 : decode b_Ru_note 16 = .ok (.getfield 23, 3) := by decide +kernel
theorem d_Ru_note_19 : decode b_Ru_note 19 = .ok (.ifCond .ne 7, 3) := by decide +kernel
theorem d_Ru_note_22 : decode b_Ru_note 22 = .ok (.iconst 1, 1) := by decide +kernel
theorem d_Ru_note_23 : decode b_Ru_note 23 = .ok (.goto 4, 3) := by decide +kernel
theorem d_Ru_note_26 : decode b_Ru_note 26 = .ok (.iconst 0, 1) := by decide +kernel
theorem d_Ru_note_27 : decode b_Ru_note 27 = .ok (.putfield 27, 3) := by decide +kernel
theorem d_Ru_note_30 : decode b_Ru_note 30 = .ok (.aload_n 0, 1) := by decide +kernel
theorem d_Ru_note_31 : decode b_Ru_note 31 = .ok (.getfield 23, 3) := by decide +kernel
theorem d_Ru_note_34 : decode b_Ru_note 34 = .ok (.ifCond .eq 13, 3) := by decide +kernel
theorem d_Ru_note_37 : decode b_Ru_note 37 = .ok (.aload_n 0, 1) := by decide +kernel
theorem d_Ru_note_38 : decode b_Ru_note 38 = .ok (.dup, 1) := by decide +kernel
theorem d_Ru_note_39 : decode b_Ru_note 39 = .ok (.getfield 19, 3) := by decide +kernel
theorem d_Ru_note_42 : decode b_Ru_note 42 = .ok (.iconst 1, 1) := by decide +kernel
theorem d_Ru_note_43 : decode b_Ru_note 43 = .ok (.iadd, 1) := by decide +kernel
theorem d_Ru_note_44 : decode b_Ru_note 44 = .ok (.putfield 19, 3) := by decide +kernel
theorem d_Ru_note_47 : decode b_Ru_note 47 = .ok (.return_, 1) := by decide +kernel
theorem d_Ru_deleteRows_0 : decode b_Ru_deleteRows 0 = .ok (.aload_n 1, 1) := by decide +kernel
theorem d_Ru_deleteRows_1 : decode b_Ru_deleteRows 1 = .ok (.aload_n 0, 1) := by decide +kernel
theorem d_Ru_deleteRows_2 : decode b_Ru_deleteRows 2 = .ok (.getfield 15, 3) := by decide +kernel
theorem d_Ru_deleteRows_5 : decode b_Ru_deleteRows 5 = .ok (.getfield 41, 3) := by decide +kernel
theorem d_Ru_deleteRows_8 : decode b_Ru_deleteRows 8 = .ok (.invokevirtual 76, 3) := by decide +kernel
theorem d_Ru_deleteRows_11 : decode b_Ru_deleteRows 11 = .ok (.iconst 1, 1) := by decide +kernel
theorem d_Ru_deleteRows_12 : decode b_Ru_deleteRows 12 = .ok (.isub, 1) := by decide +kernel
theorem d_Ru_deleteRows_13 : decode b_Ru_deleteRows 13 = .ok (.istore_n 2, 1) := by decide +kernel
theorem d_Ru_deleteRows_14 : decode b_Ru_deleteRows 14 = .ok (.iload_n 2, 1) := by decide +kernel
theorem d_Ru_deleteRows_15 : decode b_Ru_deleteRows 15 = .ok (.ifCond .lt 52, 3) := by decide +kernel
theorem d_Ru_deleteRows_18 : decode b_Ru_deleteRows 18 = .ok (.aload_n 1, 1) := by decide +kernel
theorem d_Ru_deleteRows_19 : decode b_Ru_deleteRows 19 = .ok (.aload_n 0, 1) := by decide +kernel
theorem d_Ru_deleteRows_20 : decode b_Ru_deleteRows 20 = .ok (.getfield 15, 3) := by decide +kernel
theorem d_Ru_deleteRows_23 : decode b_Ru_deleteRows 23 = .ok (.getfield 41, 3) := by decide +kernel
theorem d_Ru_deleteRows_26 : decode b_Ru_deleteRows 26 = .ok (.iload_n 2, 1) := by decide +kernel
theorem d_Ru_deleteRows_27 : decode b_Ru_deleteRows 27 = .ok (.aload_n 0, 1) := by decide +kernel
theorem d_Ru_deleteRows_28 : decode b_Ru_deleteRows 28 = .ok (.getfield 9, 3) := by decide +kernel
theorem d_Ru_deleteRows_31 : decode b_Ru_deleteRows 31 = .ok (.iconst 0, 1) := by decide +kernel
theorem d_Ru_deleteRows_32 : decode b_Ru_deleteRows 32 = .ok (.invokevirtual 80, 3) := by decide +kernel
theorem d_Ru_deleteRows_35 : decode b_Ru_deleteRows 35 = .ok (.aload_n 0, 1) := by decide +kernel
theorem d_Ru_deleteRows_36 : decode b_Ru_deleteRows 36 = .ok (.getfield 15, 3) := by decide +kernel
theorem d_Ru_deleteRows_39 : decode b_Ru_deleteRows 39 = .ok (.aload_n 0, 1) := by decide +kernel
theorem d_Ru_deleteRows_40 : decode b_Ru_deleteRows 40 = .ok (.getfield 9, 3) := by decide +kernel
theorem d_Ru_deleteRows_43 : decode b_Ru_deleteRows 43 = .ok (.invokevirtual 83, 3) := by decide +kernel
theorem d_Ru_deleteRows_46 : decode b_Ru_deleteRows 46 = .ok (.ifCond .eq 15, 3) := by decide +kernel
theorem d_Ru_deleteRows_49 : decode b_Ru_deleteRows 49 = .ok (.aload_n 1, 1) := by decide +kernel
theorem d_Ru_deleteRows_50 : decode b_Ru_deleteRows 50 = .ok (.aload_n 0, 1) := by decide +kernel
theorem d_Ru_deleteRows_51 : decode b_Ru_deleteRows 51 = .ok (.getfield 15, 3) := by decide +kernel
theorem d_Ru_deleteRows_54 : decode b_Ru_deleteRows 54 = .ok (.getfield 41, 3) := by decide +kernel
theorem d_Ru_deleteRows_57 : decode b_Ru_deleteRows 57 = .ok (.iload_n 2, 1) := by decide +kernel
theorem d_Ru_deleteRows_58 : decode b_Ru_deleteRows 58 = .ok (.invokevirtual 87, 3) := by decide +kernel
theorem d_Ru_deleteRows_61 : decode b_Ru_deleteRows 61 = .ok (.iinc 2 (-1), 3) := by decide +kernel
theorem d_Ru_deleteRows_64 : decode b_Ru_deleteRows 64 = .ok (.goto (-50), 3) := by decide +kernel
theorem d_Ru_deleteRows_67 : decode b_Ru_deleteRows 67 = .ok (.return_, 1) := by decide +kernel
