theorem d_Mo_creates_0 : decode b_Mo_creates 0 = .ok (.aload_n 0, 1) := by decide +kernel
theorem d_Mo_creates_1 : decode b_Mo_creates 1 = .ok (.aload_n 0, 1) := by decide +kernel
theorem d_Mo_creates_2 : decode b_Mo_creates 2 = .ok (.getfield 115, 3) := by decide +kernel
theorem d_Mo_creates_5 : decode b_Mo_creates 5 = .ok (.invokevirtual 101, 3) := by decide +kernel
theorem d_Mo_creates_8 : decode b_Mo_creates 8 = .ok (.ifCond .eq 6, 3) := by decide +kernel
theorem d_Mo_creates_11 : decode b_Mo_creates 11 = .ok (.bipush (-3), 2) := by decide +kernel
theorem d_Mo_creates_13 : decode b_Mo_creates 13 = .ok (.ireturn, 1) := by decide +kernel
theorem d_Mo_creates_14 : decode b_Mo_creates 14 = .ok (.aload_n 0, 1) := by decide +kernel
theorem d_Mo_creates_15 : decode b_Mo_creates 15 = .ok (.getfield 7, 3) := by decide +kernel
theorem d_Mo_creates_18 : decode b_Mo_creates 18 = .ok (.aload_n 0, 1) := by decide +kernel
theorem d_Mo_creates_19 : decode b_Mo_creates 19 = .ok (.getfield 115, 3) := by decide +kernel
theorem d_Mo_creates_22 : decode b_Mo_creates 22 = .ok (.aload_n 0, 1) := by decide +kernel
theorem d_Mo_creates_23 : decode b_Mo_creates 23 = .ok (.getfield 28, 3) := by decide +kernel
theorem d_Mo_creates_26 : decode b_Mo_creates 26 = .ok (.iconst 2, 1) := by decide +kernel
theorem d_Mo_creates_27 : decode b_Mo_creates 27 = .ok (.iaload, 1) := by decide +kernel
theorem d_Mo_creates_28 : decode b_Mo_creates 28 = .ok (.iastore, 1) := by decide +kernel
theorem d_Mo_creates_29 : decode b_Mo_creates 29 = .ok (.iconst 0, 1) := by decide +kernel
theorem d_Mo_creates_30 : decode b_Mo_creates 30 = .ok (.ireturn, 1) := by decide +kernel
theorem d_Mo_folds_0 : decode b_Mo_folds 0 = .ok (.aload_n 0, 1) := by decide +kernel
theorem d_Mo_folds_1 : decode b_Mo_folds 1 = .ok (.lconst 0, 1) := by decide +kernel
theorem d_Mo_folds_2 : decode b_Mo_folds 2 = .ok (.putfield 172, 3) := by decide +kernel
theorem d_Mo_folds_5 : decode b_Mo_folds 5 = .ok (.iconst 0, 1) := by decide +kernel
theorem d_Mo_folds_6 : decode b_Mo_folds 6 = .ok (.istore_n 1, 1) := by decide +kernel
theorem d_Mo_folds_7 : decode b_Mo_folds 7 = .ok (.iload_n 1, 1) := by decide +kernel
theorem d_Mo_folds_8 : decode b_Mo_folds 8 = .ok (.aload_n 0, 1) := by decide +kernel
theorem d_Mo_folds_9 : decode b_Mo_folds 9 = .ok (.getfield 159, 3) := by decide +kernel
theorem d_Mo_folds_12 : decode b_Mo_folds 12 = .ok (.if_icmp .ge 137, 3) := by decide +kernel
theorem d_Mo_folds_15 : decode b_Mo_folds 15 = .ok (.iconst 0, 1) := by decide +kernel
theorem d_Mo_folds_16 : decode b_Mo_folds 16 = .ok (.istore_n 2, 1) := by decide +kernel
theorem d_Mo_folds_17 : decode b_Mo_folds 17 = .ok (.iload_n 2, 1) := by decide +kernel
theorem d_Mo_folds_18 : decode b_Mo_folds 18 = .ok (.aload_n 0, 1) := by decide +kernel
theorem d_Mo_folds_19 : decode b_Mo_folds 19 = .ok (.getfield 118, 3) := by decide +kernel
theorem d_Mo_folds_22 : decode b_Mo_folds 22 = .ok (.iconst (-1), 1) := by decide +kernel
theorem d_Mo_folds_23 : decode b_Mo_folds 23 = .ok (.if_icmp .ne 7, 3) := by decide +kernel
theorem d_Mo_folds_26 : decode b_Mo_folds 26 = .ok (.iconst 1, 1) := by decide +kernel
theorem d_Mo_folds_27 : decode b_Mo_folds 27 = .ok (.goto 7, 3) := by decide +kernel
theorem d_Mo_folds_30 : decode b_Mo_folds 30 = .ok (.aload_n 0, 1) := by decide +kernel
theorem d_Mo_folds_31 : decode b_Mo_folds 31 = .ok (.getfield 159, 3) := by decide +kernel
theorem d_Mo_folds_34 : decode b_Mo_folds 34 = .ok (.if_icmp .ge 109, 3) := by decide +kernel
theorem d_Mo_folds_37 : decode b_Mo_folds 37 = .ok (.aload_n 0, 1) := by decide +kernel
theorem d_Mo_folds_38 : decode b_Mo_folds 38 = .ok (.getfield 13, 3) := by decide +kernel
theorem d_Mo_folds_41 : decode b_Mo_folds 41 = .ok (.iload_n 1, 1) := by decide +kernel
theorem d_Mo_folds_42 : decode b_Mo_folds 42 = .ok (.iaload, 1) := by decide +kernel
theorem d_Mo_folds_43 : decode b_Mo_folds 43 = .ok (.aload_n 0, 1) := by decide +kernel
theorem d_Mo_folds_44 : decode b_Mo_folds 44 = .ok (.getfield 115, 3) := by decide +kernel
theorem d_Mo_folds_47 : decode b_Mo_folds 47 = .ok (.if_icmp .ne 96, 3) := by decide +kernel
theorem d_Mo_folds_50 : decode b_Mo_folds 50 = .ok (.aload_n 0, 1) := by decide +kernel
theorem d_Mo_folds_51 : decode b_Mo_folds 51 = .ok (.getfield 118, 3) := by decide +kernel
theorem d_Mo_folds_54 : decode b_Mo_folds 54 = .ok (.iconst (-1), 1) := by decide +kernel
theorem d_Mo_folds_55 : decode b_Mo_folds 55 = .ok (.if_icmp .eq 16, 3) := by decide +kernel
theorem d_Mo_folds_58 : decode b_Mo_folds 58 = .ok (.aload_n 0, 1) := by decide +kernel
theorem d_Mo_folds_59 : decode b_Mo_folds 59 = .ok (.getfield 13, 3) := by decide +kernel
theorem d_Mo_folds_62 : decode b_Mo_folds 62 = .ok (.iload_n 2, 1) := by decide +kernel
theorem d_Mo_folds_63 : decode b_Mo_folds 63 = .ok (.iaload, 1) := by decide +kernel
theorem d_Mo_folds_64 : decode b_Mo_folds 64 = .ok (.aload_n 0, 1) := by decide +kernel
theorem d_Mo_folds_65 : decode b_Mo_folds 65 = .ok (.getfield 118, 3) := by decide +kernel
theorem d_Mo_folds_68 : decode b_Mo_folds 68 = .ok (.if_icmp .ne 28, 3) := by decide +kernel
theorem d_Mo_folds_71 : decode b_Mo_folds 71 = .ok (.aload_n 0, 1) := by decide +kernel
theorem d_Mo_folds_72 : decode b_Mo_folds 72 = .ok (.iload_n 1, 1) := by decide +kernel
theorem d_Mo_folds_73 : decode b_Mo_folds 73 = .ok (.aload_n 0, 1) := by decide +kernel
theorem d_Mo_folds_74 : decode b_Mo_folds 74 = .ok (.getfield 118, 3) := by decide +kernel
theorem d_Mo_folds_77 : decode b_Mo_folds 77 = .ok (.iconst (-1), 1) := by decide +kernel
theorem d_Mo_folds_78 : decode b_Mo_folds 78 = .ok (.if_icmp .ne 7, 3) := by decide +kernel
theorem d_Mo_folds_81 : decode b_Mo_folds 81 = .ok (.iload_n 1, 1) := by decide +kernel
theorem d_Mo_folds_82 : decode b_Mo_folds 82 = .ok (.goto 4, 3) := by decide +kernel
theorem d_Mo_folds_85 : decode b_Mo_folds 85 = .ok (.iload_n 2, 1) := by decide +kernel
theorem d_Mo_folds_86 : decode b_Mo_folds 86 = .ok (.invokevirtual 168, 3) := by decide +kernel
theorem d_Mo_folds_89 : decode b_Mo_folds 89 = .ok (.ifCond .eq 7, 3) := by decide +kernel
theorem d_Mo_folds_92 : decode b_Mo_folds 92 = .ok (.iconst 1, 1) := by decide +kernel
theorem d_Mo_folds_93 : decode b_Mo_folds 93 = .ok (.goto 4, 3) := by decide +kernel
theorem d_Mo_folds_96 : decode b_Mo_folds 96 = .ok (.iconst 0, 1) := by decide +kernel
theorem d_Mo_folds_97 : decode b_Mo_folds 97 = .ok (.istore_n 3, 1) := by decide +kernel
theorem d_Mo_folds_98 : decode b_Mo_folds 98 = .ok (.aload_n 0, 1) := by decide +kernel
theorem d_Mo_folds_99 : decode b_Mo_folds 99 = .ok (.dup, 1) := by decide +kernel
theorem d_Mo_folds_100 : decode b_Mo_folds 100 = .ok (.getfield 172, 3) := by decide +kernel
theorem d_Mo_folds_103 : decode b_Mo_folds 103 = .ok (.iload_n 3, 1) := by decide +kernel
theorem d_Mo_folds_104 : decode b_Mo_folds 104 = .ok (.ifCond .ne 7, 3) := by decide +kernel
theorem d_Mo_folds_107 : decode b_Mo_folds 107 = .ok (.lconst 0, 1) := by decide +kernel
theorem d_Mo_folds_108 : decode b_Mo_folds 108 = .ok (.goto 25, 3) := by decide +kernel
theorem d_Mo_folds_111 : decode b_Mo_folds 111 = .ok (.aload_n 0, 1) := by decide +kernel
theorem d_Mo_folds_112 : decode b_Mo_folds 112 = .ok (.getfield 28, 3) := by decide +kernel
theorem d_Mo_folds_115 : decode b_Mo_folds 115 = .ok (.iconst 1, 1) := by decide +kernel
theorem d_Mo_folds_116 : decode b_Mo_folds 116 = .ok (.iaload, 1) := by decide +kernel
theorem d_Mo_folds_117 : decode b_Mo_folds 117 = .ok (.iconst 5, 1) := by decide +kernel
theorem d_Mo_folds_118 : decode b_Mo_folds 118 = .ok (.if_icmp .ne 7, 3) := by decide +kernel
theorem d_Mo_folds_121 : decode b_Mo_folds 121 = .ok (.lconst 1, 1) := by decide +kernel
theorem d_Mo_folds_122 : decode b_Mo_folds 122 = .ok (.goto 11, 3) := by decide +kernel
theorem d_Mo_folds_125 : decode b_Mo_folds 125 = .ok (.aload_n 0, 1) := by decide +kernel
theorem d_Mo_folds_126 : decode b_Mo_folds 126 = .ok (.iconst 2, 1) := by decide +kernel
theorem d_Mo_folds_127 : decode b_Mo_folds 127 = .ok (.iload_n 1, 1) := by decide +kernel
theorem d_Mo_folds_128 : decode b_Mo_folds 128 = .ok (.iload_n 2, 1) := by decide +kernel
theorem d_Mo_folds_129 : decode b_Mo_folds 129 = .ok (.invokevirtual 155, 3) := by decide +kernel
theorem d_Mo_folds_132 : decode b_Mo_folds 132 = .ok (.i2l, 1) := by decide +kernel
theorem d_Mo_folds_133 : decode b_Mo_folds 133 = .ok (.ladd, 1) := by decide +kernel
theorem d_Mo_folds_134 : decode b_Mo_folds 134 = .ok (.putfield 172, 3) := by decide +kernel
theorem d_Mo_folds_137 : decode b_Mo_folds 137 = .ok (.iinc 2 1, 3) := by decide +kernel
theorem d_Mo_folds_140 : decode b_Mo_folds 140 = .ok (.goto (-123), 3) := by decide +kernel
theorem d_Mo_folds_143 : decode b_Mo_folds 143 = .ok (.iinc 1 1, 3) := by decide +kernel
theorem d_Mo_folds_146 : decode b_Mo_folds 146 = .ok (.goto (-139), 3) := by decide +kernel
theorem d_Mo_folds_149 : decode b_Mo_folds 149 = .ok (.return_, 1) := by decide +kernel
theorem d_Mo_isFold_0 : decode b_Mo_isFold 0 = .ok (.aload_n 0, 1) := by decide +kernel
theorem d_Mo_isFold_1 : decode b_Mo_isFold 1 = .ok (.getfield 25, 3) := by decide +kernel
theorem d_Mo_isFold_4 : decode b_Mo_isFold 4 = .ok (.iconst 1, 1) := by decide +kernel
theorem d_Mo_isFold_5 : decode b_Mo_isFold 5 = .ok (.iaload, 1) := by decide +kernel
theorem d_Mo_isFold_6 : decode b_Mo_isFold 6 = .ok (.ifCond .ne 17, 3) := by decide +kernel
theorem d_Mo_isFold_9 : decode b_Mo_isFold 9 = .ok (.aload_n 0, 1) := by decide +kernel
theorem d_Mo_isFold_10 : decode b_Mo_isFold 10 = .ok (.getfield 28, 3) := by decide +kernel
theorem d_Mo_isFold_13 : decode b_Mo_isFold 13 = .ok (.iconst 1, 1) := by decide +kernel
theorem d_Mo_isFold_14 : decode b_Mo_isFold 14 = .ok (.iaload, 1) := by decide +kernel
theorem d_Mo_isFold_15 : decode b_Mo_isFold 15 = .ok (.iconst 4, 1) := by decide +kernel
theorem d_Mo_isFold_16 : decode b_Mo_isFold 16 = .ok (.if_icmp .eq 7, 3) := by decide +kernel
theorem d_Mo_isFold_19 : decode b_Mo_isFold 19 = .ok (.iconst 1, 1) := by decide +kernel
theorem d_Mo_isFold_20 : decode b_Mo_isFold 20 = .ok (.goto 4, 3) := by decide +kernel
theorem d_Mo_isFold_23 : decode b_Mo_isFold 23 = .ok (.iconst 0, 1) := by decide +kernel
theorem d_Mo_isFold_24 : decode b_Mo_isFold 24 = .ok (.ireturn, 1) := by decide +kernel
theorem d_Mo_selects_0 : decode b_Mo_selects 0 = .ok (.aload_n 0, 1) := by decide +kernel
theorem d_Mo_selects_1 : decode b_Mo_selects 1 = .ok (.invokevirtual 176, 3) := by decide +kernel
theorem d_Mo_selects_4 : decode b_Mo_selects 4 = .ok (.ifCond .eq 29, 3) := by decide +kernel
theorem d_Mo_selects_7 : decode b_Mo_selects 7 = .ok (.aload_n 0, 1) := by decide +kernel
theorem d_Mo_selects_8 : decode b_Mo_selects 8 = .ok (.invokevirtual 179, 3) := by decide +kernel
theorem d_Mo_selects_11 : decode b_Mo_selects 11 = .ok (.aload_n 0, 1) := by decide +kernel
theorem d_Mo_selects_12 : decode b_Mo_selects 12 = .ok (.iconst 1, 1) := by decide +kernel
theorem d_Mo_selects_13 : decode b_Mo_selects 13 = .ok (.putfield 136, 3) := by decide +kernel
theorem d_Mo_selects_16 : decode b_Mo_selects 16 = .ok (.aload_n 0, 1) := by decide +kernel
theorem d_Mo_selects_17 : decode b_Mo_selects 17 = .ok (.iconst 1, 1) := by decide +kernel
theorem d_Mo_selects_18 : decode b_Mo_selects 18 = .ok (.putfield 148, 3) := by decide +kernel
theorem d_Mo_selects_21 : decode b_Mo_selects 21 = .ok (.aload_n 0, 1) := by decide +kernel
theorem d_Mo_selects_22 : decode b_Mo_selects 22 = .ok (.dup, 1) := by decide +kernel
theorem d_Mo_selects_23 : decode b_Mo_selects 23 = .ok (.getfield 139, 3) := by decide +kernel
theorem d_Mo_selects_26 : decode b_Mo_selects 26 = .ok (.iconst 1, 1) := by decide +kernel
theorem d_Mo_selects_27 : decode b_Mo_selects 27 = .ok (.iadd, 1) := by decide +kernel
theorem d_Mo_selects_28 : decode b_Mo_selects 28 = .ok (.putfield 139, 3) := by decide +kernel
theorem d_Mo_selects_31 : decode b_Mo_selects 31 = .ok (.iconst 1, 1) := by decide +kernel
theorem d_Mo_selects_32 : decode b_Mo_selects 32 = .ok (.ireturn, 1) := by decide +kernel
theorem d_Mo_selects_33 : decode b_Mo_selects 33 = .ok (.aload_n 0, 1) := by decide +kernel
theorem d_Mo_selects_34 : decode b_Mo_selects 34 = .ok (.invokevirtual 182, 3) := by decide +kernel
theorem d_Mo_selects_37 : decode b_Mo_selects 37 = .ok (.istore_n 1, 1) := by decide +kernel
theorem d_Mo_selects_38 : decode b_Mo_selects 38 = .ok (.iload_n 1, 1) := by decide +kernel
theorem d_Mo_selects_39 : decode b_Mo_selects 39 = .ok (.ifCond .eq 26, 3) := by decide +kernel
theorem d_Mo_selects_42 : decode b_Mo_selects 42 = .ok (.aload_n 0, 1) := by decide +kernel
theorem d_Mo_selects_43 : decode b_Mo_selects 43 = .ok (.aload_n 0, 1) := by decide +kernel
theorem d_Mo_selects_44 : decode b_Mo_selects 44 = .ok (.getfield 142, 3) := by decide +kernel
theorem d_Mo_selects_47 : decode b_Mo_selects 47 = .ok (.aload_n 0, 1) := by decide +kernel
theorem d_Mo_selects_48 : decode b_Mo_selects 48 = .ok (.getfield 145, 3) := by decide +kernel
theorem d_Mo_selects_51 : decode b_Mo_selects 51 = .ok (.invokevirtual 168, 3) := by decide +kernel
theorem d_Mo_selects_54 : decode b_Mo_selects 54 = .ok (.ifCond .ne 11, 3) := by decide +kernel
theorem d_Mo_selects_57 : decode b_Mo_selects 57 = .ok (.aload_n 0, 1) := by decide +kernel
theorem d_Mo_selects_58 : decode b_Mo_selects 58 = .ok (.invokevirtual 182, 3) := by decide +kernel
theorem d_Mo_selects_61 : decode b_Mo_selects 61 = .ok (.istore_n 1, 1) := by decide +kernel
theorem d_Mo_selects_62 : decode b_Mo_selects 62 = .ok (.goto (-24), 3) := by decide +kernel
theorem d_Mo_selects_65 : decode b_Mo_selects 65 = .ok (.aload_n 0, 1) := by decide +kernel
theorem d_Mo_selects_66 : decode b_Mo_selects 66 = .ok (.iload_n 1, 1) := by decide +kernel
theorem d_Mo_selects_67 : decode b_Mo_selects 67 = .ok (.ifCond .eq 7, 3) := by decide +kernel
theorem d_Mo_selects_70 : decode b_Mo_selects 70 = .ok (.iconst 0, 1) := by decide +kernel
theorem d_Mo_selects_71 : decode b_Mo_selects 71 = .ok (.goto 4, 3) := by decide +kernel
theorem d_Mo_selects_74 : decode b_Mo_selects 74 = .ok (.iconst 1, 1) := by decide +kernel
theorem d_Mo_selects_75 : decode b_Mo_selects 75 = .ok (.putfield 136, 3) := by decide +kernel
theorem d_Mo_selects_78 : decode b_Mo_selects 78 = .ok (.aload_n 0, 1) := by decide +kernel
theorem d_Mo_selects_79 : decode b_Mo_selects 79 = .ok (.iload_n 1, 1) := by decide +kernel
theorem d_Mo_selects_80 : decode b_Mo_selects 80 = .ok (.putfield 148, 3) := by decide +kernel
theorem d_Mo_selects_83 : decode b_Mo_selects 83 = .ok (.aload_n 0, 1) := by decide +kernel
theorem d_Mo_selects_84 : decode b_Mo_selects 84 = .ok (.dup, 1) := by decide +kernel
theorem d_Mo_selects_85 : decode b_Mo_selects 85 = .ok (.getfield 139, 3) := by decide +kernel
theorem d_Mo_selects_88 : decode b_Mo_selects 88 = .ok (.iload_n 1, 1) := by decide +kernel
theorem d_Mo_selects_89 : decode b_Mo_selects 89 = .ok (.ifCond .eq 7, 3) := by decide +kernel
theorem d_Mo_selects_92 : decode b_Mo_selects 92 = .ok (.iconst 1, 1) := by decide +kernel
theorem d_Mo_selects_93 : decode b_Mo_selects 93 = .ok (.goto 4, 3) := by decide +kernel
theorem d_Mo_selects_96 : decode b_Mo_selects 96 = .ok (.iconst 0, 1) := by decide +kernel
theorem d_Mo_selects_97 : decode b_Mo_selects 97 = .ok (.iadd, 1) := by decide +kernel
theorem d_Mo_selects_98 : decode b_Mo_selects 98 = .ok (.putfield 139, 3) := by decide +kernel
theorem d_Mo_selects_101 : decode b_Mo_selects 101 = .ok (.iload_n 1, 1) := by decide +kernel
theorem d_Mo_selects_102 : decode b_Mo_selects 102 = .ok (.ifCond .eq 7, 3) := by decide +kernel
theorem d_Mo_selects_105 : decode b_Mo_selects 105 = .ok (.iconst 1, 1) := by decide +kernel
theorem d_Mo_selects_106 : decode b_Mo_selects 106 = .ok (.goto 4, 3) := by decide +kernel
theorem d_Mo_selects_109 : decode b_Mo_selects 109 = .ok (.iconst 0, 1) := by decide +kernel
theorem d_Mo_selects_110 : decode b_Mo_selects 110 = .ok (.ireturn, 1) := by decide +kernel
theorem d_Mo_step_0 : decode b_Mo_step 0 = .ok (.aload_n 0, 1) := by decide +kernel
theorem d_Mo_step_1 : decode b_Mo_step 1 = .ok (.aload_n 0, 1) := by decide +kernel
theorem d_Mo_step_2 : decode b_Mo_step 2 = .ok (.getfield 130, 3) := by decide +kernel
theorem d_Mo_step_5 : decode b_Mo_step 5 = .ok (.ifCond .eq 7, 3) := by decide +kernel
theorem d_Mo_step_8 : decode b_Mo_step 8 = .ok (.iconst 0, 1) := by decide +kernel
theorem d_Mo_step_9 : decode b_Mo_step 9 = .ok (.goto 4, 3) := by decide +kernel
theorem d_Mo_step_12 : decode b_Mo_step 12 = .ok (.iconst 1, 1) := by decide +kernel
theorem d_Mo_step_13 : decode b_Mo_step 13 = .ok (.putfield 31, 3) := by decide +kernel
theorem d_Mo_step_16 : decode b_Mo_step 16 = .ok (.aload_n 0, 1) := by decide +kernel
theorem d_Mo_step_17 : decode b_Mo_step 17 = .ok (.getfield 130, 3) := by decide +kernel
theorem d_Mo_step_20 : decode b_Mo_step 20 = .ok (.ifCond .ne 5, 3) := by decide +kernel
theorem d_Mo_step_23 : decode b_Mo_step 23 = .ok (.iconst 0, 1) := by decide +kernel
theorem d_Mo_step_24 : decode b_Mo_step 24 = .ok (.ireturn, 1) := by decide +kernel
theorem d_Mo_step_25 : decode b_Mo_step 25 = .ok (.aload_n 0, 1) := by decide +kernel
theorem d_Mo_step_26 : decode b_Mo_step 26 = .ok (.iconst 0, 1) := by decide +kernel
theorem d_Mo_step_27 : decode b_Mo_step 27 = .ok (.putfield 148, 3) := by decide +kernel
theorem d_Mo_step_30 : decode b_Mo_step 30 = .ok (.aload_n 0, 1) := by decide +kernel
theorem d_Mo_step_31 : decode b_Mo_step 31 = .ok (.getfield 136, 3) := by decide +kernel
theorem d_Mo_step_34 : decode b_Mo_step 34 = .ok (.iconst 1, 1) := by decide +kernel
theorem d_Mo_step_35 : decode b_Mo_step 35 = .ok (.if_icmp .ne 5, 3) := by decide +kernel
theorem d_Mo_step_38 : decode b_Mo_step 38 = .ok (.iconst 0, 1) := by decide +kernel
theorem d_Mo_step_39 : decode b_Mo_step 39 = .ok (.ireturn, 1) := by decide +kernel
theorem d_Mo_step_40 : decode b_Mo_step 40 = .ok (.aload_n 0, 1) := by decide +kernel
theorem d_Mo_step_41 : decode b_Mo_step 41 = .ok (.getfield 28, 3) := by decide +kernel
theorem d_Mo_step_44 : decode b_Mo_step 44 = .ok (.iconst 0, 1) := by decide +kernel
theorem d_Mo_step_45 : decode b_Mo_step 45 = .ok (.iaload, 1) := by decide +kernel
theorem d_Mo_step_46 : decode b_Mo_step 46 = .ok (.iconst 3, 1) := by decide +kernel
theorem d_Mo_step_47 : decode b_Mo_step 47 = .ok (.if_icmp .ne 8, 3) := by decide +kernel
theorem d_Mo_step_50 : decode b_Mo_step 50 = .ok (.aload_n 0, 1) := by decide +kernel
theorem d_Mo_step_51 : decode b_Mo_step 51 = .ok (.invokevirtual 185, 3) := by decide +kernel
theorem d_Mo_step_54 : decode b_Mo_step 54 = .ok (.ireturn, 1) := by decide +kernel
theorem d_Mo_step_55 : decode b_Mo_step 55 = .ok (.aload_n 0, 1) := by decide +kernel
theorem d_Mo_step_56 : decode b_Mo_step 56 = .ok (.iconst 1, 1) := by decide +kernel
theorem d_Mo_step_57 : decode b_Mo_step 57 = .ok (.putfield 136, 3) := by decide +kernel
theorem d_Mo_step_60 : decode b_Mo_step 60 = .ok (.aload_n 0, 1) := by decide +kernel
theorem d_Mo_step_61 : decode b_Mo_step 61 = .ok (.getfield 28, 3) := by decide +kernel
theorem d_Mo_step_64 : decode b_Mo_step 64 = .ok (.iconst 0, 1) := by decide +kernel
theorem d_Mo_step_65 : decode b_Mo_step 65 = .ok (.iaload, 1) := by decide +kernel
theorem d_Mo_step_66 : decode b_Mo_step 66 = .ok (.ifCond .ne 10, 3) := by decide +kernel
theorem d_Mo_step_69 : decode b_Mo_step 69 = .ok (.aload_n 0, 1) := by decide +kernel
theorem d_Mo_step_70 : decode b_Mo_step 70 = .ok (.invokevirtual 188, 3) := by decide +kernel
theorem d_Mo_step_73 : decode b_Mo_step 73 = .ok (.goto 24, 3) := by decide +kernel
theorem d_Mo_step_76 : decode b_Mo_step 76 = .ok (.aload_n 0, 1) := by decide +kernel
theorem d_Mo_step_77 : decode b_Mo_step 77 = .ok (.getfield 28, 3) := by decide +kernel
theorem d_Mo_step_80 : decode b_Mo_step 80 = .ok (.iconst 0, 1) := by decide +kernel
theorem d_Mo_step_81 : decode b_Mo_step 81 = .ok (.iaload, 1) := by decide +kernel
theorem d_Mo_step_82 : decode b_Mo_step 82 = .ok (.iconst 1, 1) := by decide +kernel
theorem d_Mo_step_83 : decode b_Mo_step 83 = .ok (.if_icmp .ne 10, 3) := by decide +kernel
theorem d_Mo_step_86 : decode b_Mo_step 86 = .ok (.aload_n 0, 1) := by decide +kernel
theorem d_Mo_step_87 : decode b_Mo_step 87 = .ok (.invokevirtual 191, 3) := by decide +kernel
theorem d_Mo_step_90 : decode b_Mo_step 90 = .ok (.goto 7, 3) := by decide +kernel
theorem d_Mo_step_93 : decode b_Mo_step 93 = .ok (.aload_n 0, 1) := by decide +kernel
theorem d_Mo_step_94 : decode b_Mo_step 94 = .ok (.invokevirtual 194, 3) := by decide +kernel
theorem d_Mo_step_97 : decode b_Mo_step 97 = .ok (.ireturn, 1) := by decide +kernel
theorem d_Mo_reset_0 : decode b_Mo_reset 0 = .ok (.aload_n 0, 1) := by decide +kernel
theorem d_Mo_reset_1 : decode b_Mo_reset 1 = .ok (.aload_n 0, 1) := by decide +kernel
theorem d_Mo_reset_2 : decode b_Mo_reset 2 = .ok (.getfield 130, 3) := by decide +kernel
theorem d_Mo_reset_5 : decode b_Mo_reset 5 = .ok (.ifCond .eq 7, 3) := by decide +kernel
theorem d_Mo_reset_8 : decode b_Mo_reset 8 = .ok (.iconst 0, 1) := by decide +kernel
theorem d_Mo_reset_9 : decode b_Mo_reset 9 = .ok (.goto 4, 3) := by decide +kernel
theorem d_Mo_reset_12 : decode b_Mo_reset 12 = .ok (.iconst 1, 1) := by decide +kernel
theorem d_Mo_reset_13 : decode b_Mo_reset 13 = .ok (.putfield 31, 3) := by decide +kernel
theorem d_Mo_reset_16 : decode b_Mo_reset 16 = .ok (.aload_n 0, 1) := by decide +kernel
theorem d_Mo_reset_17 : decode b_Mo_reset 17 = .ok (.getfield 130, 3) := by decide +kernel
theorem d_Mo_reset_20 : decode b_Mo_reset 20 = .ok (.ifCond .ne 5, 3) := by decide +kernel
theorem d_Mo_reset_23 : decode b_Mo_reset 23 = .ok (.iconst 0, 1) := by decide +kernel
theorem d_Mo_reset_24 : decode b_Mo_reset 24 = .ok (.ireturn, 1) := by decide +kernel
theorem d_Mo_reset_25 : decode b_Mo_reset 25 = .ok (.aload_n 0, 1) := by decide +kernel
theorem d_Mo_reset_26 : decode b_Mo_reset 26 = .ok (.getfield 139, 3) := by decide +kernel
theorem d_Mo_reset_29 : decode b_Mo_reset 29 = .ok (.istore_n 1, 1) := by decide +kernel
theorem d_Mo_reset_30 : decode b_Mo_reset 30 = .ok (.aload_n 0, 1) := by decide +kernel
theorem d_Mo_reset_31 : decode b_Mo_reset 31 = .ok (.invokevirtual 133, 3) := by decide +kernel
theorem d_Mo_reset_34 : decode b_Mo_reset 34 = .ok (.iload_n 1, 1) := by decide +kernel
theorem d_Mo_reset_35 : decode b_Mo_reset 35 = .ok (.ireturn, 1) := by decide +kernel
theorem d_Mo_listed_0 : decode b_Mo_listed 0 = .ok (.iconst 0, 1) := by decide +kernel
theorem d_Mo_listed_1 : decode b_Mo_listed 1 = .ok (.istore_n 1, 1) := by decide +kernel
theorem d_Mo_listed_2 : decode b_Mo_listed 2 = .ok (.aload_n 0, 1) := by decide +kernel
theorem d_Mo_listed_3 : decode b_Mo_listed 3 = .ok (.getfield 25, 3) := by decide +kernel
theorem d_Mo_listed_6 : decode b_Mo_listed 6 = .ok (.iconst 1, 1) := by decide +kernel
theorem d_Mo_listed_7 : decode b_Mo_listed 7 = .ok (.iload_n 1, 1) := by decide +kernel
theorem d_Mo_listed_8 : decode b_Mo_listed 8 = .ok (.iadd, 1) := by decide +kernel
theorem d_Mo_listed_9 : decode b_Mo_listed 9 = .ok (.iaload, 1) := by decide +kernel
theorem d_Mo_listed_10 : decode b_Mo_listed 10 = .ok (.iconst 2, 1) := by decide +kernel
theorem d_Mo_listed_11 : decode b_Mo_listed 11 = .ok (.if_icmp .ne 9, 3) := by decide +kernel
theorem d_Mo_listed_14 : decode b_Mo_listed 14 = .ok (.iinc 1 1, 3) := by decide +kernel
theorem d_Mo_listed_17 : decode b_Mo_listed 17 = .ok (.goto (-15), 3) := by decide +kernel
theorem d_Mo_listed_20 : decode b_Mo_listed 20 = .ok (.iload_n 1, 1) := by decide +kernel
theorem d_Mo_listed_21 : decode b_Mo_listed 21 = .ok (.ireturn, 1) := by decide +kernel
theorem d_Mo_wide_0 : decode b_Mo_wide 0 = .ok (.aload_n 0, 1) := by decide +kernel
theorem d_Mo_wide_1 : decode b_Mo_wide 1 = .ok (.getfield 28, 3) := by decide +kernel
theorem d_Mo_wide_4 : decode b_Mo_wide 4 = .ok (.iconst 0, 1) := by decide +kernel
theorem d_Mo_wide_5 : decode b_Mo_wide 5 = .ok (.iaload, 1) := by decide +kernel
theorem d_Mo_wide_6 : decode b_Mo_wide 6 = .ok (.iconst 3, 1) := by decide +kernel
theorem d_Mo_wide_7 : decode b_Mo_wide 7 = .ok (.if_icmp .eq 5, 3) := by decide +kernel
theorem d_Mo_wide_10 : decode b_Mo_wide 10 = .ok (.iconst 0, 1) := by decide +kernel
theorem d_Mo_wide_11 : decode b_Mo_wide 11 = .ok (.ireturn, 1) := by decide +kernel
theorem d_Mo_wide_12 : decode b_Mo_wide 12 = .ok (.aload_n 0, 1) := by decide +kernel
theorem d_Mo_wide_13 : decode b_Mo_wide 13 = .ok (.invokevirtual 176, 3) := by decide +kernel
theorem d_Mo_wide_16 : decode b_Mo_wide 16 = .ok (.ifCond .eq 5, 3) := by decide +kernel
theorem d_Mo_wide_19 : decode b_Mo_wide 19 = .ok (.iconst 1, 1) := by decide +kernel
theorem d_Mo_wide_20 : decode b_Mo_wide 20 = .ok (.ireturn, 1) := by decide +kernel
theorem d_Mo_wide_21 : decode b_Mo_wide 21 = .ok (.aload_n 0, 1) := by decide +kernel
theorem d_Mo_wide_22 : decode b_Mo_wide 22 = .ok (.getfield 25, 3) := by decide +kernel
theorem d_Mo_wide_25 : decode b_Mo_wide 25 = .ok (.iconst 1, 1) := by decide +kernel
theorem d_Mo_wide_26 : decode b_Mo_wide 26 = .ok (.iaload, 1) := by decide +kernel
theorem d_Mo_wide_27 : decode b_Mo_wide 27 = .ok (.ifCond .ne 37, 3) := by decide +kernel
theorem d_Mo_wide_30 : decode b_Mo_wide 30 = .ok (.aload_n 0, 1) := by decide +kernel
theorem d_Mo_wide_31 : decode b_Mo_wide 31 = .ok (.getfield 7, 3) := by decide +kernel
theorem d_Mo_wide_34 : decode b_Mo_wide 34 = .ok (.aload_n 0, 1) := by decide +kernel
theorem d_Mo_wide_35 : decode b_Mo_wide 35 = .ok (.getfield 115, 3) := by decide +kernel
theorem d_Mo_wide_38 : decode b_Mo_wide 38 = .ok (.iaload, 1) := by decide +kernel
theorem d_Mo_wide_39 : decode b_Mo_wide 39 = .ok (.aload_n 0, 1) := by decide +kernel
theorem d_Mo_wide_40 : decode b_Mo_wide 40 = .ok (.getfield 118, 3) := by decide +kernel
theorem d_Mo_wide_43 : decode b_Mo_wide 43 = .ok (.iconst (-1), 1) := by decide +kernel
theorem d_Mo_wide_44 : decode b_Mo_wide 44 = .ok (.if_icmp .ne 7, 3) := by decide +kernel
theorem d_Mo_wide_47 : decode b_Mo_wide 47 = .ok (.iconst 0, 1) := by decide +kernel
theorem d_Mo_wide_48 : decode b_Mo_wide 48 = .ok (.goto 12, 3) := by decide +kernel
theorem d_Mo_wide_51 : decode b_Mo_wide 51 = .ok (.aload_n 0, 1) := by decide +kernel
theorem d_Mo_wide_52 : decode b_Mo_wide 52 = .ok (.getfield 7, 3) := by decide +kernel
theorem d_Mo_wide_55 : decode b_Mo_wide 55 = .ok (.aload_n 0, 1) := by decide +kernel
theorem d_Mo_wide_56 : decode b_Mo_wide 56 = .ok (.getfield 118, 3) := by decide +kernel
theorem d_Mo_wide_59 : decode b_Mo_wide 59 = .ok (.iaload, 1) := by decide +kernel
theorem d_Mo_wide_60 : decode b_Mo_wide 60 = .ok (.iadd, 1) := by decide +kernel
theorem d_Mo_wide_61 : decode b_Mo_wide 61 = .ok (.goto 7, 3) := by decide +kernel
theorem d_Mo_wide_64 : decode b_Mo_wide 64 = .ok (.aload_n 0, 1) := by decide +kernel
theorem d_Mo_wide_65 : decode b_Mo_wide 65 = .ok (.invokevirtual 197, 3) := by decide +kernel
theorem d_Mo_wide_68 : decode b_Mo_wide 68 = .ok (.ireturn, 1) := by decide +kernel
theorem d_Mo_width_0 : decode b_Mo_width 0 = .ok (.aload_n 0, 1) := by decide +kernel
theorem d_Mo_width_1 : decode b_Mo_width 1 = .ok (.aload_n 0, 1) := by decide +kernel
theorem d_Mo_width_2 : decode b_Mo_width 2 = .ok (.getfield 130, 3) := by decide +kernel
theorem d_Mo_width_5 : decode b_Mo_width 5 = .ok (.ifCond .eq 7, 3) := by decide +kernel
theorem d_Mo_width_8 : decode b_Mo_width 8 = .ok (.iconst 0, 1) := by decide +kernel
theorem d_Mo_width_9 : decode b_Mo_width 9 = .ok (.goto 4, 3) := by decide +kernel
theorem d_Mo_width_12 : decode b_Mo_width 12 = .ok (.iconst 1, 1) := by decide +kernel
theorem d_Mo_width_13 : decode b_Mo_width 13 = .ok (.putfield 31, 3) := by decide +kernel
theorem d_Mo_width_16 : decode b_Mo_width 16 = .ok (.aload_n 0, 1) := by decide +kernel
theorem d_Mo_width_17 : decode b_Mo_width 17 = .ok (.getfield 130, 3) := by decide +kernel
theorem d_Mo_width_20 : decode b_Mo_width 20 = .ok (.ifCond .eq 10, 3) := by decide +kernel
theorem d_Mo_width_23 : decode b_Mo_width 23 = .ok (.aload_n 0, 1) := by decide +kernel
theorem d_Mo_width_24 : decode b_Mo_width 24 = .ok (.invokevirtual 200, 3) := by decide +kernel
theorem d_Mo_width_27 : decode b_Mo_width 27 = .ok (.goto 4, 3) := by decide +kernel
theorem d_Mo_width_30 : decode b_Mo_width 30 = .ok (.iconst 0, 1) := by decide +kernel
theorem d_Mo_width_31 : decode b_Mo_width 31 = .ok (.ireturn, 1) := by decide +kernel
theorem d_Mo_column_0 : decode b_Mo_column 0 = .ok (.aload_n 0, 1) := by decide +kernel
theorem d_Mo_column_1 : decode b_Mo_column 1 = .ok (.getfield 130, 3) := by decide +kernel
theorem d_Mo_column_4 : decode b_Mo_column 4 = .ok (.ifCond .eq 10, 3) := by decide +kernel
theorem d_Mo_column_7 : decode b_Mo_column 7 = .ok (.aload_n 0, 1) := by decide +kernel
theorem d_Mo_column_8 : decode b_Mo_column 8 = .ok (.getfield 148, 3) := by decide +kernel
theorem d_Mo_column_11 : decode b_Mo_column 11 = .ok (.ifCond .ne 7, 3) := by decide +kernel
theorem d_Mo_column_14 : decode b_Mo_column 14 = .ok (.iconst 1, 1) := by decide +kernel
theorem d_Mo_column_15 : decode b_Mo_column 15 = .ok (.goto 4, 3) := by decide +kernel
theorem d_Mo_column_18 : decode b_Mo_column 18 = .ok (.iconst 0, 1) := by decide +kernel
theorem d_Mo_column_19 : decode b_Mo_column 19 = .ok (.istore_n 2, 1) := by decide +kernel
theorem d_Mo_column_20 : decode b_Mo_column 20 = .ok (.aload_n 0, 1) := by decide +kernel
theorem d_Mo_column_21 : decode b_Mo_column 21 = .ok (.iload_n 2, 1) := by decide +kernel
theorem d_Mo_column_22 : decode b_Mo_column 22 = .ok (.ifCond .eq 7, 3) := by decide +kernel
theorem d_Mo_column_25 : decode b_Mo_column 25 = .ok (.iconst 1, 1) := by decide +kernel
theorem d_Mo_column_26 : decode b_Mo_column 26 = .ok (.goto 20, 3) := by decide +kernel
theorem d_Mo_column_29 : decode b_Mo_column 29 = .ok (.iload_n 1, 1) := by decide +kernel
theorem d_Mo_column_30 : decode b_Mo_column 30 = .ok (.ifCond .lt 11, 3) := by decide +kernel
theorem d_Mo_column_33 : decode b_Mo_column 33 = .ok (.iload_n 1, 1) := by decide +kernel
theorem d_Mo_column_34 : decode b_Mo_column 34 = .ok (.aload_n 0, 1) := by decide +kernel
theorem d_Mo_column_35 : decode b_Mo_column 35 = .ok (.invokevirtual 200, 3) := by decide +kernel
theorem d_Mo_column_38 : decode b_Mo_column 38 = .ok (.if_icmp .lt 7, 3) := by decide +kernel
theorem d_Mo_column_41 : decode b_Mo_column 41 = .ok (.iconst 2, 1) := by decide +kernel
theorem d_Mo_column_42 : decode b_Mo_column 42 = .ok (.goto 4, 3) := by decide +kernel
theorem d_Mo_column_45 : decode b_Mo_column 45 = .ok (.iconst 0, 1) := by decide +kernel
theorem d_Mo_column_46 : decode b_Mo_column 46 = .ok (.putfield 31, 3) := by decide +kernel
theorem d_Mo_column_49 : decode b_Mo_column 49 = .ok (.aload_n 0, 1) := by decide +kernel
theorem d_Mo_column_50 : decode b_Mo_column 50 = .ok (.getfield 31, 3) := by decide +kernel
theorem d_Mo_column_53 : decode b_Mo_column 53 = .ok (.ifCond .le 5, 3) := by decide +kernel
theorem d_Mo_column_56 : decode b_Mo_column 56 = .ok (.lconst 0, 1) := by decide +kernel
theorem d_Mo_column_57 : decode b_Mo_column 57 = .ok (.lreturn, 1) := by decide +kernel
theorem d_Mo_column_58 : decode b_Mo_column 58 = .ok (.aload_n 0, 1) := by decide +kernel
theorem d_Mo_column_59 : decode b_Mo_column 59 = .ok (.invokevirtual 176, 3) := by decide +kernel
theorem d_Mo_column_62 : decode b_Mo_column 62 = .ok (.ifCond .eq 8, 3) := by decide +kernel
theorem d_Mo_column_65 : decode b_Mo_column 65 = .ok (.aload_n 0, 1) := by decide +kernel
theorem d_Mo_column_66 : decode b_Mo_column 66 = .ok (.getfield 172, 3) := by decide +kernel
theorem d_Mo_column_69 : decode b_Mo_column 69 = .ok (.lreturn, 1) := by decide +kernel
theorem d_Mo_column_70 : decode b_Mo_column 70 = .ok (.aload_n 0, 1) := by decide +kernel
theorem d_Mo_column_71 : decode b_Mo_column 71 = .ok (.getfield 25, 3) := by decide +kernel
theorem d_Mo_column_74 : decode b_Mo_column 74 = .ok (.iconst 1, 1) := by decide +kernel
theorem d_Mo_column_75 : decode b_Mo_column 75 = .ok (.iaload, 1) := by decide +kernel
theorem d_Mo_column_76 : decode b_Mo_column 76 = .ok (.iconst 2, 1) := by decide +kernel
theorem d_Mo_column_77 : decode b_Mo_column 77 = .ok (.if_icmp .ne 20, 3) := by decide +kernel
theorem d_Mo_column_80 : decode b_Mo_column 80 = .ok (.aload_n 0, 1) := by decide +kernel
theorem d_Mo_column_81 : decode b_Mo_column 81 = .ok (.iconst 1, 1) := by decide +kernel
theorem d_Mo_column_82 : decode b_Mo_column 82 = .ok (.iload_n 1, 1) := by decide +kernel
theorem d_Mo_column_83 : decode b_Mo_column 83 = .ok (.iadd, 1) := by decide +kernel
theorem d_Mo_column_84 : decode b_Mo_column 84 = .ok (.aload_n 0, 1) := by decide +kernel
theorem d_Mo_column_85 : decode b_Mo_column 85 = .ok (.getfield 142, 3) := by decide +kernel
theorem d_Mo_column_88 : decode b_Mo_column 88 = .ok (.aload_n 0, 1) := by decide +kernel
theorem d_Mo_column_89 : decode b_Mo_column 89 = .ok (.getfield 145, 3) := by decide +kernel
theorem d_Mo_column_92 : decode b_Mo_column 92 = .ok (.invokevirtual 155, 3) := by decide +kernel
theorem d_Mo_column_95 : decode b_Mo_column 95 = .ok (.i2l, 1) := by decide +kernel
theorem d_Mo_column_96 : decode b_Mo_column 96 = .ok (.lreturn, 1) := by decide +kernel
theorem d_Mo_column_97 : decode b_Mo_column 97 = .ok (.iload_n 1, 1) := by decide +kernel
theorem d_Mo_column_98 : decode b_Mo_column 98 = .ok (.aload_n 0, 1) := by decide +kernel
theorem d_Mo_column_99 : decode b_Mo_column 99 = .ok (.getfield 7, 3) := by decide +kernel
theorem d_Mo_column_102 : decode b_Mo_column 102 = .ok (.aload_n 0, 1) := by decide +kernel
theorem d_Mo_column_103 : decode b_Mo_column 103 = .ok (.getfield 115, 3) := by decide +kernel
theorem d_Mo_column_106 : decode b_Mo_column 106 = .ok (.iaload, 1) := by decide +kernel
theorem d_Mo_column_107 : decode b_Mo_column 107 = .ok (.if_icmp .ge 16, 3) := by decide +kernel
theorem d_Mo_column_110 : decode b_Mo_column 110 = .ok (.aload_n 0, 1) := by decide +kernel
theorem d_Mo_column_111 : decode b_Mo_column 111 = .ok (.aload_n 0, 1) := by decide +kernel
theorem d_Mo_column_112 : decode b_Mo_column 112 = .ok (.getfield 142, 3) := by decide +kernel
theorem d_Mo_column_115 : decode b_Mo_column 115 = .ok (.iload_n 1, 1) := by decide +kernel
theorem d_Mo_column_116 : decode b_Mo_column 116 = .ok (.invokevirtual 151, 3) := by decide +kernel
theorem d_Mo_column_119 : decode b_Mo_column 119 = .ok (.i2l, 1) := by decide +kernel
theorem d_Mo_column_120 : decode b_Mo_column 120 = .ok (.goto 23, 3) := by decide +kernel
theorem d_Mo_column_123 : decode b_Mo_column 123 = .ok (.aload_n 0, 1) := by decide +kernel
theorem d_Mo_column_124 : decode b_Mo_column 124 = .ok (.aload_n 0, 1) := by decide +kernel
theorem d_Mo_column_125 : decode b_Mo_column 125 = .ok (.getfield 145, 3) := by decide +kernel
theorem d_Mo_column_128 : decode b_Mo_column 128 = .ok (.iload_n 1, 1) := by decide +kernel
theorem d_Mo_column_129 : decode b_Mo_column 129 = .ok (.aload_n 0, 1) := by decide +kernel
theorem d_Mo_column_130 : decode b_Mo_column 130 = .ok (.getfield 7, 3) := by decide +kernel
theorem d_Mo_column_133 : decode b_Mo_column 133 = .ok (.aload_n 0, 1) := by decide +kernel
theorem d_Mo_column_134 : decode b_Mo_column 134 = .ok (.getfield 115, 3) := by decide +kernel
theorem d_Mo_column_137 : decode b_Mo_column 137 = .ok (.iaload, 1) := by decide +kernel
theorem d_Mo_column_138 : decode b_Mo_column 138 = .ok (.isub, 1) := by decide +kernel
theorem d_Mo_column_139 : decode b_Mo_column 139 = .ok (.invokevirtual 151, 3) := by decide +kernel
theorem d_Mo_column_142 : decode b_Mo_column 142 = .ok (.i2l, 1) := by decide +kernel
theorem d_Mo_column_143 : decode b_Mo_column 143 = .ok (.lreturn, 1) := by decide +kernel
theorem d_Mo_rows_0 : decode b_Mo_rows 0 = .ok (.aload_n 0, 1) := by decide +kernel
theorem d_Mo_rows_1 : decode b_Mo_rows 1 = .ok (.iload_n 1, 1) := by decide +kernel
theorem d_Mo_rows_2 : decode b_Mo_rows 2 = .ok (.i2l, 1) := by decide +kernel
theorem d_Mo_rows_3 : decode b_Mo_rows 3 = .ok (.lconst 0, 1) := by decide +kernel
theorem d_Mo_rows_4 : decode b_Mo_rows 4 = .ok (.ldc2_w 41, 3) := by decide +kernel
theorem d_Mo_rows_7 : decode b_Mo_rows 7 = .ok (.invokestatic 37, 3) := by decide +kernel
theorem d_Mo_rows_10 : decode b_Mo_rows 10 = .ok (.ifCond .eq 7, 3) := by decide +kernel
theorem d_Mo_rows_13 : decode b_Mo_rows 13 = .ok (.iconst 0, 1) := by decide +kernel
theorem d_Mo_rows_14 : decode b_Mo_rows 14 = .ok (.goto 4, 3) := by decide +kernel
theorem d_Mo_rows_17 : decode b_Mo_rows 17 = .ok (.iconst 1, 1) := by decide +kernel
theorem d_Mo_rows_18 : decode b_Mo_rows 18 = .ok (.putfield 31, 3) := by decide +kernel
theorem d_Mo_rows_21 : decode b_Mo_rows 21 = .ok (.aload_n 0, 1) := by decide +kernel
theorem d_Mo_rows_22 : decode b_Mo_rows 22 = .ok (.getfield 31, 3) := by decide +kernel
theorem d_Mo_rows_25 : decode b_Mo_rows 25 = .ok (.ifCond .le 5, 3) := by decide +kernel
theorem d_Mo_rows_28 : decode b_Mo_rows 28 = .ok (.iconst 0, 1) := by decide +kernel
theorem d_Mo_rows_29 : decode b_Mo_rows 29 = .ok (.ireturn, 1) := by decide +kernel
theorem d_Mo_rows_30 : decode b_Mo_rows 30 = .ok (.iconst 0, 1) := by decide +kernel
theorem d_Mo_rows_31 : decode b_Mo_rows 31 = .ok (.istore_n 2, 1) := by decide +kernel
theorem d_Mo_rows_32 : decode b_Mo_rows 32 = .ok (.iconst 0, 1) := by decide +kernel
theorem d_Mo_rows_33 : decode b_Mo_rows 33 = .ok (.istore_n 3, 1) := by decide +kernel
theorem d_Mo_rows_34 : decode b_Mo_rows 34 = .ok (.iload_n 3, 1) := by decide +kernel
theorem d_Mo_rows_35 : decode b_Mo_rows 35 = .ok (.aload_n 0, 1) := by decide +kernel
theorem d_Mo_rows_36 : decode b_Mo_rows 36 = .ok (.getfield 159, 3) := by decide +kernel
theorem d_Mo_rows_39 : decode b_Mo_rows 39 = .ok (.if_icmp .ge 27, 3) := by decide +kernel
theorem d_Mo_rows_42 : decode b_Mo_rows 42 = .ok (.iload_n 2, 1) := by decide +kernel
theorem d_Mo_rows_43 : decode b_Mo_rows 43 = .ok (.aload_n 0, 1) := by decide +kernel
theorem d_Mo_rows_44 : decode b_Mo_rows 44 = .ok (.getfield 13, 3) := by decide +kernel
theorem d_Mo_rows_47 : decode b_Mo_rows 47 = .ok (.iload_n 3, 1) := by decide +kernel
theorem d_Mo_rows_48 : decode b_Mo_rows 48 = .ok (.iaload, 1) := by decide +kernel
theorem d_Mo_rows_49 : decode b_Mo_rows 49 = .ok (.iload_n 1, 1) := by decide +kernel
theorem d_Mo_rows_50 : decode b_Mo_rows 50 = .ok (.if_icmp .ne 7, 3) := by decide +kernel
theorem d_Mo_rows_53 : decode b_Mo_rows 53 = .ok (.iconst 1, 1) := by decide +kernel
theorem d_Mo_rows_54 : decode b_Mo_rows 54 = .ok (.goto 4, 3) := by decide +kernel
theorem d_Mo_rows_57 : decode b_Mo_rows 57 = .ok (.iconst 0, 1) := by decide +kernel
theorem d_Mo_rows_58 : decode b_Mo_rows 58 = .ok (.iadd, 1) := by decide +kernel
theorem d_Mo_rows_59 : decode b_Mo_rows 59 = .ok (.istore_n 2, 1) := by decide +kernel
theorem d_Mo_rows_60 : decode b_Mo_rows 60 = .ok (.iinc 3 1, 3) := by decide +kernel
theorem d_Mo_rows_63 : decode b_Mo_rows 63 = .ok (.goto (-29), 3) := by decide +kernel
theorem d_Mo_rows_66 : decode b_Mo_rows 66 = .ok (.aload_n 0, 1) := by decide +kernel
theorem d_Mo_rows_67 : decode b_Mo_rows 67 = .ok (.iload_n 1, 1) := by decide +kernel
theorem d_Mo_rows_68 : decode b_Mo_rows 68 = .ok (.invokevirtual 101, 3) := by decide +kernel
theorem d_Mo_rows_71 : decode b_Mo_rows 71 = .ok (.ifCond .eq 7, 3) := by decide +kernel
theorem d_Mo_rows_74 : decode b_Mo_rows 74 = .ok (.iload_n 2, 1) := by decide +kernel
theorem d_Mo_rows_75 : decode b_Mo_rows 75 = .ok (.goto 4, 3) := by decide +kernel
theorem d_Mo_rows_78 : decode b_Mo_rows 78 = .ok (.iconst (-1), 1) := by decide +kernel
theorem d_Mo_rows_79 : decode b_Mo_rows 79 = .ok (.ireturn, 1) := by decide +kernel
theorem d_Mo_all_0 : decode b_Mo_all 0 = .ok (.aload_n 0, 1) := by decide +kernel
theorem d_Mo_all_1 : decode b_Mo_all 1 = .ok (.iconst 0, 1) := by decide +kernel
theorem d_Mo_all_2 : decode b_Mo_all 2 = .ok (.putfield 31, 3) := by decide +kernel
theorem d_Mo_all_5 : decode b_Mo_all 5 = .ok (.aload_n 0, 1) := by decide +kernel
theorem d_Mo_all_6 : decode b_Mo_all 6 = .ok (.getfield 159, 3) := by decide +kernel
theorem d_Mo_all_9 : decode b_Mo_all 9 = .ok (.ireturn, 1) := by decide +kernel
theorem d_Mo_nearest_0 : decode b_Mo_nearest 0 = .ok (.iload_n 1, 1) := by decide +kernel
theorem d_Mo_nearest_1 : decode b_Mo_nearest 1 = .ok (.i2l, 1) := by decide +kernel
theorem d_Mo_nearest_2 : decode b_Mo_nearest 2 = .ok (.lconst 0, 1) := by decide +kernel
theorem d_Mo_nearest_3 : decode b_Mo_nearest 3 = .ok (.ldc2_w 41, 3) := by decide +kernel
theorem d_Mo_nearest_6 : decode b_Mo_nearest 6 = .ok (.invokestatic 37, 3) := by decide +kernel
theorem d_Mo_nearest_9 : decode b_Mo_nearest 9 = .ok (.ifCond .eq 15, 3) := by decide +kernel
theorem d_Mo_nearest_12 : decode b_Mo_nearest 12 = .ok (.aload_n 0, 1) := by decide +kernel
theorem d_Mo_nearest_13 : decode b_Mo_nearest 13 = .ok (.iload_n 1, 1) := by decide +kernel
theorem d_Mo_nearest_14 : decode b_Mo_nearest 14 = .ok (.invokevirtual 101, 3) := by decide +kernel
theorem d_Mo_nearest_17 : decode b_Mo_nearest 17 = .ok (.ifCond .eq 7, 3) := by decide +kernel
theorem d_Mo_nearest_20 : decode b_Mo_nearest 20 = .ok (.iconst 1, 1) := by decide +kernel
theorem d_Mo_nearest_21 : decode b_Mo_nearest 21 = .ok (.goto 4, 3) := by decide +kernel
theorem d_Mo_nearest_24 : decode b_Mo_nearest 24 = .ok (.iconst 0, 1) := by decide +kernel
theorem d_Mo_nearest_25 : decode b_Mo_nearest 25 = .ok (.istore 4, 2) := by decide +kernel
theorem d_Mo_nearest_27 : decode b_Mo_nearest 27 = .ok (.iconst (-1), 1) := by decide +kernel
theorem d_Mo_nearest_28 : decode b_Mo_nearest 28 = .ok (.istore 5, 2) := by decide +kernel
theorem d_Mo_nearest_30 : decode b_Mo_nearest 30 = .ok (.iconst 0, 1) := by decide +kernel
theorem d_Mo_nearest_31 : decode b_Mo_nearest 31 = .ok (.istore 6, 2) := by decide +kernel
theorem d_Mo_nearest_33 : decode b_Mo_nearest 33 = .ok (.iload 6, 2) := by decide +kernel
theorem d_Mo_nearest_35 : decode b_Mo_nearest 35 = .ok (.aload_n 0, 1) := by decide +kernel
theorem d_Mo_nearest_36 : decode b_Mo_nearest 36 = .ok (.getfield 159, 3) := by decide +kernel
theorem d_Mo_nearest_39 : decode b_Mo_nearest 39 = .ok (.if_icmp .ge 99, 3) := by decide +kernel
theorem d_Mo_nearest_42 : decode b_Mo_nearest 42 = .ok (.iload 4, 2) := by decide +kernel
theorem d_Mo_nearest_44 : decode b_Mo_nearest 44 = .ok (.ifCond .eq 94, 3) := by decide +kernel
theorem d_Mo_nearest_47 : decode b_Mo_nearest 47 = .ok (.aload_n 0, 1) := by decide +kernel
theorem d_Mo_nearest_48 : decode b_Mo_nearest 48 = .ok (.iload 6, 2) := by decide +kernel
theorem d_Mo_nearest_50 : decode b_Mo_nearest 50 = .ok (.iconst 0, 1) := by decide +kernel
theorem d_Mo_nearest_51 : decode b_Mo_nearest 51 = .ok (.invokevirtual 151, 3) := by decide +kernel
theorem d_Mo_nearest_54 : decode b_Mo_nearest 54 = .ok (.istore 7, 2) := by decide +kernel
theorem d_Mo_nearest_56 : decode b_Mo_nearest 56 = .ok (.aload_n 0, 1) := by decide +kernel
theorem d_Mo_nearest_57 : decode b_Mo_nearest 57 = .ok (.getfield 13, 3) := by decide +kernel
theorem d_Mo_nearest_60 : decode b_Mo_nearest 60 = .ok (.iload 6, 2) := by decide +kernel
theorem d_Mo_nearest_62 : decode b_Mo_nearest 62 = .ok (.iaload, 1) := by decide +kernel
theorem d_Mo_nearest_63 : decode b_Mo_nearest 63 = .ok (.iload_n 1, 1) := by decide +kernel
theorem d_Mo_nearest_64 : decode b_Mo_nearest 64 = .ok (.if_icmp .ne 68, 3) := by decide +kernel
theorem d_Mo_nearest_67 : decode b_Mo_nearest 67 = .ok (.iload_n 3, 1) := by decide +kernel
theorem d_Mo_nearest_68 : decode b_Mo_nearest 68 = .ok (.ifCond .eq 12, 3) := by decide +kernel
theorem d_Mo_nearest_71 : decode b_Mo_nearest 71 = .ok (.iload 7, 2) := by decide +kernel
theorem d_Mo_nearest_73 : decode b_Mo_nearest 73 = .ok (.iload_n 2, 1) := by decide +kernel
theorem d_Mo_nearest_74 : decode b_Mo_nearest 74 = .ok (.if_icmp .lt 58, 3) := by decide +kernel
theorem d_Mo_nearest_77 : decode b_Mo_nearest 77 = .ok (.goto 9, 3) := by decide +kernel
theorem d_Mo_nearest_80 : decode b_Mo_nearest 80 = .ok (.iload 7, 2) := by decide +kernel
theorem d_Mo_nearest_82 : decode b_Mo_nearest 82 = .ok (.iload_n 2, 1) := by decide +kernel
theorem d_Mo_nearest_83 : decode b_Mo_nearest 83 = .ok (.if_icmp .gt 49, 3) := by decide +kernel
theorem d_Mo_nearest_86 : decode b_Mo_nearest 86 = .ok (.iload 5, 2) := by decide +kernel
theorem d_Mo_nearest_88 : decode b_Mo_nearest 88 = .ok (.iconst (-1), 1) := by decide +kernel
theorem d_Mo_nearest_89 : decode b_Mo_nearest 89 = .ok (.if_icmp .eq 34, 3) := by decide +kernel
theorem d_Mo_nearest_92 : decode b_Mo_nearest 92 = .ok (.iload_n 3, 1) := by decide +kernel
theorem d_Mo_nearest_93 : decode b_Mo_nearest 93 = .ok (.ifCond .eq 18, 3) := by decide +kernel
theorem d_Mo_nearest_96 : decode b_Mo_nearest 96 = .ok (.iload 7, 2) := by decide +kernel
theorem d_Mo_nearest_98 : decode b_Mo_nearest 98 = .ok (.aload_n 0, 1) := by decide +kernel
theorem d_Mo_nearest_99 : decode b_Mo_nearest 99 = .ok (.iload 5, 2) := by decide +kernel
theorem d_Mo_nearest_101 : decode b_Mo_nearest 101 = .ok (.iconst 0, 1) := by decide +kernel
theorem d_Mo_nearest_102 : decode b_Mo_nearest 102 = .ok (.invokevirtual 151, 3) := by decide +kernel
theorem d_Mo_nearest_105 : decode b_Mo_nearest 105 = .ok (.if_icmp .ge 23, 3) := by decide +kernel
theorem d_Mo_nearest_108 : decode b_Mo_nearest 108 = .ok (.goto 15, 3) := by decide +kernel
theorem d_Mo_nearest_111 : decode b_Mo_nearest 111 = .ok (.iload 7, 2) := by decide +kernel
theorem d_Mo_nearest_113 : decode b_Mo_nearest 113 = .ok (.aload_n 0, 1) := by decide +kernel
theorem d_Mo_nearest_114 : decode b_Mo_nearest 114 = .ok (.iload 5, 2) := by decide +kernel
theorem d_Mo_nearest_116 : decode b_Mo_nearest 116 = .ok (.iconst 0, 1) := by decide +kernel
theorem d_Mo_nearest_117 : decode b_Mo_nearest 117 = .ok (.invokevirtual 151, 3) := by decide +kernel
theorem d_Mo_nearest_120 : decode b_Mo_nearest 120 = .ok (.if_icmp .le 8, 3) := by decide +kernel
theorem d_Mo_nearest_123 : decode b_Mo_nearest 123 = .ok (.iload 6, 2) := by decide +kernel
theorem d_Mo_nearest_125 : decode b_Mo_nearest 125 = .ok (.goto 5, 3) := by decide +kernel
theorem d_Mo_nearest_128 : decode b_Mo_nearest 128 = .ok (.iload 5, 2) := by decide +kernel
theorem d_Mo_nearest_130 : decode b_Mo_nearest 130 = .ok (.istore 5, 2) := by decide +kernel
theorem d_Mo_nearest_132 : decode b_Mo_nearest 132 = .ok (.iinc 6 1, 3) := by decide +kernel
theorem d_Mo_nearest_135 : decode b_Mo_nearest 135 = .ok (.goto (-102), 3) := by decide +kernel
theorem d_Mo_nearest_138 : decode b_Mo_nearest 138 = .ok (.aload_n 0, 1) := by decide +kernel
theorem d_Mo_nearest_139 : decode b_Mo_nearest 139 = .ok (.iload 4, 2) := by decide +kernel
theorem d_Mo_nearest_141 : decode b_Mo_nearest 141 = .ok (.ifCond .ne 7, 3) := by decide +kernel
theorem d_Mo_nearest_144 : decode b_Mo_nearest 144 = .ok (.iconst 1, 1) := by decide +kernel
theorem d_Mo_nearest_145 : decode b_Mo_nearest 145 = .ok (.goto 14, 3) := by decide +kernel
theorem d_Mo_nearest_148 : decode b_Mo_nearest 148 = .ok (.iload 5, 2) := by decide +kernel
theorem d_Mo_nearest_150 : decode b_Mo_nearest 150 = .ok (.iconst (-1), 1) := by decide +kernel
theorem d_Mo_nearest_151 : decode b_Mo_nearest 151 = .ok (.if_icmp .ne 7, 3) := by decide +kernel
theorem d_Mo_nearest_154 : decode b_Mo_nearest 154 = .ok (.iconst 2, 1) := by decide +kernel
theorem d_Mo_nearest_155 : decode b_Mo_nearest 155 = .ok (.goto 4, 3) := by decide +kernel
theorem d_Mo_nearest_158 : decode b_Mo_nearest 158 = .ok (.iconst 0, 1) := by decide +kernel
theorem d_Mo_nearest_159 : decode b_Mo_nearest 159 = .ok (.putfield 31, 3) := by decide +kernel
theorem d_Mo_nearest_162 : decode b_Mo_nearest 162 = .ok (.aload_n 0, 1) := by decide +kernel
theorem d_Mo_nearest_163 : decode b_Mo_nearest 163 = .ok (.getfield 31, 3) := by decide +kernel
theorem d_Mo_nearest_166 : decode b_Mo_nearest 166 = .ok (.ifCond .le 7, 3) := by decide +kernel
theorem d_Mo_nearest_169 : decode b_Mo_nearest 169 = .ok (.iconst 0, 1) := by decide +kernel
theorem d_Mo_nearest_170 : decode b_Mo_nearest 170 = .ok (.goto 10, 3) := by decide +kernel
theorem d_Mo_nearest_173 : decode b_Mo_nearest 173 = .ok (.aload_n 0, 1) := by decide +kernel
theorem d_Mo_nearest_174 : decode b_Mo_nearest 174 = .ok (.iload 5, 2) := by decide +kernel
theorem d_Mo_nearest_176 : decode b_Mo_nearest 176 = .ok (.iconst 0, 1) := by decide +kernel
theorem d_Mo_nearest_177 : decode b_Mo_nearest 177 = .ok (.invokevirtual 151, 3) := by decide +kernel
theorem d_Mo_nearest_180 : decode b_Mo_nearest 180 = .ok (.ireturn, 1) := by decide +kernel
theorem d_Mo_clear_0 : decode b_Mo_clear 0 = .ok (.aload_n 0, 1) := by decide +kernel
theorem d_Mo_clear_1 : decode b_Mo_clear 1 = .ok (.iconst 0, 1) := by decide +kernel
theorem d_Mo_clear_2 : decode b_Mo_clear 2 = .ok (.putfield 31, 3) := by decide +kernel
theorem d_Mo_clear_5 : decode b_Mo_clear 5 = .ok (.aload_n 0, 1) := by decide +kernel
theorem d_Mo_clear_6 : decode b_Mo_clear 6 = .ok (.iconst 0, 1) := by decide +kernel
theorem d_Mo_clear_7 : decode b_Mo_clear 7 = .ok (.putfield 159, 3) := by decide +kernel
theorem d_Mo_clear_10 : decode b_Mo_clear 10 = .ok (.aload_n 0, 1) := by decide +kernel
theorem d_Mo_clear_11 : decode b_Mo_clear 11 = .ok (.iconst 0, 1) := by decide +kernel
theorem d_Mo_clear_12 : decode b_Mo_clear 12 = .ok (.putfield 49, 3) := by decide +kernel
theorem d_Mo_clear_15 : decode b_Mo_clear 15 = .ok (.aload_n 0, 1) := by decide +kernel
theorem d_Mo_clear_16 : decode b_Mo_clear 16 = .ok (.iconst 0, 1) := by decide +kernel
theorem d_Mo_clear_17 : decode b_Mo_clear 17 = .ok (.putfield 130, 3) := by decide +kernel
theorem d_Mo_clear_20 : decode b_Mo_clear 20 = .ok (.iconst 0, 1) := by decide +kernel
theorem d_Mo_clear_21 : decode b_Mo_clear 21 = .ok (.istore_n 1, 1) := by decide +kernel
theorem d_Mo_clear_22 : decode b_Mo_clear 22 = .ok (.iload_n 1, 1) := by decide +kernel
theorem d_Mo_clear_23 : decode b_Mo_clear 23 = .ok (.bipush 10, 2) := by decide +kernel
theorem d_Mo_clear_25 : decode b_Mo_clear 25 = .ok (.if_icmp .ge 16, 3) := by decide +kernel
theorem d_Mo_clear_28 : decode b_Mo_clear 28 = .ok (.aload_n 0, 1) := by decide +kernel
theorem d_Mo_clear_29 : decode b_Mo_clear 29 = .ok (.getfield 7, 3) := by decide +kernel
theorem d_Mo_clear_32 : decode b_Mo_clear 32 = .ok (.iload_n 1, 1) := by decide +kernel
theorem d_Mo_clear_33 : decode b_Mo_clear 33 = .ok (.iconst 0, 1) := by decide +kernel
theorem d_Mo_clear_34 : decode b_Mo_clear 34 = .ok (.iastore, 1) := by decide +kernel
theorem d_Mo_clear_35 : decode b_Mo_clear 35 = .ok (.iinc 1 1, 3) := by decide +kernel
theorem d_Mo_clear_38 : decode b_Mo_clear 38 = .ok (.goto (-16), 3) := by decide +kernel
theorem d_Mo_clear_41 : decode b_Mo_clear 41 = .ok (.aload_n 0, 1) := by decide +kernel
theorem d_Mo_clear_42 : decode b_Mo_clear 42 = .ok (.invokevirtual 133, 3) := by decide +kernel
theorem d_Mo_clear_45 : decode b_Mo_clear 45 = .ok (.return_, 1) := by decide +kernel
theorem d_Cn_init_0 : decode b_Cn_init 0 = .ok (.aload_n 0, 1) := by decide +kernel
theorem d_Cn_init_1 : decode b_Cn_init 1 = .ok (.invokespecial 3, 3) := by decide +kernel
theorem d_Cn_init_4 : decode b_Cn_init 4 = .ok (.aload_n 0, 1) := by decide +kernel
theorem d_Cn_init_5 : decode b_Cn_init 5 = .ok (.aload_n 1, 1) := by decide +kernel
theorem d_Cn_init_6 : decode b_Cn_init 6 = .ok (.putfield 9, 3) := by decide +kernel
theorem d_Cn_init_9 : decode b_Cn_init 9 = .ok (.aload_n 0, 1) := by decide +kernel
theorem d_Cn_init_10 : decode b_Cn_init 10 = .ok (.iload_n 2, 1) := by decide +kernel
theorem d_Cn_init_11 : decode b_Cn_init 11 = .ok (.putfield 15, 3) := by decide +kernel
theorem d_Cn_init_14 : decode b_Cn_init 14 = .ok (.aload_n 0, 1) := by decide +kernel
theorem d_Cn_init_15 : decode b_Cn_init 15 = .ok (.aload_n 3, 1) := by decide +kernel
theorem d_Cn_init_16 : decode b_Cn_init 16 = .ok (.putfield 19, 3) := by decide +kernel
theorem d_Cn_init_19 : decode b_Cn_init 19 = .ok (.return_, 1) := by decide +kernel
theorem d_Cn_isThere_0 : decode b_Cn_isThere 0 = .ok (.aload_n 0, 1) := by decide +kernel
theorem d_Cn_isThere_1 : decode b_Cn_isThere 1 = .ok (.getfield 9, 3) := by decide +kernel
theorem d_Cn_isThere_4 : decode b_Cn_isThere 4 = .ok (.iload_n 1, 1) := by decide +kernel
theorem d_Cn_isThere_5 : decode b_Cn_isThere 5 = .ok (.iload_n 2, 1) := by decide +kernel
theorem d_Cn_isThere_6 : decode b_Cn_isThere 6 = .ok (.invokevirtual 22, 3) := by decide +kernel
theorem d_Cn_isThere_9 : decode b_Cn_isThere 9 = .ok (.ifCond .eq 19, 3) := by decide +kernel
theorem d_Cn_isThere_12 : decode b_Cn_isThere 12 = .ok (.aload_n 0, 1) := by decide +kernel
theorem d_Cn_isThere_13 : decode b_Cn_isThere 13 = .ok (.getfield 19, 3) := by decide +kernel
theorem d_Cn_isThere_16 : decode b_Cn_isThere 16 = .ok (.iload_n 1, 1) := by decide +kernel
theorem d_Cn_isThere_17 : decode b_Cn_isThere 17 = .ok (.iload_n 2, 1) := by decide +kernel
theorem d_Cn_isThere_18 : decode b_Cn_isThere 18 = .ok (.invokevirtual 22, 3) := by decide +kernel
theorem d_Cn_isThere_21 : decode b_Cn_isThere 21 = .ok (.ifCond .eq 7, 3) := by decide +kernel
theorem d_Cn_isThere_24 : decode b_Cn_isThere 24 = .ok (.iconst 1, 1) := by decide +kernel
theorem d_Cn_isThere_25 : decode b_Cn_isThere 25 = .ok (.goto 4, 3) := by decide +kernel
theorem d_Cn_isThere_28 : decode b_Cn_isThere 28 = .ok (.iconst 0, 1) := by decide +kernel
theorem d_Cn_isThere_29 : decode b_Cn_isThere 29 = .ok (.ireturn, 1) := by decide +kernel
theorem d_Cn_holds_0 : decode b_Cn_holds 0 = .ok (.aload_n 0, 1) := by decide +kernel
theorem d_Cn_holds_1 : decode b_Cn_holds 1 = .ok (.getfield 9, 3) := by decide +kernel
theorem d_Cn_holds_4 : decode b_Cn_holds 4 = .ok (.aload_n 1, 1) := by decide +kernel
theorem d_Cn_holds_5 : decode b_Cn_holds 5 = .ok (.invokevirtual 28, 3) := by decide +kernel
theorem d_Cn_holds_8 : decode b_Cn_holds 8 = .ok (.istore_n 2, 1) := by decide +kernel
theorem d_Cn_holds_9 : decode b_Cn_holds 9 = .ok (.aload_n 0, 1) := by decide +kernel
theorem d_Cn_holds_10 : decode b_Cn_holds 10 = .ok (.getfield 19, 3) := by decide +kernel
theorem d_Cn_holds_13 : decode b_Cn_holds 13 = .ok (.aload_n 1, 1) := by decide +kernel
theorem d_Cn_holds_14 : decode b_Cn_holds 14 = .ok (.invokevirtual 28, 3) := by decide +kernel
theorem d_Cn_holds_17 : decode b_Cn_holds 17 = .ok (.istore_n 3, 1) := by decide +kernel
theorem d_Cn_holds_18 : decode b_Cn_holds 18 = .ok (.aload_n 0, 1) := by decide +kernel
theorem d_Cn_holds_19 : decode b_Cn_holds 19 = .ok (.getfield 15, 3) := by decide +kernel
theorem d_Cn_holds_22 : decode b_Cn_holds 22 = .ok (.lookupswitch 48 #[(10, 26), (11, 37)], 26) := by decide +kernel
theorem d_Cn_holds_48 : decode b_Cn_holds 48 = .ok (.iload_n 2, 1) := by decide +kernel
theorem d_Cn_holds_49 : decode b_Cn_holds 49 = .ok (.iload_n 3, 1) := by decide +kernel
theorem d_Cn_holds_50 : decode b_Cn_holds 50 = .ok (.if_icmp .ne 7, 3) := by decide +kernel
theorem d_Cn_holds_53 : decode b_Cn_holds 53 = .ok (.iconst 1, 1) := by decide +kernel
theorem d_Cn_holds_54 : decode b_Cn_holds 54 = .ok (.goto 4, 3) := by decide +kernel
theorem d_Cn_holds_57 : decode b_Cn_holds 57 = .ok (.iconst 0, 1) := by decide +kernel
theorem d_Cn_holds_58 : decode b_Cn_holds 58 = .ok (.ireturn, 1) := by decide +kernel
theorem d_Cn_holds_59 : decode b_Cn_holds 59 = .ok (.iload_n 2, 1) := by decide +kernel
theorem d_Cn_holds_60 : decode b_Cn_holds 60 = .ok (.iload_n 3, 1) := by decide +kernel
theorem d_Cn_holds_61 : decode b_Cn_holds 61 = .ok (.if_icmp .ge 7, 3) := by decide +kernel
theorem d_Cn_holds_64 : decode b_Cn_holds 64 = .ok (.iconst 1, 1) := by decide +kernel
theorem d_Cn_holds_65 : decode b_Cn_holds 65 = .ok (.goto 4, 3) := by decide +kernel
theorem d_Cn_holds_68 : decode b_Cn_holds 68 = .ok (.iconst 0, 1) := by decide +kernel
theorem d_Cn_holds_69 : decode b_Cn_holds 69 = .ok (.ireturn, 1) := by decide +kernel
theorem d_Cn_holds_70 : decode b_Cn_holds 70 = .ok (.iload_n 2, 1) := by decide +kernel
theorem d_Cn_holds_71 : decode b_Cn_holds 71 = .ok (.iload_n 3, 1) := by decide +kernel
theorem d_Cn_holds_72 : decode b_Cn_holds 72 = .ok (.if_icmp .le 7, 3) := by decide +kernel
theorem d_Cn_holds_75 : decode b_Cn_holds 75 = .ok (.iconst 1, 1) := by decide +kernel
theorem d_Cn_holds_76 : decode b_Cn_holds 76 = .ok (.goto 4, 3) := by decide +kernel
theorem d_Cn_holds_79 : decode b_Cn_holds 79 = .ok (.iconst 0, 1) := by decide +kernel
theorem d_Cn_holds_80 : decode b_Cn_holds 80 = .ok (.ireturn, 1) := by decide +kernel
