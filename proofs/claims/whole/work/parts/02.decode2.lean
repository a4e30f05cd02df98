theorem d_Mo_isThere_0 : decode b_Mo_isThere 0 = .ok (.aload_n 0, 1) := by decide +kernel
theorem d_Mo_isThere_1 : decode b_Mo_isThere 1 = .ok (.getfield 7, 3) := by decide +kernel
theorem d_Mo_isThere_4 : decode b_Mo_isThere 4 = .ok (.iload_n 1, 1) := by decide +kernel
theorem d_Mo_isThere_5 : decode b_Mo_isThere 5 = .ok (.iaload, 1) := by decide +kernel
theorem d_Mo_isThere_6 : decode b_Mo_isThere 6 = .ok (.ifCond .le 7, 3) := by decide +kernel
theorem d_Mo_isThere_9 : decode b_Mo_isThere 9 = .ok (.iconst 1, 1) := by decide +kernel
theorem d_Mo_isThere_10 : decode b_Mo_isThere 10 = .ok (.goto 4, 3) := by decide +kernel
theorem d_Mo_isThere_13 : decode b_Mo_isThere 13 = .ok (.iconst 0, 1) := by decide +kernel
theorem d_Mo_isThere_14 : decode b_Mo_isThere 14 = .ok (.ireturn, 1) := by decide +kernel
theorem d_Mo_haveColumns_0 : decode b_Mo_haveColumns 0 = .ok (.iconst 1, 1) := by decide +kernel
theorem d_Mo_haveColumns_1 : decode b_Mo_haveColumns 1 = .ok (.istore_n 1, 1) := by decide +kernel
theorem d_Mo_haveColumns_2 : decode b_Mo_haveColumns 2 = .ok (.iconst 0, 1) := by decide +kernel
theorem d_Mo_haveColumns_3 : decode b_Mo_haveColumns 3 = .ok (.istore_n 2, 1) := by decide +kernel
theorem d_Mo_haveColumns_4 : decode b_Mo_haveColumns 4 = .ok (.iload_n 2, 1) := by decide +kernel
theorem d_Mo_haveColumns_5 : decode b_Mo_haveColumns 5 = .ok (.aload_n 0, 1) := by decide +kernel
theorem d_Mo_haveColumns_6 : decode b_Mo_haveColumns 6 = .ok (.getfield 49, 3) := by decide +kernel
theorem d_Mo_haveColumns_9 : decode b_Mo_haveColumns 9 = .ok (.if_icmp .ge 107, 3) := by decide +kernel
theorem d_Mo_haveColumns_12 : decode b_Mo_haveColumns 12 = .ok (.aload_n 0, 1) := by decide +kernel
theorem d_Mo_haveColumns_13 : decode b_Mo_haveColumns 13 = .ok (.getfield 19, 3) := by decide +kernel
theorem d_Mo_haveColumns_16 : decode b_Mo_haveColumns 16 = .ok (.iload_n 2, 1) := by decide +kernel
theorem d_Mo_haveColumns_17 : decode b_Mo_haveColumns 17 = .ok (.iaload, 1) := by decide +kernel
theorem d_Mo_haveColumns_18 : decode b_Mo_haveColumns 18 = .ok (.iconst 2, 1) := by decide +kernel
theorem d_Mo_haveColumns_19 : decode b_Mo_haveColumns 19 = .ok (.if_icmp .ne 91, 3) := by decide +kernel
theorem d_Mo_haveColumns_22 : decode b_Mo_haveColumns 22 = .ok (.aload_n 0, 1) := by decide +kernel
theorem d_Mo_haveColumns_23 : decode b_Mo_haveColumns 23 = .ok (.getfield 22, 3) := by decide +kernel
theorem d_Mo_haveColumns_26 : decode b_Mo_haveColumns 26 = .ok (.iload_n 2, 1) := by decide +kernel
theorem d_Mo_haveColumns_27 : decode b_Mo_haveColumns 27 = .ok (.iaload, 1) := by decide +kernel
theorem d_Mo_haveColumns_28 : decode b_Mo_haveColumns 28 = .ok (.bipush 9, 2) := by decide +kernel
theorem d_Mo_haveColumns_30 : decode b_Mo_haveColumns 30 = .ok (.if_icmp .le 7, 3) := by decide +kernel
theorem d_Mo_haveColumns_33 : decode b_Mo_haveColumns 33 = .ok (.iconst 1, 1) := by decide +kernel
theorem d_Mo_haveColumns_34 : decode b_Mo_haveColumns 34 = .ok (.goto 4, 3) := by decide +kernel
theorem d_Mo_haveColumns_37 : decode b_Mo_haveColumns 37 = .ok (.iconst 0, 1) := by decide +kernel
theorem d_Mo_haveColumns_38 : decode b_Mo_haveColumns 38 = .ok (.istore_n 3, 1) := by decide +kernel
theorem d_Mo_haveColumns_39 : decode b_Mo_haveColumns 39 = .ok (.iload_n 3, 1) := by decide +kernel
theorem d_Mo_haveColumns_40 : decode b_Mo_haveColumns 40 = .ok (.ifCond .eq 15, 3) := by decide +kernel
theorem d_Mo_haveColumns_43 : decode b_Mo_haveColumns 43 = .ok (.aload_n 0, 1) := by decide +kernel
theorem d_Mo_haveColumns_44 : decode b_Mo_haveColumns 44 = .ok (.getfield 22, 3) := by decide +kernel
theorem d_Mo_haveColumns_47 : decode b_Mo_haveColumns 47 = .ok (.iload_n 2, 1) := by decide +kernel
theorem d_Mo_haveColumns_48 : decode b_Mo_haveColumns 48 = .ok (.iaload, 1) := by decide +kernel
theorem d_Mo_haveColumns_49 : decode b_Mo_haveColumns 49 = .ok (.bipush 10, 2) := by decide +kernel
theorem d_Mo_haveColumns_51 : decode b_Mo_haveColumns 51 = .ok (.isub, 1) := by decide +kernel
theorem d_Mo_haveColumns_52 : decode b_Mo_haveColumns 52 = .ok (.goto 9, 3) := by decide +kernel
theorem d_Mo_haveColumns_55 : decode b_Mo_haveColumns 55 = .ok (.aload_n 0, 1) := by decide +kernel
theorem d_Mo_haveColumns_56 : decode b_Mo_haveColumns 56 = .ok (.getfield 22, 3) := by decide +kernel
theorem d_Mo_haveColumns_59 : decode b_Mo_haveColumns 59 = .ok (.iload_n 2, 1) := by decide +kernel
theorem d_Mo_haveColumns_60 : decode b_Mo_haveColumns 60 = .ok (.iaload, 1) := by decide +kernel
theorem d_Mo_haveColumns_61 : decode b_Mo_haveColumns 61 = .ok (.istore 4, 2) := by decide +kernel
theorem d_Mo_haveColumns_63 : decode b_Mo_haveColumns 63 = .ok (.iload_n 1, 1) := by decide +kernel
theorem d_Mo_haveColumns_64 : decode b_Mo_haveColumns 64 = .ok (.ifCond .eq 44, 3) := by decide +kernel
theorem d_Mo_haveColumns_67 : decode b_Mo_haveColumns 67 = .ok (.iload_n 3, 1) := by decide +kernel
theorem d_Mo_haveColumns_68 : decode b_Mo_haveColumns 68 = .ok (.ifCond .eq 11, 3) := by decide +kernel
theorem d_Mo_haveColumns_71 : decode b_Mo_haveColumns 71 = .ok (.aload_n 0, 1) := by decide +kernel
theorem d_Mo_haveColumns_72 : decode b_Mo_haveColumns 72 = .ok (.getfield 85, 3) := by decide +kernel
theorem d_Mo_haveColumns_75 : decode b_Mo_haveColumns 75 = .ok (.iconst (-1), 1) := by decide +kernel
theorem d_Mo_haveColumns_76 : decode b_Mo_haveColumns 76 = .ok (.if_icmp .eq 32, 3) := by decide +kernel
theorem d_Mo_haveColumns_79 : decode b_Mo_haveColumns 79 = .ok (.iload 4, 2) := by decide +kernel
theorem d_Mo_haveColumns_81 : decode b_Mo_haveColumns 81 = .ok (.aload_n 0, 1) := by decide +kernel
theorem d_Mo_haveColumns_82 : decode b_Mo_haveColumns 82 = .ok (.getfield 7, 3) := by decide +kernel
theorem d_Mo_haveColumns_85 : decode b_Mo_haveColumns 85 = .ok (.iload_n 3, 1) := by decide +kernel
theorem d_Mo_haveColumns_86 : decode b_Mo_haveColumns 86 = .ok (.ifCond .eq 10, 3) := by decide +kernel
theorem d_Mo_haveColumns_89 : decode b_Mo_haveColumns 89 = .ok (.aload_n 0, 1) := by decide +kernel
theorem d_Mo_haveColumns_90 : decode b_Mo_haveColumns 90 = .ok (.getfield 85, 3) := by decide +kernel
theorem d_Mo_haveColumns_93 : decode b_Mo_haveColumns 93 = .ok (.goto 7, 3) := by decide +kernel
theorem d_Mo_haveColumns_96 : decode b_Mo_haveColumns 96 = .ok (.aload_n 0, 1) := by decide +kernel
theorem d_Mo_haveColumns_97 : decode b_Mo_haveColumns 97 = .ok (.getfield 82, 3) := by decide +kernel
theorem d_Mo_haveColumns_100 : decode b_Mo_haveColumns 100 = .ok (.iaload, 1) := by decide +kernel
theorem d_Mo_haveColumns_101 : decode b_Mo_haveColumns 101 = .ok (.if_icmp .ge 7, 3) := by decide +kernel
theorem d_Mo_haveColumns_104 : decode b_Mo_haveColumns 104 = .ok (.iconst 1, 1) := by decide +kernel
theorem d_Mo_haveColumns_105 : decode b_Mo_haveColumns 105 = .ok (.goto 4, 3) := by decide +kernel
theorem d_Mo_haveColumns_108 : decode b_Mo_haveColumns 108 = .ok (.iconst 0, 1) := by decide +kernel
theorem d_Mo_haveColumns_109 : decode b_Mo_haveColumns 109 = .ok (.istore_n 1, 1) := by decide +kernel
theorem d_Mo_haveColumns_110 : decode b_Mo_haveColumns 110 = .ok (.iinc 2 1, 3) := by decide +kernel
theorem d_Mo_haveColumns_113 : decode b_Mo_haveColumns 113 = .ok (.goto (-109), 3) := by decide +kernel
theorem d_Mo_haveColumns_116 : decode b_Mo_haveColumns 116 = .ok (.iload_n 1, 1) := by decide +kernel
theorem d_Mo_haveColumns_117 : decode b_Mo_haveColumns 117 = .ok (.ireturn, 1) := by decide +kernel
theorem d_Mo_wrong_0 : decode b_Mo_wrong 0 = .ok (.aload_n 0, 1) := by decide +kernel
theorem d_Mo_wrong_1 : decode b_Mo_wrong 1 = .ok (.invokevirtual 98, 3) := by decide +kernel
theorem d_Mo_wrong_4 : decode b_Mo_wrong 4 = .ok (.ifCond .ne 5, 3) := by decide +kernel
theorem d_Mo_wrong_7 : decode b_Mo_wrong 7 = .ok (.iconst (-1), 1) := by decide +kernel
theorem d_Mo_wrong_8 : decode b_Mo_wrong 8 = .ok (.ireturn, 1) := by decide +kernel
theorem d_Mo_wrong_9 : decode b_Mo_wrong 9 = .ok (.aload_n 0, 1) := by decide +kernel
theorem d_Mo_wrong_10 : decode b_Mo_wrong 10 = .ok (.getfield 22, 3) := by decide +kernel
theorem d_Mo_wrong_13 : decode b_Mo_wrong 13 = .ok (.iconst 0, 1) := by decide +kernel
theorem d_Mo_wrong_14 : decode b_Mo_wrong 14 = .ok (.iaload, 1) := by decide +kernel
theorem d_Mo_wrong_15 : decode b_Mo_wrong 15 = .ok (.ifCond .ne 7, 3) := by decide +kernel
theorem d_Mo_wrong_18 : decode b_Mo_wrong 18 = .ok (.iconst 1, 1) := by decide +kernel
theorem d_Mo_wrong_19 : decode b_Mo_wrong 19 = .ok (.goto 4, 3) := by decide +kernel
theorem d_Mo_wrong_22 : decode b_Mo_wrong 22 = .ok (.iconst 0, 1) := by decide +kernel
theorem d_Mo_wrong_23 : decode b_Mo_wrong 23 = .ok (.istore_n 1, 1) := by decide +kernel
theorem d_Mo_wrong_24 : decode b_Mo_wrong 24 = .ok (.iload_n 1, 1) := by decide +kernel
theorem d_Mo_wrong_25 : decode b_Mo_wrong 25 = .ok (.ifCond .ne 36, 3) := by decide +kernel
theorem d_Mo_wrong_28 : decode b_Mo_wrong 28 = .ok (.aload_n 0, 1) := by decide +kernel
theorem d_Mo_wrong_29 : decode b_Mo_wrong 29 = .ok (.aload_n 0, 1) := by decide +kernel
theorem d_Mo_wrong_30 : decode b_Mo_wrong 30 = .ok (.getfield 82, 3) := by decide +kernel
theorem d_Mo_wrong_33 : decode b_Mo_wrong 33 = .ok (.invokevirtual 101, 3) := by decide +kernel
theorem d_Mo_wrong_36 : decode b_Mo_wrong 36 = .ok (.ifCond .eq 22, 3) := by decide +kernel
theorem d_Mo_wrong_39 : decode b_Mo_wrong 39 = .ok (.aload_n 0, 1) := by decide +kernel
theorem d_Mo_wrong_40 : decode b_Mo_wrong 40 = .ok (.getfield 85, 3) := by decide +kernel
theorem d_Mo_wrong_43 : decode b_Mo_wrong 43 = .ok (.iconst (-1), 1) := by decide +kernel
theorem d_Mo_wrong_44 : decode b_Mo_wrong 44 = .ok (.if_icmp .eq 17, 3) := by decide +kernel
theorem d_Mo_wrong_47 : decode b_Mo_wrong 47 = .ok (.aload_n 0, 1) := by decide +kernel
theorem d_Mo_wrong_48 : decode b_Mo_wrong 48 = .ok (.aload_n 0, 1) := by decide +kernel
theorem d_Mo_wrong_49 : decode b_Mo_wrong 49 = .ok (.getfield 85, 3) := by decide +kernel
theorem d_Mo_wrong_52 : decode b_Mo_wrong 52 = .ok (.invokevirtual 101, 3) := by decide +kernel
theorem d_Mo_wrong_55 : decode b_Mo_wrong 55 = .ok (.ifCond .ne 6, 3) := by decide +kernel
theorem d_Mo_wrong_58 : decode b_Mo_wrong 58 = .ok (.bipush (-2), 2) := by decide +kernel
theorem d_Mo_wrong_60 : decode b_Mo_wrong 60 = .ok (.ireturn, 1) := by decide +kernel
theorem d_Mo_wrong_61 : decode b_Mo_wrong 61 = .ok (.iload_n 1, 1) := by decide +kernel
theorem d_Mo_wrong_62 : decode b_Mo_wrong 62 = .ok (.ifCond .eq 43, 3) := by decide +kernel
theorem d_Mo_wrong_65 : decode b_Mo_wrong 65 = .ok (.aload_n 0, 1) := by decide +kernel
theorem d_Mo_wrong_66 : decode b_Mo_wrong 66 = .ok (.aload_n 0, 1) := by decide +kernel
theorem d_Mo_wrong_67 : decode b_Mo_wrong 67 = .ok (.getfield 82, 3) := by decide +kernel
theorem d_Mo_wrong_70 : decode b_Mo_wrong 70 = .ok (.invokevirtual 101, 3) := by decide +kernel
theorem d_Mo_wrong_73 : decode b_Mo_wrong 73 = .ok (.ifCond .eq 8, 3) := by decide +kernel
theorem d_Mo_wrong_76 : decode b_Mo_wrong 76 = .ok (.bipush (-4), 2) := by decide +kernel
theorem d_Mo_wrong_78 : decode b_Mo_wrong 78 = .ok (.goto 26, 3) := by decide +kernel
theorem d_Mo_wrong_81 : decode b_Mo_wrong 81 = .ok (.aload_n 0, 1) := by decide +kernel
theorem d_Mo_wrong_82 : decode b_Mo_wrong 82 = .ok (.getfield 22, 3) := by decide +kernel
theorem d_Mo_wrong_85 : decode b_Mo_wrong 85 = .ok (.iconst 2, 1) := by decide +kernel
theorem d_Mo_wrong_86 : decode b_Mo_wrong 86 = .ok (.iaload, 1) := by decide +kernel
theorem d_Mo_wrong_87 : decode b_Mo_wrong 87 = .ok (.i2l, 1) := by decide +kernel
theorem d_Mo_wrong_88 : decode b_Mo_wrong 88 = .ok (.lconst 1, 1) := by decide +kernel
theorem d_Mo_wrong_89 : decode b_Mo_wrong 89 = .ok (.ldc2_w 104, 3) := by decide +kernel
theorem d_Mo_wrong_92 : decode b_Mo_wrong 92 = .ok (.invokestatic 37, 3) := by decide +kernel
theorem d_Mo_wrong_95 : decode b_Mo_wrong 95 = .ok (.ifCond .eq 7, 3) := by decide +kernel
theorem d_Mo_wrong_98 : decode b_Mo_wrong 98 = .ok (.iconst 0, 1) := by decide +kernel
theorem d_Mo_wrong_99 : decode b_Mo_wrong 99 = .ok (.goto 5, 3) := by decide +kernel
theorem d_Mo_wrong_102 : decode b_Mo_wrong 102 = .ok (.bipush (-5), 2) := by decide +kernel
theorem d_Mo_wrong_104 : decode b_Mo_wrong 104 = .ok (.ireturn, 1) := by decide +kernel
theorem d_Mo_wrong_105 : decode b_Mo_wrong 105 = .ok (.aload_n 0, 1) := by decide +kernel
theorem d_Mo_wrong_106 : decode b_Mo_wrong 106 = .ok (.invokevirtual 106, 3) := by decide +kernel
theorem d_Mo_wrong_109 : decode b_Mo_wrong 109 = .ok (.ifCond .ne 6, 3) := by decide +kernel
theorem d_Mo_wrong_112 : decode b_Mo_wrong 112 = .ok (.bipush (-3), 2) := by decide +kernel
theorem d_Mo_wrong_114 : decode b_Mo_wrong 114 = .ok (.ireturn, 1) := by decide +kernel
theorem d_Mo_wrong_115 : decode b_Mo_wrong 115 = .ok (.aload_n 0, 1) := by decide +kernel
theorem d_Mo_wrong_116 : decode b_Mo_wrong 116 = .ok (.getfield 22, 3) := by decide +kernel
theorem d_Mo_wrong_119 : decode b_Mo_wrong 119 = .ok (.iconst 0, 1) := by decide +kernel
theorem d_Mo_wrong_120 : decode b_Mo_wrong 120 = .ok (.iaload, 1) := by decide +kernel
theorem d_Mo_wrong_121 : decode b_Mo_wrong 121 = .ok (.iconst 1, 1) := by decide +kernel
theorem d_Mo_wrong_122 : decode b_Mo_wrong 122 = .ok (.if_icmp .ne 26, 3) := by decide +kernel
theorem d_Mo_wrong_125 : decode b_Mo_wrong 125 = .ok (.aload_n 0, 1) := by decide +kernel
theorem d_Mo_wrong_126 : decode b_Mo_wrong 126 = .ok (.getfield 49, 3) := by decide +kernel
theorem d_Mo_wrong_129 : decode b_Mo_wrong 129 = .ok (.iconst 2, 1) := by decide +kernel
theorem d_Mo_wrong_130 : decode b_Mo_wrong 130 = .ok (.isub, 1) := by decide +kernel
theorem d_Mo_wrong_131 : decode b_Mo_wrong 131 = .ok (.aload_n 0, 1) := by decide +kernel
theorem d_Mo_wrong_132 : decode b_Mo_wrong 132 = .ok (.getfield 7, 3) := by decide +kernel
theorem d_Mo_wrong_135 : decode b_Mo_wrong 135 = .ok (.aload_n 0, 1) := by decide +kernel
theorem d_Mo_wrong_136 : decode b_Mo_wrong 136 = .ok (.getfield 82, 3) := by decide +kernel
theorem d_Mo_wrong_139 : decode b_Mo_wrong 139 = .ok (.iaload, 1) := by decide +kernel
theorem d_Mo_wrong_140 : decode b_Mo_wrong 140 = .ok (.if_icmp .eq 8, 3) := by decide +kernel
theorem d_Mo_wrong_143 : decode b_Mo_wrong 143 = .ok (.bipush (-5), 2) := by decide +kernel
theorem d_Mo_wrong_145 : decode b_Mo_wrong 145 = .ok (.goto 4, 3) := by decide +kernel
theorem d_Mo_wrong_148 : decode b_Mo_wrong 148 = .ok (.iconst 0, 1) := by decide +kernel
theorem d_Mo_wrong_149 : decode b_Mo_wrong 149 = .ok (.ireturn, 1) := by decide +kernel
theorem d_Mo_prepare_0 : decode b_Mo_prepare 0 = .ok (.aload_n 0, 1) := by decide +kernel
theorem d_Mo_prepare_1 : decode b_Mo_prepare 1 = .ok (.iconst 0, 1) := by decide +kernel
theorem d_Mo_prepare_2 : decode b_Mo_prepare 2 = .ok (.putfield 31, 3) := by decide +kernel
theorem d_Mo_prepare_5 : decode b_Mo_prepare 5 = .ok (.aload_n 0, 1) := by decide +kernel
theorem d_Mo_prepare_6 : decode b_Mo_prepare 6 = .ok (.invokevirtual 109, 3) := by decide +kernel
theorem d_Mo_prepare_9 : decode b_Mo_prepare 9 = .ok (.istore_n 1, 1) := by decide +kernel
theorem d_Mo_prepare_10 : decode b_Mo_prepare 10 = .ok (.iload_n 1, 1) := by decide +kernel
theorem d_Mo_prepare_11 : decode b_Mo_prepare 11 = .ok (.ifCond .ne 100, 3) := by decide +kernel
theorem d_Mo_prepare_14 : decode b_Mo_prepare 14 = .ok (.aload_n 0, 1) := by decide +kernel
theorem d_Mo_prepare_15 : decode b_Mo_prepare 15 = .ok (.aload_n 0, 1) := by decide +kernel
theorem d_Mo_prepare_16 : decode b_Mo_prepare 16 = .ok (.getfield 49, 3) := by decide +kernel
theorem d_Mo_prepare_19 : decode b_Mo_prepare 19 = .ok (.putfield 112, 3) := by decide +kernel
theorem d_Mo_prepare_22 : decode b_Mo_prepare 22 = .ok (.iconst 0, 1) := by decide +kernel
theorem d_Mo_prepare_23 : decode b_Mo_prepare 23 = .ok (.istore_n 2, 1) := by decide +kernel
theorem d_Mo_prepare_24 : decode b_Mo_prepare 24 = .ok (.iload_n 2, 1) := by decide +kernel
theorem d_Mo_prepare_25 : decode b_Mo_prepare 25 = .ok (.aload_n 0, 1) := by decide +kernel
theorem d_Mo_prepare_26 : decode b_Mo_prepare 26 = .ok (.getfield 112, 3) := by decide +kernel
theorem d_Mo_prepare_29 : decode b_Mo_prepare 29 = .ok (.if_icmp .ge 33, 3) := by decide +kernel
theorem d_Mo_prepare_32 : decode b_Mo_prepare 32 = .ok (.aload_n 0, 1) := by decide +kernel
theorem d_Mo_prepare_33 : decode b_Mo_prepare 33 = .ok (.getfield 25, 3) := by decide +kernel
theorem d_Mo_prepare_36 : decode b_Mo_prepare 36 = .ok (.iload_n 2, 1) := by decide +kernel
theorem d_Mo_prepare_37 : decode b_Mo_prepare 37 = .ok (.aload_n 0, 1) := by decide +kernel
theorem d_Mo_prepare_38 : decode b_Mo_prepare 38 = .ok (.getfield 19, 3) := by decide +kernel
theorem d_Mo_prepare_41 : decode b_Mo_prepare 41 = .ok (.iload_n 2, 1) := by decide +kernel
theorem d_Mo_prepare_42 : decode b_Mo_prepare 42 = .ok (.iaload, 1) := by decide +kernel
theorem d_Mo_prepare_43 : decode b_Mo_prepare 43 = .ok (.iastore, 1) := by decide +kernel
theorem d_Mo_prepare_44 : decode b_Mo_prepare 44 = .ok (.aload_n 0, 1) := by decide +kernel
theorem d_Mo_prepare_45 : decode b_Mo_prepare 45 = .ok (.getfield 28, 3) := by decide +kernel
theorem d_Mo_prepare_48 : decode b_Mo_prepare 48 = .ok (.iload_n 2, 1) := by decide +kernel
theorem d_Mo_prepare_49 : decode b_Mo_prepare 49 = .ok (.aload_n 0, 1) := by decide +kernel
theorem d_Mo_prepare_50 : decode b_Mo_prepare 50 = .ok (.getfield 22, 3) := by decide +kernel
theorem d_Mo_prepare_53 : decode b_Mo_prepare 53 = .ok (.iload_n 2, 1) := by decide +kernel
theorem d_Mo_prepare_54 : decode b_Mo_prepare 54 = .ok (.iaload, 1) := by decide +kernel
theorem d_Mo_prepare_55 : decode b_Mo_prepare 55 = .ok (.iastore, 1) := by decide +kernel
theorem d_Mo_prepare_56 : decode b_Mo_prepare 56 = .ok (.iinc 2 1, 3) := by decide +kernel
theorem d_Mo_prepare_59 : decode b_Mo_prepare 59 = .ok (.goto (-35), 3) := by decide +kernel
theorem d_Mo_prepare_62 : decode b_Mo_prepare 62 = .ok (.aload_n 0, 1) := by decide +kernel
theorem d_Mo_prepare_63 : decode b_Mo_prepare 63 = .ok (.aload_n 0, 1) := by decide +kernel
theorem d_Mo_prepare_64 : decode b_Mo_prepare 64 = .ok (.getfield 82, 3) := by decide +kernel
theorem d_Mo_prepare_67 : decode b_Mo_prepare 67 = .ok (.putfield 115, 3) := by decide +kernel
theorem d_Mo_prepare_70 : decode b_Mo_prepare 70 = .ok (.aload_n 0, 1) := by decide +kernel
theorem d_Mo_prepare_71 : decode b_Mo_prepare 71 = .ok (.aload_n 0, 1) := by decide +kernel
theorem d_Mo_prepare_72 : decode b_Mo_prepare 72 = .ok (.getfield 85, 3) := by decide +kernel
theorem d_Mo_prepare_75 : decode b_Mo_prepare 75 = .ok (.putfield 118, 3) := by decide +kernel
theorem d_Mo_prepare_78 : decode b_Mo_prepare 78 = .ok (.aload_n 0, 1) := by decide +kernel
theorem d_Mo_prepare_79 : decode b_Mo_prepare 79 = .ok (.aload_n 0, 1) := by decide +kernel
theorem d_Mo_prepare_80 : decode b_Mo_prepare 80 = .ok (.getfield 62, 3) := by decide +kernel
theorem d_Mo_prepare_83 : decode b_Mo_prepare 83 = .ok (.putfield 121, 3) := by decide +kernel
theorem d_Mo_prepare_86 : decode b_Mo_prepare 86 = .ok (.aload_n 0, 1) := by decide +kernel
theorem d_Mo_prepare_87 : decode b_Mo_prepare 87 = .ok (.aload_n 0, 1) := by decide +kernel
theorem d_Mo_prepare_88 : decode b_Mo_prepare 88 = .ok (.getfield 65, 3) := by decide +kernel
theorem d_Mo_prepare_91 : decode b_Mo_prepare 91 = .ok (.putfield 124, 3) := by decide +kernel
theorem d_Mo_prepare_94 : decode b_Mo_prepare 94 = .ok (.aload_n 0, 1) := by decide +kernel
theorem d_Mo_prepare_95 : decode b_Mo_prepare 95 = .ok (.aload_n 0, 1) := by decide +kernel
theorem d_Mo_prepare_96 : decode b_Mo_prepare 96 = .ok (.getfield 91, 3) := by decide +kernel
theorem d_Mo_prepare_99 : decode b_Mo_prepare 99 = .ok (.putfield 127, 3) := by decide +kernel
theorem d_Mo_prepare_102 : decode b_Mo_prepare 102 = .ok (.aload_n 0, 1) := by decide +kernel
theorem d_Mo_prepare_103 : decode b_Mo_prepare 103 = .ok (.iconst 1, 1) := by decide +kernel
theorem d_Mo_prepare_104 : decode b_Mo_prepare 104 = .ok (.putfield 130, 3) := by decide +kernel
theorem d_Mo_prepare_107 : decode b_Mo_prepare 107 = .ok (.aload_n 0, 1) := by decide +kernel
theorem d_Mo_prepare_108 : decode b_Mo_prepare 108 = .ok (.invokevirtual 133, 3) := by decide +kernel
theorem d_Mo_prepare_111 : decode b_Mo_prepare 111 = .ok (.aload_n 0, 1) := by decide +kernel
theorem d_Mo_prepare_112 : decode b_Mo_prepare 112 = .ok (.iconst 0, 1) := by decide +kernel
theorem d_Mo_prepare_113 : decode b_Mo_prepare 113 = .ok (.putfield 49, 3) := by decide +kernel
theorem d_Mo_prepare_116 : decode b_Mo_prepare 116 = .ok (.iload_n 1, 1) := by decide +kernel
theorem d_Mo_prepare_117 : decode b_Mo_prepare 117 = .ok (.ireturn, 1) := by decide +kernel
theorem d_Mo_begins_0 : decode b_Mo_begins 0 = .ok (.aload_n 0, 1) := by decide +kernel
theorem d_Mo_begins_1 : decode b_Mo_begins 1 = .ok (.iconst 0, 1) := by decide +kernel
theorem d_Mo_begins_2 : decode b_Mo_begins 2 = .ok (.putfield 136, 3) := by decide +kernel
theorem d_Mo_begins_5 : decode b_Mo_begins 5 = .ok (.aload_n 0, 1) := by decide +kernel
theorem d_Mo_begins_6 : decode b_Mo_begins 6 = .ok (.iconst 0, 1) := by decide +kernel
theorem d_Mo_begins_7 : decode b_Mo_begins 7 = .ok (.putfield 139, 3) := by decide +kernel
theorem d_Mo_begins_10 : decode b_Mo_begins 10 = .ok (.aload_n 0, 1) := by decide +kernel
theorem d_Mo_begins_11 : decode b_Mo_begins 11 = .ok (.iconst (-1), 1) := by decide +kernel
theorem d_Mo_begins_12 : decode b_Mo_begins 12 = .ok (.putfield 142, 3) := by decide +kernel
theorem d_Mo_begins_15 : decode b_Mo_begins 15 = .ok (.aload_n 0, 1) := by decide +kernel
theorem d_Mo_begins_16 : decode b_Mo_begins 16 = .ok (.iconst (-1), 1) := by decide +kernel
theorem d_Mo_begins_17 : decode b_Mo_begins 17 = .ok (.putfield 145, 3) := by decide +kernel
theorem d_Mo_begins_20 : decode b_Mo_begins 20 = .ok (.aload_n 0, 1) := by decide +kernel
theorem d_Mo_begins_21 : decode b_Mo_begins 21 = .ok (.iconst 0, 1) := by decide +kernel
theorem d_Mo_begins_22 : decode b_Mo_begins 22 = .ok (.putfield 148, 3) := by decide +kernel
theorem d_Mo_begins_25 : decode b_Mo_begins 25 = .ok (.return_, 1) := by decide +kernel
theorem d_Mo_cell_0 : decode b_Mo_cell 0 = .ok (.aload_n 0, 1) := by decide +kernel
theorem d_Mo_cell_1 : decode b_Mo_cell 1 = .ok (.getfield 16, 3) := by decide +kernel
theorem d_Mo_cell_4 : decode b_Mo_cell 4 = .ok (.bipush 6, 2) := by decide +kernel
theorem d_Mo_cell_6 : decode b_Mo_cell 6 = .ok (.iload_n 1, 1) := by decide +kernel
theorem d_Mo_cell_7 : decode b_Mo_cell 7 = .ok (.imul, 1) := by decide +kernel
theorem d_Mo_cell_8 : decode b_Mo_cell 8 = .ok (.iload_n 2, 1) := by decide +kernel
theorem d_Mo_cell_9 : decode b_Mo_cell 9 = .ok (.iadd, 1) := by decide +kernel
theorem d_Mo_cell_10 : decode b_Mo_cell 10 = .ok (.iaload, 1) := by decide +kernel
theorem d_Mo_cell_11 : decode b_Mo_cell 11 = .ok (.ireturn, 1) := by decide +kernel
theorem d_Mo_value_0 : decode b_Mo_value 0 = .ok (.aload_n 0, 1) := by decide +kernel
theorem d_Mo_value_1 : decode b_Mo_value 1 = .ok (.getfield 28, 3) := by decide +kernel
theorem d_Mo_value_4 : decode b_Mo_value 4 = .ok (.iload_n 1, 1) := by decide +kernel
theorem d_Mo_value_5 : decode b_Mo_value 5 = .ok (.iaload, 1) := by decide +kernel
theorem d_Mo_value_6 : decode b_Mo_value 6 = .ok (.istore 4, 2) := by decide +kernel
theorem d_Mo_value_8 : decode b_Mo_value 8 = .ok (.aload_n 0, 1) := by decide +kernel
theorem d_Mo_value_9 : decode b_Mo_value 9 = .ok (.getfield 25, 3) := by decide +kernel
theorem d_Mo_value_12 : decode b_Mo_value 12 = .ok (.iload_n 1, 1) := by decide +kernel
theorem d_Mo_value_13 : decode b_Mo_value 13 = .ok (.iaload, 1) := by decide +kernel
theorem d_Mo_value_14 : decode b_Mo_value 14 = .ok (.iconst 3, 1) := by decide +kernel
theorem d_Mo_value_15 : decode b_Mo_value 15 = .ok (.if_icmp .ne 8, 3) := by decide +kernel
theorem d_Mo_value_18 : decode b_Mo_value 18 = .ok (.iload 4, 2) := by decide +kernel
theorem d_Mo_value_20 : decode b_Mo_value 20 = .ok (.goto 30, 3) := by decide +kernel
theorem d_Mo_value_23 : decode b_Mo_value 23 = .ok (.iload 4, 2) := by decide +kernel
theorem d_Mo_value_25 : decode b_Mo_value 25 = .ok (.bipush 9, 2) := by decide +kernel
theorem d_Mo_value_27 : decode b_Mo_value 27 = .ok (.if_icmp .le 16, 3) := by decide +kernel
theorem d_Mo_value_30 : decode b_Mo_value 30 = .ok (.aload_n 0, 1) := by decide +kernel
theorem d_Mo_value_31 : decode b_Mo_value 31 = .ok (.iload_n 3, 1) := by decide +kernel
theorem d_Mo_value_32 : decode b_Mo_value 32 = .ok (.iload 4, 2) := by decide +kernel
theorem d_Mo_value_34 : decode b_Mo_value 34 = .ok (.bipush 10, 2) := by decide +kernel
theorem d_Mo_value_36 : decode b_Mo_value 36 = .ok (.isub, 1) := by decide +kernel
theorem d_Mo_value_37 : decode b_Mo_value 37 = .ok (.invokevirtual 151, 3) := by decide +kernel
theorem d_Mo_value_40 : decode b_Mo_value 40 = .ok (.goto 10, 3) := by decide +kernel
theorem d_Mo_value_43 : decode b_Mo_value 43 = .ok (.aload_n 0, 1) := by decide +kernel
theorem d_Mo_value_44 : decode b_Mo_value 44 = .ok (.iload_n 2, 1) := by decide +kernel
theorem d_Mo_value_45 : decode b_Mo_value 45 = .ok (.iload 4, 2) := by decide +kernel
theorem d_Mo_value_47 : decode b_Mo_value 47 = .ok (.invokevirtual 151, 3) := by decide +kernel
theorem d_Mo_value_50 : decode b_Mo_value 50 = .ok (.ireturn, 1) := by decide +kernel
theorem d_Mo_holds_0 : decode b_Mo_holds 0 = .ok (.iconst 1, 1) := by decide +kernel
theorem d_Mo_holds_1 : decode b_Mo_holds 1 = .ok (.istore_n 3, 1) := by decide +kernel
theorem d_Mo_holds_2 : decode b_Mo_holds 2 = .ok (.aload_n 0, 1) := by decide +kernel
theorem d_Mo_holds_3 : decode b_Mo_holds 3 = .ok (.getfield 121, 3) := by decide +kernel
theorem d_Mo_holds_6 : decode b_Mo_holds 6 = .ok (.istore 4, 2) := by decide +kernel
theorem d_Mo_holds_8 : decode b_Mo_holds 8 = .ok (.iload 4, 2) := by decide +kernel
theorem d_Mo_holds_10 : decode b_Mo_holds 10 = .ok (.aload_n 0, 1) := by decide +kernel
theorem d_Mo_holds_11 : decode b_Mo_holds 11 = .ok (.getfield 124, 3) := by decide +kernel
theorem d_Mo_holds_14 : decode b_Mo_holds 14 = .ok (.if_icmp .ge 93, 3) := by decide +kernel
theorem d_Mo_holds_17 : decode b_Mo_holds 17 = .ok (.aload_n 0, 1) := by decide +kernel
theorem d_Mo_holds_18 : decode b_Mo_holds 18 = .ok (.iload 4, 2) := by decide +kernel
theorem d_Mo_holds_20 : decode b_Mo_holds 20 = .ok (.iload_n 1, 1) := by decide +kernel
theorem d_Mo_holds_21 : decode b_Mo_holds 21 = .ok (.iload_n 2, 1) := by decide +kernel
theorem d_Mo_holds_22 : decode b_Mo_holds 22 = .ok (.invokevirtual 155, 3) := by decide +kernel
theorem d_Mo_holds_25 : decode b_Mo_holds 25 = .ok (.istore 5, 2) := by decide +kernel
theorem d_Mo_holds_27 : decode b_Mo_holds 27 = .ok (.aload_n 0, 1) := by decide +kernel
theorem d_Mo_holds_28 : decode b_Mo_holds 28 = .ok (.iload 4, 2) := by decide +kernel
theorem d_Mo_holds_30 : decode b_Mo_holds 30 = .ok (.iconst 2, 1) := by decide +kernel
theorem d_Mo_holds_31 : decode b_Mo_holds 31 = .ok (.iadd, 1) := by decide +kernel
theorem d_Mo_holds_32 : decode b_Mo_holds 32 = .ok (.iload_n 1, 1) := by decide +kernel
theorem d_Mo_holds_33 : decode b_Mo_holds 33 = .ok (.iload_n 2, 1) := by decide +kernel
theorem d_Mo_holds_34 : decode b_Mo_holds 34 = .ok (.invokevirtual 155, 3) := by decide +kernel
theorem d_Mo_holds_37 : decode b_Mo_holds 37 = .ok (.istore 6, 2) := by decide +kernel
theorem d_Mo_holds_39 : decode b_Mo_holds 39 = .ok (.aload_n 0, 1) := by decide +kernel
theorem d_Mo_holds_40 : decode b_Mo_holds 40 = .ok (.getfield 28, 3) := by decide +kernel
theorem d_Mo_holds_43 : decode b_Mo_holds 43 = .ok (.iload 4, 2) := by decide +kernel
theorem d_Mo_holds_45 : decode b_Mo_holds 45 = .ok (.iconst 1, 1) := by decide +kernel
theorem d_Mo_holds_46 : decode b_Mo_holds 46 = .ok (.iadd, 1) := by decide +kernel
theorem d_Mo_holds_47 : decode b_Mo_holds 47 = .ok (.iaload, 1) := by decide +kernel
theorem d_Mo_holds_48 : decode b_Mo_holds 48 = .ok (.istore 7, 2) := by decide +kernel
theorem d_Mo_holds_50 : decode b_Mo_holds 50 = .ok (.iload_n 3, 1) := by decide +kernel
theorem d_Mo_holds_51 : decode b_Mo_holds 51 = .ok (.ifCond .eq 48, 3) := by decide +kernel
theorem d_Mo_holds_54 : decode b_Mo_holds 54 = .ok (.iload 7, 2) := by decide +kernel
theorem d_Mo_holds_56 : decode b_Mo_holds 56 = .ok (.bipush 10, 2) := by decide +kernel
theorem d_Mo_holds_58 : decode b_Mo_holds 58 = .ok (.if_icmp .ne 13, 3) := by decide +kernel
theorem d_Mo_holds_61 : decode b_Mo_holds 61 = .ok (.iload 5, 2) := by decide +kernel
theorem d_Mo_holds_63 : decode b_Mo_holds 63 = .ok (.iload 6, 2) := by decide +kernel
theorem d_Mo_holds_65 : decode b_Mo_holds 65 = .ok (.if_icmp .ne 34, 3) := by decide +kernel
theorem d_Mo_holds_68 : decode b_Mo_holds 68 = .ok (.goto 27, 3) := by decide +kernel
theorem d_Mo_holds_71 : decode b_Mo_holds 71 = .ok (.iload 7, 2) := by decide +kernel
theorem d_Mo_holds_73 : decode b_Mo_holds 73 = .ok (.bipush 11, 2) := by decide +kernel
theorem d_Mo_holds_75 : decode b_Mo_holds 75 = .ok (.if_icmp .ne 13, 3) := by decide +kernel
theorem d_Mo_holds_78 : decode b_Mo_holds 78 = .ok (.iload 5, 2) := by decide +kernel
theorem d_Mo_holds_80 : decode b_Mo_holds 80 = .ok (.iload 6, 2) := by decide +kernel
theorem d_Mo_holds_82 : decode b_Mo_holds 82 = .ok (.if_icmp .ge 17, 3) := by decide +kernel
theorem d_Mo_holds_85 : decode b_Mo_holds 85 = .ok (.goto 10, 3) := by decide +kernel
theorem d_Mo_holds_88 : decode b_Mo_holds 88 = .ok (.iload 5, 2) := by decide +kernel
theorem d_Mo_holds_90 : decode b_Mo_holds 90 = .ok (.iload 6, 2) := by decide +kernel
theorem d_Mo_holds_92 : decode b_Mo_holds 92 = .ok (.if_icmp .le 7, 3) := by decide +kernel
theorem d_Mo_holds_95 : decode b_Mo_holds 95 = .ok (.iconst 1, 1) := by decide +kernel
theorem d_Mo_holds_96 : decode b_Mo_holds 96 = .ok (.goto 4, 3) := by decide +kernel
theorem d_Mo_holds_99 : decode b_Mo_holds 99 = .ok (.iconst 0, 1) := by decide +kernel
theorem d_Mo_holds_100 : decode b_Mo_holds 100 = .ok (.istore_n 3, 1) := by decide +kernel
theorem d_Mo_holds_101 : decode b_Mo_holds 101 = .ok (.iinc 4 4, 3) := by decide +kernel
theorem d_Mo_holds_104 : decode b_Mo_holds 104 = .ok (.goto (-96), 3) := by decide +kernel
theorem d_Mo_holds_107 : decode b_Mo_holds 107 = .ok (.iload_n 3, 1) := by decide +kernel
theorem d_Mo_holds_108 : decode b_Mo_holds 108 = .ok (.ireturn, 1) := by decide +kernel
theorem d_Mo_behind_0 : decode b_Mo_behind 0 = .ok (.iconst (-1), 1) := by decide +kernel
theorem d_Mo_behind_1 : decode b_Mo_behind 1 = .ok (.istore_n 3, 1) := by decide +kernel
theorem d_Mo_behind_2 : decode b_Mo_behind 2 = .ok (.iconst 0, 1) := by decide +kernel
theorem d_Mo_behind_3 : decode b_Mo_behind 3 = .ok (.istore 4, 2) := by decide +kernel
theorem d_Mo_behind_5 : decode b_Mo_behind 5 = .ok (.iload 4, 2) := by decide +kernel
theorem d_Mo_behind_7 : decode b_Mo_behind 7 = .ok (.aload_n 0, 1) := by decide +kernel
theorem d_Mo_behind_8 : decode b_Mo_behind 8 = .ok (.getfield 159, 3) := by decide +kernel
theorem d_Mo_behind_11 : decode b_Mo_behind 11 = .ok (.if_icmp .ge 133, 3) := by decide +kernel
theorem d_Mo_behind_14 : decode b_Mo_behind 14 = .ok (.aload_n 0, 1) := by decide +kernel
theorem d_Mo_behind_15 : decode b_Mo_behind 15 = .ok (.getfield 13, 3) := by decide +kernel
theorem d_Mo_behind_18 : decode b_Mo_behind 18 = .ok (.iload 4, 2) := by decide +kernel
theorem d_Mo_behind_20 : decode b_Mo_behind 20 = .ok (.iaload, 1) := by decide +kernel
theorem d_Mo_behind_21 : decode b_Mo_behind 21 = .ok (.iload_n 1, 1) := by decide +kernel
theorem d_Mo_behind_22 : decode b_Mo_behind 22 = .ok (.if_icmp .ne 116, 3) := by decide +kernel
theorem d_Mo_behind_25 : decode b_Mo_behind 25 = .ok (.iload_n 2, 1) := by decide +kernel
theorem d_Mo_behind_26 : decode b_Mo_behind 26 = .ok (.iconst (-1), 1) := by decide +kernel
theorem d_Mo_behind_27 : decode b_Mo_behind 27 = .ok (.if_icmp .eq 45, 3) := by decide +kernel
theorem d_Mo_behind_30 : decode b_Mo_behind 30 = .ok (.aload_n 0, 1) := by decide +kernel
theorem d_Mo_behind_31 : decode b_Mo_behind 31 = .ok (.getfield 127, 3) := by decide +kernel
theorem d_Mo_behind_34 : decode b_Mo_behind 34 = .ok (.ifCond .eq 22, 3) := by decide +kernel
theorem d_Mo_behind_37 : decode b_Mo_behind 37 = .ok (.aload_n 0, 1) := by decide +kernel
theorem d_Mo_behind_38 : decode b_Mo_behind 38 = .ok (.iload 4, 2) := by decide +kernel
theorem d_Mo_behind_40 : decode b_Mo_behind 40 = .ok (.iconst 0, 1) := by decide +kernel
theorem d_Mo_behind_41 : decode b_Mo_behind 41 = .ok (.invokevirtual 151, 3) := by decide +kernel
theorem d_Mo_behind_44 : decode b_Mo_behind 44 = .ok (.aload_n 0, 1) := by decide +kernel
theorem d_Mo_behind_45 : decode b_Mo_behind 45 = .ok (.iload_n 2, 1) := by decide +kernel
theorem d_Mo_behind_46 : decode b_Mo_behind 46 = .ok (.iconst 0, 1) := by decide +kernel
theorem d_Mo_behind_47 : decode b_Mo_behind 47 = .ok (.invokevirtual 151, 3) := by decide +kernel
theorem d_Mo_behind_50 : decode b_Mo_behind 50 = .ok (.if_icmp .ge 88, 3) := by decide +kernel
theorem d_Mo_behind_53 : decode b_Mo_behind 53 = .ok (.goto 19, 3) := by decide +kernel
theorem d_Mo_behind_56 : decode b_Mo_behind 56 = .ok (.aload_n 0, 1) := by decide +kernel
theorem d_Mo_behind_57 : decode b_Mo_behind 57 = .ok (.iload 4, 2) := by decide +kernel
theorem d_Mo_behind_59 : decode b_Mo_behind 59 = .ok (.iconst 0, 1) := by decide +kernel
theorem d_Mo_behind_60 : decode b_Mo_behind 60 = .ok (.invokevirtual 151, 3) := by decide +kernel
theorem d_Mo_behind_63 : decode b_Mo_behind 63 = .ok (.aload_n 0, 1) := by decide +kernel
theorem d_Mo_behind_64 : decode b_Mo_behind 64 = .ok (.iload_n 2, 1) := by decide +kernel
theorem d_Mo_behind_65 : decode b_Mo_behind 65 = .ok (.iconst 0, 1) := by decide +kernel
theorem d_Mo_behind_66 : decode b_Mo_behind 66 = .ok (.invokevirtual 151, 3) := by decide +kernel
theorem d_Mo_behind_69 : decode b_Mo_behind 69 = .ok (.if_icmp .le 69, 3) := by decide +kernel
theorem d_Mo_behind_72 : decode b_Mo_behind 72 = .ok (.iload_n 3, 1) := by decide +kernel
theorem d_Mo_behind_73 : decode b_Mo_behind 73 = .ok (.iconst (-1), 1) := by decide +kernel
theorem d_Mo_behind_74 : decode b_Mo_behind 74 = .ok (.if_icmp .eq 45, 3) := by decide +kernel
theorem d_Mo_behind_77 : decode b_Mo_behind 77 = .ok (.aload_n 0, 1) := by decide +kernel
theorem d_Mo_behind_78 : decode b_Mo_behind 78 = .ok (.getfield 127, 3) := by decide +kernel
theorem d_Mo_behind_81 : decode b_Mo_behind 81 = .ok (.ifCond .eq 22, 3) := by decide +kernel
theorem d_Mo_behind_84 : decode b_Mo_behind 84 = .ok (.aload_n 0, 1) := by decide +kernel
theorem d_Mo_behind_85 : decode b_Mo_behind 85 = .ok (.iload 4, 2) := by decide +kernel
theorem d_Mo_behind_87 : decode b_Mo_behind 87 = .ok (.iconst 0, 1) := by decide +kernel
theorem d_Mo_behind_88 : decode b_Mo_behind 88 = .ok (.invokevirtual 151, 3) := by decide +kernel
theorem d_Mo_behind_91 : decode b_Mo_behind 91 = .ok (.aload_n 0, 1) := by decide +kernel
theorem d_Mo_behind_92 : decode b_Mo_behind 92 = .ok (.iload_n 3, 1) := by decide +kernel
theorem d_Mo_behind_93 : decode b_Mo_behind 93 = .ok (.iconst 0, 1) := by decide +kernel
theorem d_Mo_behind_94 : decode b_Mo_behind 94 = .ok (.invokevirtual 151, 3) := by decide +kernel
theorem d_Mo_behind_97 : decode b_Mo_behind 97 = .ok (.if_icmp .le 26, 3) := by decide +kernel
theorem d_Mo_behind_100 : decode b_Mo_behind 100 = .ok (.goto 19, 3) := by decide +kernel
theorem d_Mo_behind_103 : decode b_Mo_behind 103 = .ok (.aload_n 0, 1) := by decide +kernel
theorem d_Mo_behind_104 : decode b_Mo_behind 104 = .ok (.iload 4, 2) := by decide +kernel
theorem d_Mo_behind_106 : decode b_Mo_behind 106 = .ok (.iconst 0, 1) := by decide +kernel
theorem d_Mo_behind_107 : decode b_Mo_behind 107 = .ok (.invokevirtual 151, 3) := by decide +kernel
theorem d_Mo_behind_110 : decode b_Mo_behind 110 = .ok (.aload_n 0, 1) := by decide +kernel
theorem d_Mo_behind_111 : decode b_Mo_behind 111 = .ok (.iload_n 3, 1) := by decide +kernel
theorem d_Mo_behind_112 : decode b_Mo_behind 112 = .ok (.iconst 0, 1) := by decide +kernel
theorem d_Mo_behind_113 : decode b_Mo_behind 113 = .ok (.invokevirtual 151, 3) := by decide +kernel
theorem d_Mo_behind_116 : decode b_Mo_behind 116 = .ok (.if_icmp .ge 7, 3) := by decide +kernel
theorem d_Mo_behind_119 : decode b_Mo_behind 119 = .ok (.iconst 1, 1) := by decide +kernel
theorem d_Mo_behind_120 : decode b_Mo_behind 120 = .ok (.goto 4, 3) := by decide +kernel
theorem d_Mo_behind_123 : decode b_Mo_behind 123 = .ok (.iconst 0, 1) := by decide +kernel
theorem d_Mo_behind_124 : decode b_Mo_behind 124 = .ok (.istore 5, 2) := by decide +kernel
theorem d_Mo_behind_126 : decode b_Mo_behind 126 = .ok (.iload 5, 2) := by decide +kernel
theorem d_Mo_behind_128 : decode b_Mo_behind 128 = .ok (.ifCond .eq 8, 3) := by decide +kernel
theorem d_Mo_behind_131 : decode b_Mo_behind 131 = .ok (.iload 4, 2) := by decide +kernel
theorem d_Mo_behind_133 : decode b_Mo_behind 133 = .ok (.goto 4, 3) := by decide +kernel
theorem d_Mo_behind_136 : decode b_Mo_behind 136 = .ok (.iload_n 3, 1) := by decide +kernel
theorem d_Mo_behind_137 : decode b_Mo_behind 137 = .ok (.istore_n 3, 1) := by decide +kernel
theorem d_Mo_behind_138 : decode b_Mo_behind 138 = .ok (.iinc 4 1, 3) := by decide +kernel
theorem d_Mo_behind_141 : decode b_Mo_behind 141 = .ok (.goto (-136), 3) := by decide +kernel
theorem d_Mo_behind_144 : decode b_Mo_behind 144 = .ok (.iload_n 3, 1) := by decide +kernel
theorem d_Mo_behind_145 : decode b_Mo_behind 145 = .ok (.ireturn, 1) := by decide +kernel
theorem d_Mo_moves_0 : decode b_Mo_moves 0 = .ok (.aload_n 0, 1) := by decide +kernel
theorem d_Mo_moves_1 : decode b_Mo_moves 1 = .ok (.getfield 118, 3) := by decide +kernel
theorem d_Mo_moves_4 : decode b_Mo_moves 4 = .ok (.iconst (-1), 1) := by decide +kernel
theorem d_Mo_moves_5 : decode b_Mo_moves 5 = .ok (.if_icmp .ne 33, 3) := by decide +kernel
theorem d_Mo_moves_8 : decode b_Mo_moves 8 = .ok (.aload_n 0, 1) := by decide +kernel
theorem d_Mo_moves_9 : decode b_Mo_moves 9 = .ok (.aload_n 0, 1) := by decide +kernel
theorem d_Mo_moves_10 : decode b_Mo_moves 10 = .ok (.aload_n 0, 1) := by decide +kernel
theorem d_Mo_moves_11 : decode b_Mo_moves 11 = .ok (.getfield 115, 3) := by decide +kernel
theorem d_Mo_moves_14 : decode b_Mo_moves 14 = .ok (.aload_n 0, 1) := by decide +kernel
theorem d_Mo_moves_15 : decode b_Mo_moves 15 = .ok (.getfield 142, 3) := by decide +kernel
theorem d_Mo_moves_18 : decode b_Mo_moves 18 = .ok (.invokevirtual 162, 3) := by decide +kernel
theorem d_Mo_moves_21 : decode b_Mo_moves 21 = .ok (.putfield 142, 3) := by decide +kernel
theorem d_Mo_moves_24 : decode b_Mo_moves 24 = .ok (.aload_n 0, 1) := by decide +kernel
theorem d_Mo_moves_25 : decode b_Mo_moves 25 = .ok (.getfield 142, 3) := by decide +kernel
theorem d_Mo_moves_28 : decode b_Mo_moves 28 = .ok (.iconst (-1), 1) := by decide +kernel
theorem d_Mo_moves_29 : decode b_Mo_moves 29 = .ok (.if_icmp .eq 7, 3) := by decide +kernel
theorem d_Mo_moves_32 : decode b_Mo_moves 32 = .ok (.iconst 1, 1) := by decide +kernel
theorem d_Mo_moves_33 : decode b_Mo_moves 33 = .ok (.goto 4, 3) := by decide +kernel
theorem d_Mo_moves_36 : decode b_Mo_moves 36 = .ok (.iconst 0, 1) := by decide +kernel
theorem d_Mo_moves_37 : decode b_Mo_moves 37 = .ok (.ireturn, 1) := by decide +kernel
theorem d_Mo_moves_38 : decode b_Mo_moves 38 = .ok (.aload_n 0, 1) := by decide +kernel
theorem d_Mo_moves_39 : decode b_Mo_moves 39 = .ok (.getfield 142, 3) := by decide +kernel
theorem d_Mo_moves_42 : decode b_Mo_moves 42 = .ok (.iconst (-1), 1) := by decide +kernel
theorem d_Mo_moves_43 : decode b_Mo_moves 43 = .ok (.if_icmp .eq 19, 3) := by decide +kernel
theorem d_Mo_moves_46 : decode b_Mo_moves 46 = .ok (.aload_n 0, 1) := by decide +kernel
theorem d_Mo_moves_47 : decode b_Mo_moves 47 = .ok (.aload_n 0, 1) := by decide +kernel
theorem d_Mo_moves_48 : decode b_Mo_moves 48 = .ok (.aload_n 0, 1) := by decide +kernel
theorem d_Mo_moves_49 : decode b_Mo_moves 49 = .ok (.getfield 118, 3) := by decide +kernel
theorem d_Mo_moves_52 : decode b_Mo_moves 52 = .ok (.aload_n 0, 1) := by decide +kernel
theorem d_Mo_moves_53 : decode b_Mo_moves 53 = .ok (.getfield 145, 3) := by decide +kernel
theorem d_Mo_moves_56 : decode b_Mo_moves 56 = .ok (.invokevirtual 162, 3) := by decide +kernel
theorem d_Mo_moves_59 : decode b_Mo_moves 59 = .ok (.putfield 145, 3) := by decide +kernel
theorem d_Mo_moves_62 : decode b_Mo_moves 62 = .ok (.aload_n 0, 1) := by decide +kernel
theorem d_Mo_moves_63 : decode b_Mo_moves 63 = .ok (.getfield 142, 3) := by decide +kernel
theorem d_Mo_moves_66 : decode b_Mo_moves 66 = .ok (.iconst (-1), 1) := by decide +kernel
theorem d_Mo_moves_67 : decode b_Mo_moves 67 = .ok (.if_icmp .eq 11, 3) := by decide +kernel
theorem d_Mo_moves_70 : decode b_Mo_moves 70 = .ok (.aload_n 0, 1) := by decide +kernel
theorem d_Mo_moves_71 : decode b_Mo_moves 71 = .ok (.getfield 145, 3) := by decide +kernel
theorem d_Mo_moves_74 : decode b_Mo_moves 74 = .ok (.iconst (-1), 1) := by decide +kernel
theorem d_Mo_moves_75 : decode b_Mo_moves 75 = .ok (.if_icmp .ne 52, 3) := by decide +kernel
theorem d_Mo_moves_78 : decode b_Mo_moves 78 = .ok (.aload_n 0, 1) := by decide +kernel
theorem d_Mo_moves_79 : decode b_Mo_moves 79 = .ok (.aload_n 0, 1) := by decide +kernel
theorem d_Mo_moves_80 : decode b_Mo_moves 80 = .ok (.aload_n 0, 1) := by decide +kernel
theorem d_Mo_moves_81 : decode b_Mo_moves 81 = .ok (.getfield 115, 3) := by decide +kernel
theorem d_Mo_moves_84 : decode b_Mo_moves 84 = .ok (.aload_n 0, 1) := by decide +kernel
theorem d_Mo_moves_85 : decode b_Mo_moves 85 = .ok (.getfield 142, 3) := by decide +kernel
theorem d_Mo_moves_88 : decode b_Mo_moves 88 = .ok (.invokevirtual 162, 3) := by decide +kernel
theorem d_Mo_moves_91 : decode b_Mo_moves 91 = .ok (.putfield 142, 3) := by decide +kernel
theorem d_Mo_moves_94 : decode b_Mo_moves 94 = .ok (.aload_n 0, 1) := by decide +kernel
theorem d_Mo_moves_95 : decode b_Mo_moves 95 = .ok (.getfield 142, 3) := by decide +kernel
theorem d_Mo_moves_98 : decode b_Mo_moves 98 = .ok (.iconst (-1), 1) := by decide +kernel
theorem d_Mo_moves_99 : decode b_Mo_moves 99 = .ok (.if_icmp .ne 5, 3) := by decide +kernel
theorem d_Mo_moves_102 : decode b_Mo_moves 102 = .ok (.iconst 0, 1) := by decide +kernel
theorem d_Mo_moves_103 : decode b_Mo_moves 103 = .ok (.ireturn, 1) := by decide +kernel
theorem d_Mo_moves_104 : decode b_Mo_moves 104 = .ok (.aload_n 0, 1) := by decide +kernel
theorem d_Mo_moves_105 : decode b_Mo_moves 105 = .ok (.aload_n 0, 1) := by decide +kernel
theorem d_Mo_moves_106 : decode b_Mo_moves 106 = .ok (.aload_n 0, 1) := by decide +kernel
theorem d_Mo_moves_107 : decode b_Mo_moves 107 = .ok (.getfield 118, 3) := by decide +kernel
theorem d_Mo_moves_110 : decode b_Mo_moves 110 = .ok (.iconst (-1), 1) := by decide +kernel
theorem d_Mo_moves_111 : decode b_Mo_moves 111 = .ok (.invokevirtual 162, 3) := by decide +kernel
theorem d_Mo_moves_114 : decode b_Mo_moves 114 = .ok (.putfield 145, 3) := by decide +kernel
theorem d_Mo_moves_117 : decode b_Mo_moves 117 = .ok (.aload_n 0, 1) := by decide +kernel
theorem d_Mo_moves_118 : decode b_Mo_moves 118 = .ok (.getfield 145, 3) := by decide +kernel
theorem d_Mo_moves_121 : decode b_Mo_moves 121 = .ok (.iconst (-1), 1) := by decide +kernel
theorem d_Mo_moves_122 : decode b_Mo_moves 122 = .ok (.if_icmp .ne (-60), 3) := by decide +kernel
theorem d_Mo_moves_125 : decode b_Mo_moves 125 = .ok (.iconst 0, 1) := by decide +kernel
theorem d_Mo_moves_126 : decode b_Mo_moves 126 = .ok (.ireturn, 1) := by decide +kernel
theorem d_Mo_moves_127 : decode b_Mo_moves 127 = .ok (.iconst 1, 1) := by decide +kernel
theorem d_Mo_moves_128 : decode b_Mo_moves 128 = .ok (.ireturn, 1) := by decide +kernel
theorem d_Mo_findKey_0 : decode b_Mo_findKey 0 = .ok (.iconst (-1), 1) := by decide +kernel
theorem d_Mo_findKey_1 : decode b_Mo_findKey 1 = .ok (.istore_n 3, 1) := by decide +kernel
theorem d_Mo_findKey_2 : decode b_Mo_findKey 2 = .ok (.iconst 0, 1) := by decide +kernel
theorem d_Mo_findKey_3 : decode b_Mo_findKey 3 = .ok (.istore 4, 2) := by decide +kernel
theorem d_Mo_findKey_5 : decode b_Mo_findKey 5 = .ok (.iload 4, 2) := by decide +kernel
theorem d_Mo_findKey_7 : decode b_Mo_findKey 7 = .ok (.aload_n 0, 1) := by decide +kernel
theorem d_Mo_findKey_8 : decode b_Mo_findKey 8 = .ok (.getfield 159, 3) := by decide +kernel
theorem d_Mo_findKey_11 : decode b_Mo_findKey 11 = .ok (.if_icmp .ge 38, 3) := by decide +kernel
theorem d_Mo_findKey_14 : decode b_Mo_findKey 14 = .ok (.aload_n 0, 1) := by decide +kernel
theorem d_Mo_findKey_15 : decode b_Mo_findKey 15 = .ok (.getfield 13, 3) := by decide +kernel
theorem d_Mo_findKey_18 : decode b_Mo_findKey 18 = .ok (.iload 4, 2) := by decide +kernel
theorem d_Mo_findKey_20 : decode b_Mo_findKey 20 = .ok (.iaload, 1) := by decide +kernel
theorem d_Mo_findKey_21 : decode b_Mo_findKey 21 = .ok (.iload_n 1, 1) := by decide +kernel
theorem d_Mo_findKey_22 : decode b_Mo_findKey 22 = .ok (.if_icmp .ne 19, 3) := by decide +kernel
theorem d_Mo_findKey_25 : decode b_Mo_findKey 25 = .ok (.aload_n 0, 1) := by decide +kernel
theorem d_Mo_findKey_26 : decode b_Mo_findKey 26 = .ok (.iload 4, 2) := by decide +kernel
theorem d_Mo_findKey_28 : decode b_Mo_findKey 28 = .ok (.iconst 0, 1) := by decide +kernel
theorem d_Mo_findKey_29 : decode b_Mo_findKey 29 = .ok (.invokevirtual 151, 3) := by decide +kernel
theorem d_Mo_findKey_32 : decode b_Mo_findKey 32 = .ok (.iload_n 2, 1) := by decide +kernel
theorem d_Mo_findKey_33 : decode b_Mo_findKey 33 = .ok (.if_icmp .ne 8, 3) := by decide +kernel
theorem d_Mo_findKey_36 : decode b_Mo_findKey 36 = .ok (.iload 4, 2) := by decide +kernel
theorem d_Mo_findKey_38 : decode b_Mo_findKey 38 = .ok (.goto 4, 3) := by decide +kernel
theorem d_Mo_findKey_41 : decode b_Mo_findKey 41 = .ok (.iload_n 3, 1) := by decide +kernel
theorem d_Mo_findKey_42 : decode b_Mo_findKey 42 = .ok (.istore_n 3, 1) := by decide +kernel
theorem d_Mo_findKey_43 : decode b_Mo_findKey 43 = .ok (.iinc 4 1, 3) := by decide +kernel
theorem d_Mo_findKey_46 : decode b_Mo_findKey 46 = .ok (.goto (-41), 3) := by decide +kernel
theorem d_Mo_findKey_49 : decode b_Mo_findKey 49 = .ok (.iload_n 3, 1) := by decide +kernel
theorem d_Mo_findKey_50 : decode b_Mo_findKey 50 = .ok (.ireturn, 1) := by decide +kernel
theorem d_Mo_inserts_0 : decode b_Mo_inserts 0 = .ok (.aload_n 0, 1) := by decide +kernel
theorem d_Mo_inserts_1 : decode b_Mo_inserts 1 = .ok (.aload_n 0, 1) := by decide +kernel
theorem d_Mo_inserts_2 : decode b_Mo_inserts 2 = .ok (.getfield 115, 3) := by decide +kernel
theorem d_Mo_inserts_5 : decode b_Mo_inserts 5 = .ok (.aload_n 0, 1) := by decide +kernel
theorem d_Mo_inserts_6 : decode b_Mo_inserts 6 = .ok (.getfield 28, 3) := by decide +kernel
theorem d_Mo_inserts_9 : decode b_Mo_inserts 9 = .ok (.iconst 2, 1) := by decide +kernel
theorem d_Mo_inserts_10 : decode b_Mo_inserts 10 = .ok (.iaload, 1) := by decide +kernel
theorem d_Mo_inserts_11 : decode b_Mo_inserts 11 = .ok (.invokevirtual 165, 3) := by decide +kernel
theorem d_Mo_inserts_14 : decode b_Mo_inserts 14 = .ok (.iconst (-1), 1) := by decide +kernel
theorem d_Mo_inserts_15 : decode b_Mo_inserts 15 = .ok (.if_icmp .eq 5, 3) := by decide +kernel
theorem d_Mo_inserts_18 : decode b_Mo_inserts 18 = .ok (.iconst (-1), 1) := by decide +kernel
theorem d_Mo_inserts_19 : decode b_Mo_inserts 19 = .ok (.ireturn, 1) := by decide +kernel
theorem d_Mo_inserts_20 : decode b_Mo_inserts 20 = .ok (.aload_n 0, 1) := by decide +kernel
theorem d_Mo_inserts_21 : decode b_Mo_inserts 21 = .ok (.getfield 159, 3) := by decide +kernel
theorem d_Mo_inserts_24 : decode b_Mo_inserts 24 = .ok (.sipush 400, 3) := by decide +kernel
theorem d_Mo_inserts_27 : decode b_Mo_inserts 27 = .ok (.if_icmp .ne 6, 3) := by decide +kernel
theorem d_Mo_inserts_30 : decode b_Mo_inserts 30 = .ok (.bipush (-2), 2) := by decide +kernel
theorem d_Mo_inserts_32 : decode b_Mo_inserts 32 = .ok (.ireturn, 1) := by decide +kernel
theorem d_Mo_inserts_33 : decode b_Mo_inserts 33 = .ok (.aload_n 0, 1) := by decide +kernel
theorem d_Mo_inserts_34 : decode b_Mo_inserts 34 = .ok (.getfield 13, 3) := by decide +kernel
theorem d_Mo_inserts_37 : decode b_Mo_inserts 37 = .ok (.aload_n 0, 1) := by decide +kernel
theorem d_Mo_inserts_38 : decode b_Mo_inserts 38 = .ok (.getfield 159, 3) := by decide +kernel
theorem d_Mo_inserts_41 : decode b_Mo_inserts 41 = .ok (.aload_n 0, 1) := by decide +kernel
theorem d_Mo_inserts_42 : decode b_Mo_inserts 42 = .ok (.getfield 115, 3) := by decide +kernel
theorem d_Mo_inserts_45 : decode b_Mo_inserts 45 = .ok (.iastore, 1) := by decide +kernel
theorem d_Mo_inserts_46 : decode b_Mo_inserts 46 = .ok (.iconst 0, 1) := by decide +kernel
theorem d_Mo_inserts_47 : decode b_Mo_inserts 47 = .ok (.istore_n 1, 1) := by decide +kernel
theorem d_Mo_inserts_48 : decode b_Mo_inserts 48 = .ok (.iload_n 1, 1) := by decide +kernel
theorem d_Mo_inserts_49 : decode b_Mo_inserts 49 = .ok (.aload_n 0, 1) := by decide +kernel
theorem d_Mo_inserts_50 : decode b_Mo_inserts 50 = .ok (.getfield 7, 3) := by decide +kernel
theorem d_Mo_inserts_53 : decode b_Mo_inserts 53 = .ok (.aload_n 0, 1) := by decide +kernel
theorem d_Mo_inserts_54 : decode b_Mo_inserts 54 = .ok (.getfield 115, 3) := by decide +kernel
theorem d_Mo_inserts_57 : decode b_Mo_inserts 57 = .ok (.iaload, 1) := by decide +kernel
theorem d_Mo_inserts_58 : decode b_Mo_inserts 58 = .ok (.if_icmp .ge 31, 3) := by decide +kernel
theorem d_Mo_inserts_61 : decode b_Mo_inserts 61 = .ok (.aload_n 0, 1) := by decide +kernel
theorem d_Mo_inserts_62 : decode b_Mo_inserts 62 = .ok (.getfield 16, 3) := by decide +kernel
theorem d_Mo_inserts_65 : decode b_Mo_inserts 65 = .ok (.bipush 6, 2) := by decide +kernel
theorem d_Mo_inserts_67 : decode b_Mo_inserts 67 = .ok (.aload_n 0, 1) := by decide +kernel
theorem d_Mo_inserts_68 : decode b_Mo_inserts 68 = .ok (.getfield 159, 3) := by decide +kernel
theorem d_Mo_inserts_71 : decode b_Mo_inserts 71 = .ok (.imul, 1) := by decide +kernel
theorem d_Mo_inserts_72 : decode b_Mo_inserts 72 = .ok (.iload_n 1, 1) := by decide +kernel
theorem d_Mo_inserts_73 : decode b_Mo_inserts 73 = .ok (.iadd, 1) := by decide +kernel
theorem d_Mo_inserts_74 : decode b_Mo_inserts 74 = .ok (.aload_n 0, 1) := by decide +kernel
theorem d_Mo_inserts_75 : decode b_Mo_inserts 75 = .ok (.getfield 28, 3) := by decide +kernel
theorem d_Mo_inserts_78 : decode b_Mo_inserts 78 = .ok (.iconst 2, 1) := by decide +kernel
theorem d_Mo_inserts_79 : decode b_Mo_inserts 79 = .ok (.iload_n 1, 1) := by decide +kernel
theorem d_Mo_inserts_80 : decode b_Mo_inserts 80 = .ok (.iadd, 1) := by decide +kernel
theorem d_Mo_inserts_81 : decode b_Mo_inserts 81 = .ok (.iaload, 1) := by decide +kernel
theorem d_Mo_inserts_82 : decode b_Mo_inserts 82 = .ok (.iastore, 1) := by decide +kernel
theorem d_Mo_inserts_83 : decode b_Mo_inserts 83 = .ok (.iinc 1 1, 3) := by decide +kernel
theorem d_Mo_inserts_86 : decode b_Mo_inserts 86 = .ok (.goto (-38), 3) := by decide +kernel
theorem d_Mo_inserts_89 : decode b_Mo_inserts 89 = .ok (.aload_n 0, 1) := by decide +kernel
theorem d_Mo_inserts_90 : decode b_Mo_inserts 90 = .ok (.dup, 1) := by decide +kernel
theorem d_Mo_inserts_91 : decode b_Mo_inserts 91 = .ok (.getfield 159, 3) := by decide +kernel
theorem d_Mo_inserts_94 : decode b_Mo_inserts 94 = .ok (.iconst 1, 1) := by decide +kernel
theorem d_Mo_inserts_95 : decode b_Mo_inserts 95 = .ok (.iadd, 1) := by decide +kernel
theorem d_Mo_inserts_96 : decode b_Mo_inserts 96 = .ok (.putfield 159, 3) := by decide +kernel
theorem d_Mo_inserts_99 : decode b_Mo_inserts 99 = .ok (.iconst 0, 1) := by decide +kernel
theorem d_Mo_inserts_100 : decode b_Mo_inserts 100 = .ok (.ireturn, 1) := by decide +kernel
theorem d_Mo_deletes_0 : decode b_Mo_deletes 0 = .ok (.iconst 0, 1) := by decide +kernel
theorem d_Mo_deletes_1 : decode b_Mo_deletes 1 = .ok (.istore_n 1, 1) := by decide +kernel
theorem d_Mo_deletes_2 : decode b_Mo_deletes 2 = .ok (.iconst 0, 1) := by decide +kernel
theorem d_Mo_deletes_3 : decode b_Mo_deletes 3 = .ok (.istore_n 2, 1) := by decide +kernel
theorem d_Mo_deletes_4 : decode b_Mo_deletes 4 = .ok (.iload_n 2, 1) := by decide +kernel
theorem d_Mo_deletes_5 : decode b_Mo_deletes 5 = .ok (.aload_n 0, 1) := by decide +kernel
theorem d_Mo_deletes_6 : decode b_Mo_deletes 6 = .ok (.getfield 159, 3) := by decide +kernel
theorem d_Mo_deletes_9 : decode b_Mo_deletes 9 = .ok (.if_icmp .ge 85, 3) := by decide +kernel
theorem d_Mo_deletes_12 : decode b_Mo_deletes 12 = .ok (.aload_n 0, 1) := by decide +kernel
theorem d_Mo_deletes_13 : decode b_Mo_deletes 13 = .ok (.getfield 13, 3) := by decide +kernel
theorem d_Mo_deletes_16 : decode b_Mo_deletes 16 = .ok (.iload_n 2, 1) := by decide +kernel
theorem d_Mo_deletes_17 : decode b_Mo_deletes 17 = .ok (.iaload, 1) := by decide +kernel
theorem d_Mo_deletes_18 : decode b_Mo_deletes 18 = .ok (.aload_n 0, 1) := by decide +kernel
theorem d_Mo_deletes_19 : decode b_Mo_deletes 19 = .ok (.getfield 115, 3) := by decide +kernel
theorem d_Mo_deletes_22 : decode b_Mo_deletes 22 = .ok (.if_icmp .ne 15, 3) := by decide +kernel
theorem d_Mo_deletes_25 : decode b_Mo_deletes 25 = .ok (.aload_n 0, 1) := by decide +kernel
theorem d_Mo_deletes_26 : decode b_Mo_deletes 26 = .ok (.iload_n 2, 1) := by decide +kernel
theorem d_Mo_deletes_27 : decode b_Mo_deletes 27 = .ok (.iload_n 2, 1) := by decide +kernel
theorem d_Mo_deletes_28 : decode b_Mo_deletes 28 = .ok (.invokevirtual 168, 3) := by decide +kernel
theorem d_Mo_deletes_31 : decode b_Mo_deletes 31 = .ok (.ifCond .eq 6, 3) := by decide +kernel
theorem d_Mo_deletes_34 : decode b_Mo_deletes 34 = .ok (.goto 54, 3) := by decide +kernel
theorem d_Mo_deletes_37 : decode b_Mo_deletes 37 = .ok (.aload_n 0, 1) := by decide +kernel
theorem d_Mo_deletes_38 : decode b_Mo_deletes 38 = .ok (.getfield 13, 3) := by decide +kernel
theorem d_Mo_deletes_41 : decode b_Mo_deletes 41 = .ok (.iload_n 1, 1) := by decide +kernel
theorem d_Mo_deletes_42 : decode b_Mo_deletes 42 = .ok (.aload_n 0, 1) := by decide +kernel
theorem d_Mo_deletes_43 : decode b_Mo_deletes 43 = .ok (.getfield 13, 3) := by decide +kernel
theorem d_Mo_deletes_46 : decode b_Mo_deletes 46 = .ok (.iload_n 2, 1) := by decide +kernel
theorem d_Mo_deletes_47 : decode b_Mo_deletes 47 = .ok (.iaload, 1) := by decide +kernel
theorem d_Mo_deletes_48 : decode b_Mo_deletes 48 = .ok (.iastore, 1) := by decide +kernel
theorem d_Mo_deletes_49 : decode b_Mo_deletes 49 = .ok (.iconst 0, 1) := by decide +kernel
theorem d_Mo_deletes_50 : decode b_Mo_deletes 50 = .ok (.istore_n 3, 1) := by decide +kernel
theorem d_Mo_deletes_51 : decode b_Mo_deletes 51 = .ok (.iload_n 3, 1) := by decide +kernel
theorem d_Mo_deletes_52 : decode b_Mo_deletes 52 = .ok (.bipush 6, 2) := by decide +kernel
theorem d_Mo_deletes_54 : decode b_Mo_deletes 54 = .ok (.if_icmp .ge 31, 3) := by decide +kernel
theorem d_Mo_deletes_57 : decode b_Mo_deletes 57 = .ok (.aload_n 0, 1) := by decide +kernel
theorem d_Mo_deletes_58 : decode b_Mo_deletes 58 = .ok (.getfield 16, 3) := by decide +kernel
theorem d_Mo_deletes_61 : decode b_Mo_deletes 61 = .ok (.bipush 6, 2) := by decide +kernel
theorem d_Mo_deletes_63 : decode b_Mo_deletes 63 = .ok (.iload_n 1, 1) := by decide +kernel
theorem d_Mo_deletes_64 : decode b_Mo_deletes 64 = .ok (.imul, 1) := by decide +kernel
theorem d_Mo_deletes_65 : decode b_Mo_deletes 65 = .ok (.iload_n 3, 1) := by decide +kernel
theorem d_Mo_deletes_66 : decode b_Mo_deletes 66 = .ok (.iadd, 1) := by decide +kernel
theorem d_Mo_deletes_67 : decode b_Mo_deletes 67 = .ok (.aload_n 0, 1) := by decide +kernel
theorem d_Mo_deletes_68 : decode b_Mo_deletes 68 = .ok (.getfield 16, 3) := by decide +kernel
theorem d_Mo_deletes_71 : decode b_Mo_deletes 71 = .ok (.bipush 6, 2) := by decide +kernel
theorem d_Mo_deletes_73 : decode b_Mo_deletes 73 = .ok (.iload_n 2, 1) := by decide +kernel
theorem d_Mo_deletes_74 : decode b_Mo_deletes 74 = .ok (.imul, 1) := by decide +kernel
theorem d_Mo_deletes_75 : decode b_Mo_deletes 75 = .ok (.iload_n 3, 1) := by decide +kernel
theorem d_Mo_deletes_76 : decode b_Mo_deletes 76 = .ok (.iadd, 1) := by decide +kernel
theorem d_Mo_deletes_77 : decode b_Mo_deletes 77 = .ok (.iaload, 1) := by decide +kernel
theorem d_Mo_deletes_78 : decode b_Mo_deletes 78 = .ok (.iastore, 1) := by decide +kernel
theorem d_Mo_deletes_79 : decode b_Mo_deletes 79 = .ok (.iinc 3 1, 3) := by decide +kernel
theorem d_Mo_deletes_82 : decode b_Mo_deletes 82 = .ok (.goto (-31), 3) := by decide +kernel
theorem d_Mo_deletes_85 : decode b_Mo_deletes 85 = .ok (.iinc 1 1, 3) := by decide +kernel
theorem d_Mo_deletes_88 : decode b_Mo_deletes 88 = .ok (.iinc 2 1, 3) := by decide +kernel
theorem d_Mo_deletes_91 : decode b_Mo_deletes 91 = .ok (.goto (-87), 3) := by decide +kernel
theorem d_Mo_deletes_94 : decode b_Mo_deletes 94 = .ok (.aload_n 0, 1) := by decide +kernel
theorem d_Mo_deletes_95 : decode b_Mo_deletes 95 = .ok (.iload_n 1, 1) := by decide +kernel
theorem d_Mo_deletes_96 : decode b_Mo_deletes 96 = .ok (.putfield 159, 3) := by decide +kernel
theorem d_Mo_deletes_99 : decode b_Mo_deletes 99 = .ok (.iconst 0, 1) := by decide +kernel
theorem d_Mo_deletes_100 : decode b_Mo_deletes 100 = .ok (.ireturn, 1) := by decide +kernel
