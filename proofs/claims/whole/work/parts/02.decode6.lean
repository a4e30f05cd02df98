theorem d_Ta_remove_0 : decode b_Ta_remove 0 = .ok (.aload_n 0, 1) := by decide +kernel
theorem d_Ta_remove_1 : decode b_Ta_remove 1 = .ok (.iload_n 1, 1) := by decide +kernel
theorem d_Ta_remove_2 : decode b_Ta_remove 2 = .ok (.iload_n 2, 1) := by decide +kernel
theorem d_Ta_remove_3 : decode b_Ta_remove 3 = .ok (.iconst 1, 1) := by decide +kernel
theorem d_Ta_remove_4 : decode b_Ta_remove 4 = .ok (.iadd, 1) := by decide +kernel
theorem d_Ta_remove_5 : decode b_Ta_remove 5 = .ok (.invokevirtual 25, 3) := by decide +kernel
theorem d_Ta_remove_8 : decode b_Ta_remove 8 = .ok (.istore_n 3, 1) := by decide +kernel
theorem d_Ta_remove_9 : decode b_Ta_remove 9 = .ok (.aload_n 0, 1) := by decide +kernel
theorem d_Ta_remove_10 : decode b_Ta_remove 10 = .ok (.getfield 9, 3) := by decide +kernel
theorem d_Ta_remove_13 : decode b_Ta_remove 13 = .ok (.iload_n 3, 1) := by decide +kernel
theorem d_Ta_remove_14 : decode b_Ta_remove 14 = .ok (.aload_n 0, 1) := by decide +kernel
theorem d_Ta_remove_15 : decode b_Ta_remove 15 = .ok (.getfield 9, 3) := by decide +kernel
theorem d_Ta_remove_18 : decode b_Ta_remove 18 = .ok (.iload_n 3, 1) := by decide +kernel
theorem d_Ta_remove_19 : decode b_Ta_remove 19 = .ok (.bipush 6, 2) := by decide +kernel
theorem d_Ta_remove_21 : decode b_Ta_remove 21 = .ok (.isub, 1) := by decide +kernel
theorem d_Ta_remove_22 : decode b_Ta_remove 22 = .ok (.aload_n 0, 1) := by decide +kernel
theorem d_Ta_remove_23 : decode b_Ta_remove 23 = .ok (.invokevirtual 52, 3) := by decide +kernel
theorem d_Ta_remove_26 : decode b_Ta_remove 26 = .ok (.bipush 6, 2) := by decide +kernel
theorem d_Ta_remove_28 : decode b_Ta_remove 28 = .ok (.imul, 1) := by decide +kernel
theorem d_Ta_remove_29 : decode b_Ta_remove 29 = .ok (.iload_n 3, 1) := by decide +kernel
theorem d_Ta_remove_30 : decode b_Ta_remove 30 = .ok (.isub, 1) := by decide +kernel
theorem d_Ta_remove_31 : decode b_Ta_remove 31 = .ok (.invokestatic 29, 3) := by decide +kernel
theorem d_Ta_remove_34 : decode b_Ta_remove 34 = .ok (.aload_n 0, 1) := by decide +kernel
theorem d_Ta_remove_35 : decode b_Ta_remove 35 = .ok (.iload_n 1, 1) := by decide +kernel
theorem d_Ta_remove_36 : decode b_Ta_remove 36 = .ok (.iconst (-1), 1) := by decide +kernel
theorem d_Ta_remove_37 : decode b_Ta_remove 37 = .ok (.invokevirtual 56, 3) := by decide +kernel
theorem d_Ta_remove_40 : decode b_Ta_remove 40 = .ok (.return_, 1) := by decide +kernel
theorem d_Ta_moveStartsBehind_0 : decode b_Ta_moveStartsBehind 0 = .ok (.iload_n 1, 1) := by decide +kernel
theorem d_Ta_moveStartsBehind_1 : decode b_Ta_moveStartsBehind 1 = .ok (.iconst 1, 1) := by decide +kernel
theorem d_Ta_moveStartsBehind_2 : decode b_Ta_moveStartsBehind 2 = .ok (.iadd, 1) := by decide +kernel
theorem d_Ta_moveStartsBehind_3 : decode b_Ta_moveStartsBehind 3 = .ok (.istore_n 3, 1) := by decide +kernel
theorem d_Ta_moveStartsBehind_4 : decode b_Ta_moveStartsBehind 4 = .ok (.iload_n 3, 1) := by decide +kernel
theorem d_Ta_moveStartsBehind_5 : decode b_Ta_moveStartsBehind 5 = .ok (.bipush 10, 2) := by decide +kernel
theorem d_Ta_moveStartsBehind_7 : decode b_Ta_moveStartsBehind 7 = .ok (.if_icmp .gt 19, 3) := by decide +kernel
theorem d_Ta_moveStartsBehind_10 : decode b_Ta_moveStartsBehind 10 = .ok (.aload_n 0, 1) := by decide +kernel
theorem d_Ta_moveStartsBehind_11 : decode b_Ta_moveStartsBehind 11 = .ok (.getfield 18, 3) := by decide +kernel
theorem d_Ta_moveStartsBehind_14 : decode b_Ta_moveStartsBehind 14 = .ok (.iload_n 3, 1) := by decide +kernel
theorem d_Ta_moveStartsBehind_15 : decode b_Ta_moveStartsBehind 15 = .ok (.dup2, 1) := by decide +kernel
theorem d_Ta_moveStartsBehind_16 : decode b_Ta_moveStartsBehind 16 = .ok (.iaload, 1) := by decide +kernel
theorem d_Ta_moveStartsBehind_17 : decode b_Ta_moveStartsBehind 17 = .ok (.iload_n 2, 1) := by decide +kernel
theorem d_Ta_moveStartsBehind_18 : decode b_Ta_moveStartsBehind 18 = .ok (.iadd, 1) := by decide +kernel
theorem d_Ta_moveStartsBehind_19 : decode b_Ta_moveStartsBehind 19 = .ok (.iastore, 1) := by decide +kernel
theorem d_Ta_moveStartsBehind_20 : decode b_Ta_moveStartsBehind 20 = .ok (.iinc 3 1, 3) := by decide +kernel
theorem d_Ta_moveStartsBehind_23 : decode b_Ta_moveStartsBehind 23 = .ok (.goto (-19), 3) := by decide +kernel
theorem d_Ta_moveStartsBehind_26 : decode b_Ta_moveStartsBehind 26 = .ok (.return_, 1) := by decide +kernel
theorem d_Ta_drop_0 : decode b_Ta_drop 0 = .ok (.iconst 0, 1) := by decide +kernel
theorem d_Ta_drop_1 : decode b_Ta_drop 1 = .ok (.istore_n 1, 1) := by decide +kernel
theorem d_Ta_drop_2 : decode b_Ta_drop 2 = .ok (.iload_n 1, 1) := by decide +kernel
theorem d_Ta_drop_3 : decode b_Ta_drop 3 = .ok (.bipush 10, 2) := by decide +kernel
theorem d_Ta_drop_5 : decode b_Ta_drop 5 = .ok (.if_icmp .ge 25, 3) := by decide +kernel
theorem d_Ta_drop_8 : decode b_Ta_drop 8 = .ok (.aload_n 0, 1) := by decide +kernel
theorem d_Ta_drop_9 : decode b_Ta_drop 9 = .ok (.getfield 15, 3) := by decide +kernel
theorem d_Ta_drop_12 : decode b_Ta_drop 12 = .ok (.iload_n 1, 1) := by decide +kernel
theorem d_Ta_drop_13 : decode b_Ta_drop 13 = .ok (.iconst 0, 1) := by decide +kernel
theorem d_Ta_drop_14 : decode b_Ta_drop 14 = .ok (.iastore, 1) := by decide +kernel
theorem d_Ta_drop_15 : decode b_Ta_drop 15 = .ok (.aload_n 0, 1) := by decide +kernel
theorem d_Ta_drop_16 : decode b_Ta_drop 16 = .ok (.getfield 18, 3) := by decide +kernel
theorem d_Ta_drop_19 : decode b_Ta_drop 19 = .ok (.iload_n 1, 1) := by decide +kernel
theorem d_Ta_drop_20 : decode b_Ta_drop 20 = .ok (.iconst 1, 1) := by decide +kernel
theorem d_Ta_drop_21 : decode b_Ta_drop 21 = .ok (.iadd, 1) := by decide +kernel
theorem d_Ta_drop_22 : decode b_Ta_drop 22 = .ok (.iconst 0, 1) := by decide +kernel
theorem d_Ta_drop_23 : decode b_Ta_drop 23 = .ok (.iastore, 1) := by decide +kernel
theorem d_Ta_drop_24 : decode b_Ta_drop 24 = .ok (.iinc 1 1, 3) := by decide +kernel
theorem d_Ta_drop_27 : decode b_Ta_drop 27 = .ok (.goto (-25), 3) := by decide +kernel
theorem d_Ta_drop_30 : decode b_Ta_drop 30 = .ok (.return_, 1) := by decide +kernel
theorem d_To_init_0 : decode b_To_init 0 = .ok (.aload_n 0, 1) := by decide +kernel
theorem d_To_init_1 : decode b_To_init 1 = .ok (.invokespecial 3, 3) := by decide +kernel
theorem d_To_init_4 : decode b_To_init 4 = .ok (.aload_n 0, 1) := by decide +kernel
theorem d_To_init_5 : decode b_To_init 5 = .ok (.bipush 60, 2) := by decide +kernel
theorem d_To_init_7 : decode b_To_init 7 = .ok (.newarray .int, 2) := by decide +kernel
theorem d_To_init_9 : decode b_To_init 9 = .ok (.putfield 9, 3) := by decide +kernel
theorem d_To_init_12 : decode b_To_init 12 = .ok (.aload_n 0, 1) := by decide +kernel
theorem d_To_init_13 : decode b_To_init 13 = .ok (.bipush 60, 2) := by decide +kernel
theorem d_To_init_15 : decode b_To_init 15 = .ok (.newarray .int, 2) := by decide +kernel
theorem d_To_init_17 : decode b_To_init 17 = .ok (.putfield 15, 3) := by decide +kernel
theorem d_To_init_20 : decode b_To_init 20 = .ok (.return_, 1) := by decide +kernel
theorem d_To_isToken_0 : decode b_To_isToken 0 = .ok (.iload_n 0, 1) := by decide +kernel
theorem d_To_isToken_1 : decode b_To_isToken 1 = .ok (.tableswitch 88 0 3 #[31, 47, 63, 86], 31) := by decide +kernel
theorem d_To_isToken_32 : decode b_To_isToken 32 = .ok (.iload_n 1, 1) := by decide +kernel
theorem d_To_isToken_33 : decode b_To_isToken 33 = .ok (.ifCond .lt 13, 3) := by decide +kernel
theorem d_To_isToken_36 : decode b_To_isToken 36 = .ok (.iload_n 1, 1) := by decide +kernel
theorem d_To_isToken_37 : decode b_To_isToken 37 = .ok (.bipush 13, 2) := by decide +kernel
theorem d_To_isToken_39 : decode b_To_isToken 39 = .ok (.if_icmp .gt 7, 3) := by decide +kernel
theorem d_To_isToken_42 : decode b_To_isToken 42 = .ok (.iconst 1, 1) := by decide +kernel
theorem d_To_isToken_43 : decode b_To_isToken 43 = .ok (.goto 4, 3) := by decide +kernel
theorem d_To_isToken_46 : decode b_To_isToken 46 = .ok (.iconst 0, 1) := by decide +kernel
theorem d_To_isToken_47 : decode b_To_isToken 47 = .ok (.ireturn, 1) := by decide +kernel
theorem d_To_isToken_48 : decode b_To_isToken 48 = .ok (.iload_n 1, 1) := by decide +kernel
theorem d_To_isToken_49 : decode b_To_isToken 49 = .ok (.ifCond .lt 13, 3) := by decide +kernel
theorem d_To_isToken_52 : decode b_To_isToken 52 = .ok (.iload_n 1, 1) := by decide +kernel
theorem d_To_isToken_53 : decode b_To_isToken 53 = .ok (.bipush 10, 2) := by decide +kernel
theorem d_To_isToken_55 : decode b_To_isToken 55 = .ok (.if_icmp .ge 7, 3) := by decide +kernel
theorem d_To_isToken_58 : decode b_To_isToken 58 = .ok (.iconst 1, 1) := by decide +kernel
theorem d_To_isToken_59 : decode b_To_isToken 59 = .ok (.goto 4, 3) := by decide +kernel
theorem d_To_isToken_62 : decode b_To_isToken 62 = .ok (.iconst 0, 1) := by decide +kernel
theorem d_To_isToken_63 : decode b_To_isToken 63 = .ok (.ireturn, 1) := by decide +kernel
theorem d_To_isToken_64 : decode b_To_isToken 64 = .ok (.iconst 0, 1) := by decide +kernel
theorem d_To_isToken_65 : decode b_To_isToken 65 = .ok (.iload_n 1, 1) := by decide +kernel
theorem d_To_isToken_66 : decode b_To_isToken 66 = .ok (.invokestatic 18, 3) := by decide +kernel
theorem d_To_isToken_69 : decode b_To_isToken 69 = .ok (.ifCond .ne 12, 3) := by decide +kernel
theorem d_To_isToken_72 : decode b_To_isToken 72 = .ok (.bipush 10, 2) := by decide +kernel
theorem d_To_isToken_74 : decode b_To_isToken 74 = .ok (.iload_n 1, 1) := by decide +kernel
theorem d_To_isToken_75 : decode b_To_isToken 75 = .ok (.invokestatic 18, 3) := by decide +kernel
theorem d_To_isToken_78 : decode b_To_isToken 78 = .ok (.ifCond .eq 7, 3) := by decide +kernel
theorem d_To_isToken_81 : decode b_To_isToken 81 = .ok (.iconst 1, 1) := by decide +kernel
theorem d_To_isToken_82 : decode b_To_isToken 82 = .ok (.goto 4, 3) := by decide +kernel
theorem d_To_isToken_85 : decode b_To_isToken 85 = .ok (.iconst 0, 1) := by decide +kernel
theorem d_To_isToken_86 : decode b_To_isToken 86 = .ok (.ireturn, 1) := by decide +kernel
theorem d_To_isToken_87 : decode b_To_isToken 87 = .ok (.iconst 1, 1) := by decide +kernel
theorem d_To_isToken_88 : decode b_To_isToken 88 = .ok (.ireturn, 1) := by decide +kernel
theorem d_To_isToken_89 : decode b_To_isToken 89 = .ok (.iconst 0, 1) := by decide +kernel
theorem d_To_isToken_90 : decode b_To_isToken 90 = .ok (.ireturn, 1) := by decide +kernel
theorem d_To_isColumnFrom_0 : decode b_To_isColumnFrom 0 = .ok (.iload_n 1, 1) := by decide +kernel
theorem d_To_isColumnFrom_1 : decode b_To_isColumnFrom 1 = .ok (.iload_n 0, 1) := by decide +kernel
theorem d_To_isColumnFrom_2 : decode b_To_isColumnFrom 2 = .ok (.if_icmp .lt 15, 3) := by decide +kernel
theorem d_To_isColumnFrom_5 : decode b_To_isColumnFrom 5 = .ok (.iload_n 1, 1) := by decide +kernel
theorem d_To_isColumnFrom_6 : decode b_To_isColumnFrom 6 = .ok (.iload_n 0, 1) := by decide +kernel
theorem d_To_isColumnFrom_7 : decode b_To_isColumnFrom 7 = .ok (.bipush 6, 2) := by decide +kernel
theorem d_To_isColumnFrom_9 : decode b_To_isColumnFrom 9 = .ok (.iadd, 1) := by decide +kernel
theorem d_To_isColumnFrom_10 : decode b_To_isColumnFrom 10 = .ok (.if_icmp .ge 7, 3) := by decide +kernel
theorem d_To_isColumnFrom_13 : decode b_To_isColumnFrom 13 = .ok (.iconst 1, 1) := by decide +kernel
theorem d_To_isColumnFrom_14 : decode b_To_isColumnFrom 14 = .ok (.goto 4, 3) := by decide +kernel
theorem d_To_isColumnFrom_17 : decode b_To_isColumnFrom 17 = .ok (.iconst 0, 1) := by decide +kernel
theorem d_To_isColumnFrom_18 : decode b_To_isColumnFrom 18 = .ok (.ireturn, 1) := by decide +kernel
theorem d_To_isFull_0 : decode b_To_isFull 0 = .ok (.aload_n 0, 1) := by decide +kernel
theorem d_To_isFull_1 : decode b_To_isFull 1 = .ok (.getfield 22, 3) := by decide +kernel
theorem d_To_isFull_4 : decode b_To_isFull 4 = .ok (.bipush 60, 2) := by decide +kernel
theorem d_To_isFull_6 : decode b_To_isFull 6 = .ok (.if_icmp .lt 7, 3) := by decide +kernel
theorem d_To_isFull_9 : decode b_To_isFull 9 = .ok (.iconst 1, 1) := by decide +kernel
theorem d_To_isFull_10 : decode b_To_isFull 10 = .ok (.goto 4, 3) := by decide +kernel
theorem d_To_isFull_13 : decode b_To_isFull 13 = .ok (.iconst 0, 1) := by decide +kernel
theorem d_To_isFull_14 : decode b_To_isFull 14 = .ok (.ireturn, 1) := by decide +kernel
theorem d_To_put_0 : decode b_To_put 0 = .ok (.aload_n 0, 1) := by decide +kernel
theorem d_To_put_1 : decode b_To_put 1 = .ok (.invokevirtual 26, 3) := by decide +kernel
theorem d_To_put_4 : decode b_To_put 4 = .ok (.ifCond .eq 4, 3) := by decide +kernel
theorem d_To_put_7 : decode b_To_put 7 = .ok (.return_, 1) := by decide +kernel
theorem d_To_put_8 : decode b_To_put 8 = .ok (.aload_n 0, 1) := by decide +kernel
theorem d_To_put_9 : decode b_To_put 9 = .ok (.getfield 9, 3) := by decide +kernel
theorem d_To_put_12 : decode b_To_put 12 = .ok (.aload_n 0, 1) := by decide +kernel
theorem d_To_put_13 : decode b_To_put 13 = .ok (.getfield 22, 3) := by decide +kernel
theorem d_To_put_16 : decode b_To_put 16 = .ok (.iload_n 1, 1) := by decide +kernel
theorem d_To_put_17 : decode b_To_put 17 = .ok (.iastore, 1) := by decide +kernel
theorem d_To_put_18 : decode b_To_put 18 = .ok (.aload_n 0, 1) := by decide +kernel
theorem d_To_put_19 : decode b_To_put 19 = .ok (.getfield 15, 3) := by decide +kernel
theorem d_To_put_22 : decode b_To_put 22 = .ok (.aload_n 0, 1) := by decide +kernel
theorem d_To_put_23 : decode b_To_put 23 = .ok (.getfield 22, 3) := by decide +kernel
theorem d_To_put_26 : decode b_To_put 26 = .ok (.iload_n 2, 1) := by decide +kernel
theorem d_To_put_27 : decode b_To_put 27 = .ok (.iastore, 1) := by decide +kernel
theorem d_To_put_28 : decode b_To_put 28 = .ok (.aload_n 0, 1) := by decide +kernel
theorem d_To_put_29 : decode b_To_put 29 = .ok (.dup, 1) := by decide +kernel
theorem d_To_put_30 : decode b_To_put 30 = .ok (.getfield 22, 3) := by decide +kernel
theorem d_To_put_33 : decode b_To_put 33 = .ok (.iconst 1, 1) := by decide +kernel
theorem d_To_put_34 : decode b_To_put 34 = .ok (.iadd, 1) := by decide +kernel
theorem d_To_put_35 : decode b_To_put 35 = .ok (.putfield 22, 3) := by decide +kernel
theorem d_To_put_38 : decode b_To_put 38 = .ok (.return_, 1) := by decide +kernel
theorem d_To_drop_0 : decode b_To_drop 0 = .ok (.aload_n 0, 1) := by decide +kernel
theorem d_To_drop_1 : decode b_To_drop 1 = .ok (.iconst 0, 1) := by decide +kernel
theorem d_To_drop_2 : decode b_To_drop 2 = .ok (.putfield 22, 3) := by decide +kernel
theorem d_To_drop_5 : decode b_To_drop 5 = .ok (.return_, 1) := by decide +kernel
theorem d_To_isKind_0 : decode b_To_isKind 0 = .ok (.iload_n 1, 1) := by decide +kernel
theorem d_To_isKind_1 : decode b_To_isKind 1 = .ok (.ifCond .lt 25, 3) := by decide +kernel
theorem d_To_isKind_4 : decode b_To_isKind 4 = .ok (.iload_n 1, 1) := by decide +kernel
theorem d_To_isKind_5 : decode b_To_isKind 5 = .ok (.aload_n 0, 1) := by decide +kernel
theorem d_To_isKind_6 : decode b_To_isKind 6 = .ok (.getfield 22, 3) := by decide +kernel
theorem d_To_isKind_9 : decode b_To_isKind 9 = .ok (.if_icmp .ge 17, 3) := by decide +kernel
theorem d_To_isKind_12 : decode b_To_isKind 12 = .ok (.aload_n 0, 1) := by decide +kernel
theorem d_To_isKind_13 : decode b_To_isKind 13 = .ok (.getfield 9, 3) := by decide +kernel
theorem d_To_isKind_16 : decode b_To_isKind 16 = .ok (.iload_n 1, 1) := by decide +kernel
theorem d_To_isKind_17 : decode b_To_isKind 17 = .ok (.iaload, 1) := by decide +kernel
theorem d_To_isKind_18 : decode b_To_isKind 18 = .ok (.iload_n 2, 1) := by decide +kernel
theorem d_To_isKind_19 : decode b_To_isKind 19 = .ok (.if_icmp .ne 7, 3) := by decide +kernel
theorem d_To_isKind_22 : decode b_To_isKind 22 = .ok (.iconst 1, 1) := by decide +kernel
theorem d_To_isKind_23 : decode b_To_isKind 23 = .ok (.goto 4, 3) := by decide +kernel
theorem d_To_isKind_26 : decode b_To_isKind 26 = .ok (.iconst 0, 1) := by decide +kernel
theorem d_To_isKind_27 : decode b_To_isKind 27 = .ok (.ireturn, 1) := by decide +kernel
theorem d_La_feed_0 : decode b_La_feed 0 = .ok (.aload_n 3, 1) := by decide +kernel
theorem d_La_feed_1 : decode b_La_feed 1 = .ok (.iconst 0, 1) := by decide +kernel
theorem d_La_feed_2 : decode b_La_feed 2 = .ok (.aload_n 0, 1) := by decide +kernel
theorem d_La_feed_3 : decode b_La_feed 3 = .ok (.iload_n 1, 1) := by decide +kernel
theorem d_La_feed_4 : decode b_La_feed 4 = .ok (.iload_n 2, 1) := by decide +kernel
theorem d_La_feed_5 : decode b_La_feed 5 = .ok (.invokevirtual 7, 3) := by decide +kernel
theorem d_La_feed_8 : decode b_La_feed 8 = .ok (.i2l, 1) := by decide +kernel
theorem d_La_feed_9 : decode b_La_feed 9 = .ok (.lastore, 1) := by decide +kernel
theorem d_La_feed_10 : decode b_La_feed 10 = .ok (.goto 11, 3) := by decide +kernel
theorem d_La_feed_13 : decode b_La_feed 13 = .ok (.astore 4, 2) := by decide +kernel
theorem d_La_feed_15 : decode b_La_feed 15 = .ok (.iconst 1, 1) := by decide +kernel
theorem d_La_feed_16 : decode b_La_feed 16 = .ok (.ireturn, 1) := by decide +kernel
theorem d_La_feed_17 : decode b_La_feed 17 = .ok (.astore 4, 2) := by decide +kernel
theorem d_La_feed_19 : decode b_La_feed 19 = .ok (.iconst 2, 1) := by decide +kernel
theorem d_La_feed_20 : decode b_La_feed 20 = .ok (.ireturn, 1) := by decide +kernel
theorem d_La_feed_21 : decode b_La_feed 21 = .ok (.iconst 0, 1) := by decide +kernel
theorem d_La_feed_22 : decode b_La_feed 22 = .ok (.ireturn, 1) := by decide +kernel
theorem d_La_step_0 : decode b_La_step 0 = .ok (.aload_n 1, 1) := by decide +kernel
theorem d_La_step_1 : decode b_La_step 1 = .ok (.iconst 0, 1) := by decide +kernel
theorem d_La_step_2 : decode b_La_step 2 = .ok (.aload_n 0, 1) := by decide +kernel
theorem d_La_step_3 : decode b_La_step 3 = .ok (.invokevirtual 17, 3) := by decide +kernel
theorem d_La_step_6 : decode b_La_step 6 = .ok (.i2l, 1) := by decide +kernel
theorem d_La_step_7 : decode b_La_step 7 = .ok (.lastore, 1) := by decide +kernel
theorem d_La_step_8 : decode b_La_step 8 = .ok (.goto 6, 3) := by decide +kernel
theorem d_La_step_11 : decode b_La_step 11 = .ok (.astore_n 2, 1) := by decide +kernel
theorem d_La_step_12 : decode b_La_step 12 = .ok (.iconst 1, 1) := by decide +kernel
theorem d_La_step_13 : decode b_La_step 13 = .ok (.ireturn, 1) := by decide +kernel
theorem d_La_step_14 : decode b_La_step 14 = .ok (.iconst 0, 1) := by decide +kernel
theorem d_La_step_15 : decode b_La_step 15 = .ok (.ireturn, 1) := by decide +kernel
theorem d_La_reset_0 : decode b_La_reset 0 = .ok (.aload_n 1, 1) := by decide +kernel
theorem d_La_reset_1 : decode b_La_reset 1 = .ok (.iconst 0, 1) := by decide +kernel
theorem d_La_reset_2 : decode b_La_reset 2 = .ok (.aload_n 0, 1) := by decide +kernel
theorem d_La_reset_3 : decode b_La_reset 3 = .ok (.invokevirtual 21, 3) := by decide +kernel
theorem d_La_reset_6 : decode b_La_reset 6 = .ok (.i2l, 1) := by decide +kernel
theorem d_La_reset_7 : decode b_La_reset 7 = .ok (.lastore, 1) := by decide +kernel
theorem d_La_reset_8 : decode b_La_reset 8 = .ok (.goto 6, 3) := by decide +kernel
theorem d_La_reset_11 : decode b_La_reset 11 = .ok (.astore_n 2, 1) := by decide +kernel
theorem d_La_reset_12 : decode b_La_reset 12 = .ok (.iconst 1, 1) := by decide +kernel
theorem d_La_reset_13 : decode b_La_reset 13 = .ok (.ireturn, 1) := by decide +kernel
theorem d_La_reset_14 : decode b_La_reset 14 = .ok (.iconst 0, 1) := by decide +kernel
theorem d_La_reset_15 : decode b_La_reset 15 = .ok (.ireturn, 1) := by decide +kernel
theorem d_La_width_0 : decode b_La_width 0 = .ok (.aload_n 1, 1) := by decide +kernel
theorem d_La_width_1 : decode b_La_width 1 = .ok (.iconst 0, 1) := by decide +kernel
theorem d_La_width_2 : decode b_La_width 2 = .ok (.aload_n 0, 1) := by decide +kernel
theorem d_La_width_3 : decode b_La_width 3 = .ok (.invokevirtual 24, 3) := by decide +kernel
theorem d_La_width_6 : decode b_La_width 6 = .ok (.i2l, 1) := by decide +kernel
theorem d_La_width_7 : decode b_La_width 7 = .ok (.lastore, 1) := by decide +kernel
theorem d_La_width_8 : decode b_La_width 8 = .ok (.goto 6, 3) := by decide +kernel
theorem d_La_width_11 : decode b_La_width 11 = .ok (.astore_n 2, 1) := by decide +kernel
theorem d_La_width_12 : decode b_La_width 12 = .ok (.iconst 1, 1) := by decide +kernel
theorem d_La_width_13 : decode b_La_width 13 = .ok (.ireturn, 1) := by decide +kernel
theorem d_La_width_14 : decode b_La_width 14 = .ok (.iconst 0, 1) := by decide +kernel
theorem d_La_width_15 : decode b_La_width 15 = .ok (.ireturn, 1) := by decide +kernel
theorem d_La_column_0 : decode b_La_column 0 = .ok (.aload_n 2, 1) := by decide +kernel
theorem d_La_column_1 : decode b_La_column 1 = .ok (.iconst 0, 1) := by decide +kernel
theorem d_La_column_2 : decode b_La_column 2 = .ok (.aload_n 0, 1) := by decide +kernel
theorem d_La_column_3 : decode b_La_column 3 = .ok (.iload_n 1, 1) := by decide +kernel
theorem d_La_column_4 : decode b_La_column 4 = .ok (.invokevirtual 27, 3) := by decide +kernel
theorem d_La_column_7 : decode b_La_column 7 = .ok (.lastore, 1) := by decide +kernel
theorem d_La_column_8 : decode b_La_column 8 = .ok (.goto 9, 3) := by decide +kernel
theorem d_La_column_11 : decode b_La_column 11 = .ok (.astore_n 3, 1) := by decide +kernel
theorem d_La_column_12 : decode b_La_column 12 = .ok (.iconst 1, 1) := by decide +kernel
theorem d_La_column_13 : decode b_La_column 13 = .ok (.ireturn, 1) := by decide +kernel
theorem d_La_column_14 : decode b_La_column 14 = .ok (.astore_n 3, 1) := by decide +kernel
theorem d_La_column_15 : decode b_La_column 15 = .ok (.iconst 2, 1) := by decide +kernel
theorem d_La_column_16 : decode b_La_column 16 = .ok (.ireturn, 1) := by decide +kernel
theorem d_La_column_17 : decode b_La_column 17 = .ok (.iconst 0, 1) := by decide +kernel
theorem d_La_column_18 : decode b_La_column 18 = .ok (.ireturn, 1) := by decide +kernel
theorem d_La_rows_0 : decode b_La_rows 0 = .ok (.aload_n 2, 1) := by decide +kernel
theorem d_La_rows_1 : decode b_La_rows 1 = .ok (.iconst 0, 1) := by decide +kernel
theorem d_La_rows_2 : decode b_La_rows 2 = .ok (.aload_n 0, 1) := by decide +kernel
theorem d_La_rows_3 : decode b_La_rows 3 = .ok (.iload_n 1, 1) := by decide +kernel
theorem d_La_rows_4 : decode b_La_rows 4 = .ok (.invokevirtual 33, 3) := by decide +kernel
theorem d_La_rows_7 : decode b_La_rows 7 = .ok (.i2l, 1) := by decide +kernel
theorem d_La_rows_8 : decode b_La_rows 8 = .ok (.lastore, 1) := by decide +kernel
theorem d_La_rows_9 : decode b_La_rows 9 = .ok (.goto 6, 3) := by decide +kernel
theorem d_La_rows_12 : decode b_La_rows 12 = .ok (.astore_n 3, 1) := by decide +kernel
theorem d_La_rows_13 : decode b_La_rows 13 = .ok (.iconst 1, 1) := by decide +kernel
theorem d_La_rows_14 : decode b_La_rows 14 = .ok (.ireturn, 1) := by decide +kernel
theorem d_La_rows_15 : decode b_La_rows 15 = .ok (.iconst 0, 1) := by decide +kernel
theorem d_La_rows_16 : decode b_La_rows 16 = .ok (.ireturn, 1) := by decide +kernel
theorem d_La_nearest_0 : decode b_La_nearest 0 = .ok (.aload 4, 2) := by decide +kernel
theorem d_La_nearest_2 : decode b_La_nearest 2 = .ok (.iconst 0, 1) := by decide +kernel
theorem d_La_nearest_3 : decode b_La_nearest 3 = .ok (.aload_n 0, 1) := by decide +kernel
theorem d_La_nearest_4 : decode b_La_nearest 4 = .ok (.iload_n 1, 1) := by decide +kernel
theorem d_La_nearest_5 : decode b_La_nearest 5 = .ok (.iload_n 2, 1) := by decide +kernel
theorem d_La_nearest_6 : decode b_La_nearest 6 = .ok (.iload_n 3, 1) := by decide +kernel
theorem d_La_nearest_7 : decode b_La_nearest 7 = .ok (.invokevirtual 37, 3) := by decide +kernel
theorem d_La_nearest_10 : decode b_La_nearest 10 = .ok (.i2l, 1) := by decide +kernel
theorem d_La_nearest_11 : decode b_La_nearest 11 = .ok (.lastore, 1) := by decide +kernel
theorem d_La_nearest_12 : decode b_La_nearest 12 = .ok (.goto 11, 3) := by decide +kernel
theorem d_La_nearest_15 : decode b_La_nearest 15 = .ok (.astore 5, 2) := by decide +kernel
theorem d_La_nearest_17 : decode b_La_nearest 17 = .ok (.iconst 1, 1) := by decide +kernel
theorem d_La_nearest_18 : decode b_La_nearest 18 = .ok (.ireturn, 1) := by decide +kernel
theorem d_La_nearest_19 : decode b_La_nearest 19 = .ok (.astore 5, 2) := by decide +kernel
theorem d_La_nearest_21 : decode b_La_nearest 21 = .ok (.iconst 2, 1) := by decide +kernel
theorem d_La_nearest_22 : decode b_La_nearest 22 = .ok (.ireturn, 1) := by decide +kernel
theorem d_La_nearest_23 : decode b_La_nearest 23 = .ok (.iconst 0, 1) := by decide +kernel
theorem d_La_nearest_24 : decode b_La_nearest 24 = .ok (.ireturn, 1) := by decide +kernel
theorem d_La_law_0 : decode b_La_law 0 = .ok (.new 8, 3) := by decide +kernel
theorem d_La_law_3 : decode b_La_law 3 = .ok (.dup, 1) := by decide +kernel
theorem d_La_law_4 : decode b_La_law 4 = .ok (.invokespecial 41, 3) := by decide +kernel
theorem d_La_law_7 : decode b_La_law 7 = .ok (.astore_n 1, 1) := by decide +kernel
theorem d_La_law_8 : decode b_La_law 8 = .ok (.new 42, 3) := by decide +kernel
theorem d_La_law_11 : decode b_La_law 11 = .ok (.dup, 1) := by decide +kernel
theorem d_La_law_12 : decode b_La_law 12 = .ok (.invokespecial 44, 3) := by decide +kernel
theorem d_La_law_15 : decode b_La_law 15 = .ok (.astore_n 2, 1) := by decide +kernel
theorem d_La_law_16 : decode b_La_law 16 = .ok (.iconst 1, 1) := by decide +kernel
theorem d_La_law_17 : decode b_La_law 17 = .ok (.newarray .long, 2) := by decide +kernel
theorem d_La_law_19 : decode b_La_law 19 = .ok (.astore_n 3, 1) := by decide +kernel
theorem d_La_law_20 : decode b_La_law 20 = .ok (.iconst 0, 1) := by decide +kernel
theorem d_La_law_21 : decode b_La_law 21 = .ok (.istore 4, 2) := by decide +kernel
theorem d_La_law_23 : decode b_La_law 23 = .ok (.iload 4, 2) := by decide +kernel
theorem d_La_law_25 : decode b_La_law 25 = .ok (.aload_n 0, 1) := by decide +kernel
theorem d_La_law_26 : decode b_La_law 26 = .ok (.arraylength, 1) := by decide +kernel
theorem d_La_law_27 : decode b_La_law 27 = .ok (.iconst 4, 1) := by decide +kernel
theorem d_La_law_28 : decode b_La_law 28 = .ok (.isub, 1) := by decide +kernel
theorem d_La_law_29 : decode b_La_law 29 = .ok (.if_icmp .gt 513, 3) := by decide +kernel
theorem d_La_law_32 : decode b_La_law 32 = .ok (.aload_n 0, 1) := by decide +kernel
theorem d_La_law_33 : decode b_La_law 33 = .ok (.iload 4, 2) := by decide +kernel
theorem d_La_law_35 : decode b_La_law 35 = .ok (.iaload, 1) := by decide +kernel
theorem d_La_law_36 : decode b_La_law 36 = .ok (.bipush 15, 2) := by decide +kernel
theorem d_La_law_38 : decode b_La_law 38 = .ok (.iand, 1) := by decide +kernel
theorem d_La_law_39 : decode b_La_law 39 = .ok (.tableswitch 497 0 9 #[53, 121, 134, 178, 222, 266, 321, 377, 390, 486], 53) := by decide +kernel
theorem d_La_law_92 : decode b_La_law 92 = .ok (.aload_n 1, 1) := by decide +kernel
theorem d_La_law_93 : decode b_La_law 93 = .ok (.aload_n 0, 1) := by decide +kernel
theorem d_La_law_94 : decode b_La_law 94 = .ok (.iload 4, 2) := by decide +kernel
theorem d_La_law_96 : decode b_La_law 96 = .ok (.iconst 1, 1) := by decide +kernel
theorem d_La_law_97 : decode b_La_law 97 = .ok (.iadd, 1) := by decide +kernel
theorem d_La_law_98 : decode b_La_law 98 = .ok (.iaload, 1) := by decide +kernel
theorem d_La_law_99 : decode b_La_law 99 = .ok (.aload_n 0, 1) := by decide +kernel
theorem d_La_law_100 : decode b_La_law 100 = .ok (.iload 4, 2) := by decide +kernel
theorem d_La_law_102 : decode b_La_law 102 = .ok (.iconst 2, 1) := by decide +kernel
theorem d_La_law_103 : decode b_La_law 103 = .ok (.iadd, 1) := by decide +kernel
theorem d_La_law_104 : decode b_La_law 104 = .ok (.iaload, 1) := by decide +kernel
theorem d_La_law_105 : decode b_La_law 105 = .ok (.aload_n 3, 1) := by decide +kernel
theorem d_La_law_106 : decode b_La_law 106 = .ok (.invokestatic 45, 3) := by decide +kernel
theorem d_La_law_109 : decode b_La_law 109 = .ok (.istore 5, 2) := by decide +kernel
theorem d_La_law_111 : decode b_La_law 111 = .ok (.aload_n 2, 1) := by decide +kernel
theorem d_La_law_112 : decode b_La_law 112 = .ok (.aload_n 0, 1) := by decide +kernel
theorem d_La_law_113 : decode b_La_law 113 = .ok (.iload 4, 2) := by decide +kernel
theorem d_La_law_115 : decode b_La_law 115 = .ok (.iconst 1, 1) := by decide +kernel
theorem d_La_law_116 : decode b_La_law 116 = .ok (.iadd, 1) := by decide +kernel
theorem d_La_law_117 : decode b_La_law 117 = .ok (.iaload, 1) := by decide +kernel
theorem d_La_law_118 : decode b_La_law 118 = .ok (.aload_n 0, 1) := by decide +kernel
theorem d_La_law_119 : decode b_La_law 119 = .ok (.iload 4, 2) := by decide +kernel
theorem d_La_law_121 : decode b_La_law 121 = .ok (.iconst 2, 1) := by decide +kernel
theorem d_La_law_122 : decode b_La_law 122 = .ok (.iadd, 1) := by decide +kernel
theorem d_La_law_123 : decode b_La_law 123 = .ok (.iaload, 1) := by decide +kernel
theorem d_La_law_124 : decode b_La_law 124 = .ok (.invokevirtual 50, 3) := by decide +kernel
theorem d_La_law_127 : decode b_La_law 127 = .ok (.istore 6, 2) := by decide +kernel
theorem d_La_law_129 : decode b_La_law 129 = .ok (.aload_n 2, 1) := by decide +kernel
theorem d_La_law_130 : decode b_La_law 130 = .ok (.invokevirtual 51, 3) := by decide +kernel
theorem d_La_law_133 : decode b_La_law 133 = .ok (.iload 5, 2) := by decide +kernel
theorem d_La_law_135 : decode b_La_law 135 = .ok (.if_icmp .eq 5, 3) := by decide +kernel
theorem d_La_law_138 : decode b_La_law 138 = .ok (.iconst 0, 1) := by decide +kernel
theorem d_La_law_139 : decode b_La_law 139 = .ok (.ireturn, 1) := by decide +kernel
theorem d_La_law_140 : decode b_La_law 140 = .ok (.iload 5, 2) := by decide +kernel
theorem d_La_law_142 : decode b_La_law 142 = .ok (.ifCond .ne 15, 3) := by decide +kernel
theorem d_La_law_145 : decode b_La_law 145 = .ok (.aload_n 3, 1) := by decide +kernel
theorem d_La_law_146 : decode b_La_law 146 = .ok (.iconst 0, 1) := by decide +kernel
theorem d_La_law_147 : decode b_La_law 147 = .ok (.laload, 1) := by decide +kernel
theorem d_La_law_148 : decode b_La_law 148 = .ok (.iload 6, 2) := by decide +kernel
theorem d_La_law_150 : decode b_La_law 150 = .ok (.i2l, 1) := by decide +kernel
theorem d_La_law_151 : decode b_La_law 151 = .ok (.lcmp, 1) := by decide +kernel
theorem d_La_law_152 : decode b_La_law 152 = .ok (.ifCond .eq 5, 3) := by decide +kernel
theorem d_La_law_155 : decode b_La_law 155 = .ok (.iconst 0, 1) := by decide +kernel
theorem d_La_law_156 : decode b_La_law 156 = .ok (.ireturn, 1) := by decide +kernel
theorem d_La_law_157 : decode b_La_law 157 = .ok (.goto 379, 3) := by decide +kernel
theorem d_La_law_160 : decode b_La_law 160 = .ok (.aload_n 1, 1) := by decide +kernel
theorem d_La_law_161 : decode b_La_law 161 = .ok (.invokevirtual 54, 3) := by decide +kernel
theorem d_La_law_164 : decode b_La_law 164 = .ok (.aload_n 2, 1) := by decide +kernel
theorem d_La_law_165 : decode b_La_law 165 = .ok (.invokevirtual 57, 3) := by decide +kernel
theorem d_La_law_168 : decode b_La_law 168 = .ok (.if_icmp .eq 368, 3) := by decide +kernel
theorem d_La_law_171 : decode b_La_law 171 = .ok (.iconst 0, 1) := by decide +kernel
theorem d_La_law_172 : decode b_La_law 172 = .ok (.ireturn, 1) := by decide +kernel
theorem d_La_law_173 : decode b_La_law 173 = .ok (.aload_n 1, 1) := by decide +kernel
theorem d_La_law_174 : decode b_La_law 174 = .ok (.aload_n 3, 1) := by decide +kernel
theorem d_La_law_175 : decode b_La_law 175 = .ok (.invokestatic 58, 3) := by decide +kernel
theorem d_La_law_178 : decode b_La_law 178 = .ok (.istore 5, 2) := by decide +kernel
theorem d_La_law_180 : decode b_La_law 180 = .ok (.aload_n 2, 1) := by decide +kernel
theorem d_La_law_181 : decode b_La_law 181 = .ok (.invokevirtual 61, 3) := by decide +kernel
theorem d_La_law_184 : decode b_La_law 184 = .ok (.istore 6, 2) := by decide +kernel
theorem d_La_law_186 : decode b_La_law 186 = .ok (.aload_n 2, 1) := by decide +kernel
theorem d_La_law_187 : decode b_La_law 187 = .ok (.invokevirtual 51, 3) := by decide +kernel
theorem d_La_law_190 : decode b_La_law 190 = .ok (.iload 5, 2) := by decide +kernel
theorem d_La_law_192 : decode b_La_law 192 = .ok (.if_icmp .eq 5, 3) := by decide +kernel
theorem d_La_law_195 : decode b_La_law 195 = .ok (.iconst 0, 1) := by decide +kernel
theorem d_La_law_196 : decode b_La_law 196 = .ok (.ireturn, 1) := by decide +kernel
theorem d_La_law_197 : decode b_La_law 197 = .ok (.iload 5, 2) := by decide +kernel
theorem d_La_law_199 : decode b_La_law 199 = .ok (.ifCond .ne 15, 3) := by decide +kernel
theorem d_La_law_202 : decode b_La_law 202 = .ok (.aload_n 3, 1) := by decide +kernel
theorem d_La_law_203 : decode b_La_law 203 = .ok (.iconst 0, 1) := by decide +kernel
theorem d_La_law_204 : decode b_La_law 204 = .ok (.laload, 1) := by decide +kernel
theorem d_La_law_205 : decode b_La_law 205 = .ok (.iload 6, 2) := by decide +kernel
theorem d_La_law_207 : decode b_La_law 207 = .ok (.i2l, 1) := by decide +kernel
theorem d_La_law_208 : decode b_La_law 208 = .ok (.lcmp, 1) := by decide +kernel
theorem d_La_law_209 : decode b_La_law 209 = .ok (.ifCond .eq 5, 3) := by decide +kernel
theorem d_La_law_212 : decode b_La_law 212 = .ok (.iconst 0, 1) := by decide +kernel
theorem d_La_law_213 : decode b_La_law 213 = .ok (.ireturn, 1) := by decide +kernel
theorem d_La_law_214 : decode b_La_law 214 = .ok (.goto 322, 3) := by decide +kernel
theorem d_La_law_217 : decode b_La_law 217 = .ok (.aload_n 1, 1) := by decide +kernel
theorem d_La_law_218 : decode b_La_law 218 = .ok (.aload_n 3, 1) := by decide +kernel
theorem d_La_law_219 : decode b_La_law 219 = .ok (.invokestatic 62, 3) := by decide +kernel
theorem d_La_law_222 : decode b_La_law 222 = .ok (.istore 5, 2) := by decide +kernel
theorem d_La_law_224 : decode b_La_law 224 = .ok (.aload_n 2, 1) := by decide +kernel
theorem d_La_law_225 : decode b_La_law 225 = .ok (.invokevirtual 64, 3) := by decide +kernel
theorem d_La_law_228 : decode b_La_law 228 = .ok (.istore 6, 2) := by decide +kernel
theorem d_La_law_230 : decode b_La_law 230 = .ok (.aload_n 2, 1) := by decide +kernel
theorem d_La_law_231 : decode b_La_law 231 = .ok (.invokevirtual 51, 3) := by decide +kernel
theorem d_La_law_234 : decode b_La_law 234 = .ok (.iload 5, 2) := by decide +kernel
theorem d_La_law_236 : decode b_La_law 236 = .ok (.if_icmp .eq 5, 3) := by decide +kernel
theorem d_La_law_239 : decode b_La_law 239 = .ok (.iconst 0, 1) := by decide +kernel
theorem d_La_law_240 : decode b_La_law 240 = .ok (.ireturn, 1) := by decide +kernel
theorem d_La_law_241 : decode b_La_law 241 = .ok (.iload 5, 2) := by decide +kernel
theorem d_La_law_243 : decode b_La_law 243 = .ok (.ifCond .ne 15, 3) := by decide +kernel
theorem d_La_law_246 : decode b_La_law 246 = .ok (.aload_n 3, 1) := by decide +kernel
theorem d_La_law_247 : decode b_La_law 247 = .ok (.iconst 0, 1) := by decide +kernel
theorem d_La_law_248 : decode b_La_law 248 = .ok (.laload, 1) := by decide +kernel
theorem d_La_law_249 : decode b_La_law 249 = .ok (.iload 6, 2) := by decide +kernel
theorem d_La_law_251 : decode b_La_law 251 = .ok (.i2l, 1) := by decide +kernel
theorem d_La_law_252 : decode b_La_law 252 = .ok (.lcmp, 1) := by decide +kernel
theorem d_La_law_253 : decode b_La_law 253 = .ok (.ifCond .eq 5, 3) := by decide +kernel
theorem d_La_law_256 : decode b_La_law 256 = .ok (.iconst 0, 1) := by decide +kernel
theorem d_La_law_257 : decode b_La_law 257 = .ok (.ireturn, 1) := by decide +kernel
theorem d_La_law_258 : decode b_La_law 258 = .ok (.goto 278, 3) := by decide +kernel
theorem d_La_law_261 : decode b_La_law 261 = .ok (.aload_n 1, 1) := by decide +kernel
theorem d_La_law_262 : decode b_La_law 262 = .ok (.aload_n 3, 1) := by decide +kernel
theorem d_La_law_263 : decode b_La_law 263 = .ok (.invokestatic 65, 3) := by decide +kernel
theorem d_La_law_266 : decode b_La_law 266 = .ok (.istore 5, 2) := by decide +kernel
theorem d_La_law_268 : decode b_La_law 268 = .ok (.aload_n 2, 1) := by decide +kernel
theorem d_La_law_269 : decode b_La_law 269 = .ok (.invokevirtual 67, 3) := by decide +kernel
theorem d_La_law_272 : decode b_La_law 272 = .ok (.istore 6, 2) := by decide +kernel
theorem d_La_law_274 : decode b_La_law 274 = .ok (.aload_n 2, 1) := by decide +kernel
theorem d_La_law_275 : decode b_La_law 275 = .ok (.invokevirtual 51, 3) := by decide +kernel
theorem d_La_law_278 : decode b_La_law 278 = .ok (.iload 5, 2) := by decide +kernel
theorem d_La_law_280 : decode b_La_law 280 = .ok (.if_icmp .eq 5, 3) := by decide +kernel
theorem d_La_law_283 : decode b_La_law 283 = .ok (.iconst 0, 1) := by decide +kernel
theorem d_La_law_284 : decode b_La_law 284 = .ok (.ireturn, 1) := by decide +kernel
theorem d_La_law_285 : decode b_La_law 285 = .ok (.iload 5, 2) := by decide +kernel
theorem d_La_law_287 : decode b_La_law 287 = .ok (.ifCond .ne 15, 3) := by decide +kernel
theorem d_La_law_290 : decode b_La_law 290 = .ok (.aload_n 3, 1) := by decide +kernel
theorem d_La_law_291 : decode b_La_law 291 = .ok (.iconst 0, 1) := by decide +kernel
theorem d_La_law_292 : decode b_La_law 292 = .ok (.laload, 1) := by decide +kernel
theorem d_La_law_293 : decode b_La_law 293 = .ok (.iload 6, 2) := by decide +kernel
theorem d_La_law_295 : decode b_La_law 295 = .ok (.i2l, 1) := by decide +kernel
theorem d_La_law_296 : decode b_La_law 296 = .ok (.lcmp, 1) := by decide +kernel
theorem d_La_law_297 : decode b_La_law 297 = .ok (.ifCond .eq 5, 3) := by decide +kernel
theorem d_La_law_300 : decode b_La_law 300 = .ok (.iconst 0, 1) := by decide +kernel
theorem d_La_law_301 : decode b_La_law 301 = .ok (.ireturn, 1) := by decide +kernel
theorem d_La_law_302 : decode b_La_law 302 = .ok (.goto 234, 3) := by decide +kernel
theorem d_La_law_305 : decode b_La_law 305 = .ok (.aload_n 1, 1) := by decide +kernel
theorem d_La_law_306 : decode b_La_law 306 = .ok (.aload_n 0, 1) := by decide +kernel
theorem d_La_law_307 : decode b_La_law 307 = .ok (.iload 4, 2) := by decide +kernel
theorem d_La_law_309 : decode b_La_law 309 = .ok (.iconst 1, 1) := by decide +kernel
theorem d_La_law_310 : decode b_La_law 310 = .ok (.iadd, 1) := by decide +kernel
theorem d_La_law_311 : decode b_La_law 311 = .ok (.iaload, 1) := by decide +kernel
theorem d_La_law_312 : decode b_La_law 312 = .ok (.aload_n 3, 1) := by decide +kernel
theorem d_La_law_313 : decode b_La_law 313 = .ok (.invokestatic 68, 3) := by decide +kernel
theorem d_La_law_316 : decode b_La_law 316 = .ok (.istore 5, 2) := by decide +kernel
theorem d_La_law_318 : decode b_La_law 318 = .ok (.aload_n 2, 1) := by decide +kernel
theorem d_La_law_319 : decode b_La_law 319 = .ok (.aload_n 0, 1) := by decide +kernel
theorem d_La_law_320 : decode b_La_law 320 = .ok (.iload 4, 2) := by decide +kernel
theorem d_La_law_322 : decode b_La_law 322 = .ok (.iconst 1, 1) := by decide +kernel
theorem d_La_law_323 : decode b_La_law 323 = .ok (.iadd, 1) := by decide +kernel
theorem d_La_law_324 : decode b_La_law 324 = .ok (.iaload, 1) := by decide +kernel
theorem d_La_law_325 : decode b_La_law 325 = .ok (.invokevirtual 71, 3) := by decide +kernel
theorem d_La_law_328 : decode b_La_law 328 = .ok (.lstore 6, 2) := by decide +kernel
theorem d_La_law_330 : decode b_La_law 330 = .ok (.aload_n 2, 1) := by decide +kernel
theorem d_La_law_331 : decode b_La_law 331 = .ok (.invokevirtual 51, 3) := by decide +kernel
theorem d_La_law_334 : decode b_La_law 334 = .ok (.iload 5, 2) := by decide +kernel
theorem d_La_law_336 : decode b_La_law 336 = .ok (.if_icmp .eq 5, 3) := by decide +kernel
theorem d_La_law_339 : decode b_La_law 339 = .ok (.iconst 0, 1) := by decide +kernel
theorem d_La_law_340 : decode b_La_law 340 = .ok (.ireturn, 1) := by decide +kernel
theorem d_La_law_341 : decode b_La_law 341 = .ok (.iload 5, 2) := by decide +kernel
theorem d_La_law_343 : decode b_La_law 343 = .ok (.ifCond .ne 14, 3) := by decide +kernel
theorem d_La_law_346 : decode b_La_law 346 = .ok (.aload_n 3, 1) := by decide +kernel
theorem d_La_law_347 : decode b_La_law 347 = .ok (.iconst 0, 1) := by decide +kernel
theorem d_La_law_348 : decode b_La_law 348 = .ok (.laload, 1) := by decide +kernel
theorem d_La_law_349 : decode b_La_law 349 = .ok (.lload 6, 2) := by decide +kernel
theorem d_La_law_351 : decode b_La_law 351 = .ok (.lcmp, 1) := by decide +kernel
theorem d_La_law_352 : decode b_La_law 352 = .ok (.ifCond .eq 5, 3) := by decide +kernel
theorem d_La_law_355 : decode b_La_law 355 = .ok (.iconst 0, 1) := by decide +kernel
theorem d_La_law_356 : decode b_La_law 356 = .ok (.ireturn, 1) := by decide +kernel
theorem d_La_law_357 : decode b_La_law 357 = .ok (.goto 179, 3) := by decide +kernel
theorem d_La_law_360 : decode b_La_law 360 = .ok (.aload_n 1, 1) := by decide +kernel
theorem d_La_law_361 : decode b_La_law 361 = .ok (.aload_n 0, 1) := by decide +kernel
theorem d_La_law_362 : decode b_La_law 362 = .ok (.iload 4, 2) := by decide +kernel
theorem d_La_law_364 : decode b_La_law 364 = .ok (.iconst 1, 1) := by decide +kernel
theorem d_La_law_365 : decode b_La_law 365 = .ok (.iadd, 1) := by decide +kernel
theorem d_La_law_366 : decode b_La_law 366 = .ok (.iaload, 1) := by decide +kernel
theorem d_La_law_367 : decode b_La_law 367 = .ok (.aload_n 3, 1) := by decide +kernel
theorem d_La_law_368 : decode b_La_law 368 = .ok (.invokestatic 72, 3) := by decide +kernel
theorem d_La_law_371 : decode b_La_law 371 = .ok (.istore 5, 2) := by decide +kernel
theorem d_La_law_373 : decode b_La_law 373 = .ok (.aload_n 2, 1) := by decide +kernel
theorem d_La_law_374 : decode b_La_law 374 = .ok (.aload_n 0, 1) := by decide +kernel
theorem d_La_law_375 : decode b_La_law 375 = .ok (.iload 4, 2) := by decide +kernel
theorem d_La_law_377 : decode b_La_law 377 = .ok (.iconst 1, 1) := by decide +kernel
theorem d_La_law_378 : decode b_La_law 378 = .ok (.iadd, 1) := by decide +kernel
theorem d_La_law_379 : decode b_La_law 379 = .ok (.iaload, 1) := by decide +kernel
theorem d_La_law_380 : decode b_La_law 380 = .ok (.invokevirtual 74, 3) := by decide +kernel
theorem d_La_law_383 : decode b_La_law 383 = .ok (.istore 6, 2) := by decide +kernel
theorem d_La_law_385 : decode b_La_law 385 = .ok (.aload_n 2, 1) := by decide +kernel
theorem d_La_law_386 : decode b_La_law 386 = .ok (.invokevirtual 51, 3) := by decide +kernel
theorem d_La_law_389 : decode b_La_law 389 = .ok (.iload 5, 2) := by decide +kernel
theorem d_La_law_391 : decode b_La_law 391 = .ok (.if_icmp .eq 5, 3) := by decide +kernel
theorem d_La_law_394 : decode b_La_law 394 = .ok (.iconst 0, 1) := by decide +kernel
theorem d_La_law_395 : decode b_La_law 395 = .ok (.ireturn, 1) := by decide +kernel
theorem d_La_law_396 : decode b_La_law 396 = .ok (.iload 5, 2) := by decide +kernel
theorem d_La_law_398 : decode b_La_law 398 = .ok (.ifCond .ne 15, 3) := by decide +kernel
theorem d_La_law_401 : decode b_La_law 401 = .ok (.aload_n 3, 1) := by decide +kernel
theorem d_La_law_402 : decode b_La_law 402 = .ok (.iconst 0, 1) := by decide +kernel
theorem d_La_law_403 : decode b_La_law 403 = .ok (.laload, 1) := by decide +kernel
theorem d_La_law_404 : decode b_La_law 404 = .ok (.iload 6, 2) := by decide +kernel
theorem d_La_law_406 : decode b_La_law 406 = .ok (.i2l, 1) := by decide +kernel
theorem d_La_law_407 : decode b_La_law 407 = .ok (.lcmp, 1) := by decide +kernel
theorem d_La_law_408 : decode b_La_law 408 = .ok (.ifCond .eq 5, 3) := by decide +kernel
theorem d_La_law_411 : decode b_La_law 411 = .ok (.iconst 0, 1) := by decide +kernel
theorem d_La_law_412 : decode b_La_law 412 = .ok (.ireturn, 1) := by decide +kernel
theorem d_La_law_413 : decode b_La_law 413 = .ok (.goto 123, 3) := by decide +kernel
theorem d_La_law_416 : decode b_La_law 416 = .ok (.aload_n 1, 1) := by decide +kernel
theorem d_La_law_417 : decode b_La_law 417 = .ok (.invokevirtual 75, 3) := by decide +kernel
theorem d_La_law_420 : decode b_La_law 420 = .ok (.aload_n 2, 1) := by decide +kernel
theorem d_La_law_421 : decode b_La_law 421 = .ok (.invokevirtual 78, 3) := by decide +kernel
theorem d_La_law_424 : decode b_La_law 424 = .ok (.if_icmp .eq 112, 3) := by decide +kernel
theorem d_La_law_427 : decode b_La_law 427 = .ok (.iconst 0, 1) := by decide +kernel
theorem d_La_law_428 : decode b_La_law 428 = .ok (.ireturn, 1) := by decide +kernel
theorem d_La_law_429 : decode b_La_law 429 = .ok (.aload_n 1, 1) := by decide +kernel
theorem d_La_law_430 : decode b_La_law 430 = .ok (.aload_n 0, 1) := by decide +kernel
theorem d_La_law_431 : decode b_La_law 431 = .ok (.iload 4, 2) := by decide +kernel
theorem d_La_law_433 : decode b_La_law 433 = .ok (.iconst 1, 1) := by decide +kernel
theorem d_La_law_434 : decode b_La_law 434 = .ok (.iadd, 1) := by decide +kernel
theorem d_La_law_435 : decode b_La_law 435 = .ok (.iaload, 1) := by decide +kernel
theorem d_La_law_436 : decode b_La_law 436 = .ok (.aload_n 0, 1) := by decide +kernel
theorem d_La_law_437 : decode b_La_law 437 = .ok (.iload 4, 2) := by decide +kernel
theorem d_La_law_439 : decode b_La_law 439 = .ok (.iconst 2, 1) := by decide +kernel
theorem d_La_law_440 : decode b_La_law 440 = .ok (.iadd, 1) := by decide +kernel
theorem d_La_law_441 : decode b_La_law 441 = .ok (.iaload, 1) := by decide +kernel
theorem d_La_law_442 : decode b_La_law 442 = .ok (.aload_n 0, 1) := by decide +kernel
theorem d_La_law_443 : decode b_La_law 443 = .ok (.iload 4, 2) := by decide +kernel
theorem d_La_law_445 : decode b_La_law 445 = .ok (.iconst 3, 1) := by decide +kernel
theorem d_La_law_446 : decode b_La_law 446 = .ok (.iadd, 1) := by decide +kernel
theorem d_La_law_447 : decode b_La_law 447 = .ok (.iaload, 1) := by decide +kernel
theorem d_La_law_448 : decode b_La_law 448 = .ok (.ifCond .eq 7, 3) := by decide +kernel
theorem d_La_law_451 : decode b_La_law 451 = .ok (.iconst 1, 1) := by decide +kernel
theorem d_La_law_452 : decode b_La_law 452 = .ok (.goto 4, 3) := by decide +kernel
theorem d_La_law_455 : decode b_La_law 455 = .ok (.iconst 0, 1) := by decide +kernel
theorem d_La_law_456 : decode b_La_law 456 = .ok (.aload_n 3, 1) := by decide +kernel
theorem d_La_law_457 : decode b_La_law 457 = .ok (.invokestatic 79, 3) := by decide +kernel
theorem d_La_law_460 : decode b_La_law 460 = .ok (.istore 5, 2) := by decide +kernel
theorem d_La_law_462 : decode b_La_law 462 = .ok (.aload_n 2, 1) := by decide +kernel
theorem d_La_law_463 : decode b_La_law 463 = .ok (.aload_n 0, 1) := by decide +kernel
theorem d_La_law_464 : decode b_La_law 464 = .ok (.iload 4, 2) := by decide +kernel
theorem d_La_law_466 : decode b_La_law 466 = .ok (.iconst 1, 1) := by decide +kernel
theorem d_La_law_467 : decode b_La_law 467 = .ok (.iadd, 1) := by decide +kernel
theorem d_La_law_468 : decode b_La_law 468 = .ok (.iaload, 1) := by decide +kernel
theorem d_La_law_469 : decode b_La_law 469 = .ok (.aload_n 0, 1) := by decide +kernel
theorem d_La_law_470 : decode b_La_law 470 = .ok (.iload 4, 2) := by decide +kernel
theorem d_La_law_472 : decode b_La_law 472 = .ok (.iconst 2, 1) := by decide +kernel
theorem d_La_law_473 : decode b_La_law 473 = .ok (.iadd, 1) := by decide +kernel
theorem d_La_law_474 : decode b_La_law 474 = .ok (.iaload, 1) := by decide +kernel
theorem d_La_law_475 : decode b_La_law 475 = .ok (.aload_n 0, 1) := by decide +kernel
theorem d_La_law_476 : decode b_La_law 476 = .ok (.iload 4, 2) := by decide +kernel
theorem d_La_law_478 : decode b_La_law 478 = .ok (.iconst 3, 1) := by decide +kernel
theorem d_La_law_479 : decode b_La_law 479 = .ok (.iadd, 1) := by decide +kernel
theorem d_La_law_480 : decode b_La_law 480 = .ok (.iaload, 1) := by decide +kernel
theorem d_La_law_481 : decode b_La_law 481 = .ok (.ifCond .eq 7, 3) := by decide +kernel
theorem d_La_law_484 : decode b_La_law 484 = .ok (.iconst 1, 1) := by decide +kernel
theorem d_La_law_485 : decode b_La_law 485 = .ok (.goto 4, 3) := by decide +kernel
theorem d_La_law_488 : decode b_La_law 488 = .ok (.iconst 0, 1) := by decide +kernel
theorem d_La_law_489 : decode b_La_law 489 = .ok (.invokevirtual 82, 3) := by decide +kernel
theorem d_La_law_492 : decode b_La_law 492 = .ok (.istore 6, 2) := by decide +kernel
theorem d_La_law_494 : decode b_La_law 494 = .ok (.aload_n 2, 1) := by decide +kernel
theorem d_La_law_495 : decode b_La_law 495 = .ok (.invokevirtual 51, 3) := by decide +kernel
theorem d_La_law_498 : decode b_La_law 498 = .ok (.iload 5, 2) := by decide +kernel
theorem d_La_law_500 : decode b_La_law 500 = .ok (.if_icmp .eq 5, 3) := by decide +kernel
theorem d_La_law_503 : decode b_La_law 503 = .ok (.iconst 0, 1) := by decide +kernel
theorem d_La_law_504 : decode b_La_law 504 = .ok (.ireturn, 1) := by decide +kernel
theorem d_La_law_505 : decode b_La_law 505 = .ok (.iload 5, 2) := by decide +kernel
theorem d_La_law_507 : decode b_La_law 507 = .ok (.ifCond .ne 15, 3) := by decide +kernel
theorem d_La_law_510 : decode b_La_law 510 = .ok (.aload_n 3, 1) := by decide +kernel
theorem d_La_law_511 : decode b_La_law 511 = .ok (.iconst 0, 1) := by decide +kernel
theorem d_La_law_512 : decode b_La_law 512 = .ok (.laload, 1) := by decide +kernel
theorem d_La_law_513 : decode b_La_law 513 = .ok (.iload 6, 2) := by decide +kernel
theorem d_La_law_515 : decode b_La_law 515 = .ok (.i2l, 1) := by decide +kernel
theorem d_La_law_516 : decode b_La_law 516 = .ok (.lcmp, 1) := by decide +kernel
theorem d_La_law_517 : decode b_La_law 517 = .ok (.ifCond .eq 5, 3) := by decide +kernel
theorem d_La_law_520 : decode b_La_law 520 = .ok (.iconst 0, 1) := by decide +kernel
theorem d_La_law_521 : decode b_La_law 521 = .ok (.ireturn, 1) := by decide +kernel
theorem d_La_law_522 : decode b_La_law 522 = .ok (.goto 14, 3) := by decide +kernel
theorem d_La_law_525 : decode b_La_law 525 = .ok (.aload_n 1, 1) := by decide +kernel
theorem d_La_law_526 : decode b_La_law 526 = .ok (.invokevirtual 83, 3) := by decide +kernel
theorem d_La_law_529 : decode b_La_law 529 = .ok (.aload_n 2, 1) := by decide +kernel
theorem d_La_law_530 : decode b_La_law 530 = .ok (.invokevirtual 86, 3) := by decide +kernel
theorem d_La_law_533 : decode b_La_law 533 = .ok (.goto 3, 3) := by decide +kernel
theorem d_La_law_536 : decode b_La_law 536 = .ok (.iinc 4 4, 3) := by decide +kernel
theorem d_La_law_539 : decode b_La_law 539 = .ok (.goto (-516), 3) := by decide +kernel
theorem d_La_law_542 : decode b_La_law 542 = .ok (.iconst 1, 1) := by decide +kernel
theorem d_La_law_543 : decode b_La_law 543 = .ok (.ireturn, 1) := by decide +kernel
