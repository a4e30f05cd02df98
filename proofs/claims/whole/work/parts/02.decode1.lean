theorem d_CB_init_0 : decode b_CB_init 0 = .ok (.aload_n 0, 1) := by decide +kernel
theorem d_CB_init_1 : decode b_CB_init 1 = .ok (.invokespecial 1, 3) := by decide +kernel
theorem d_CB_init_4 : decode b_CB_init 4 = .ok (.aload_n 0, 1) := by decide +kernel
theorem d_CB_init_5 : decode b_CB_init 5 = .ok (.new 7, 3) := by decide +kernel
theorem d_CB_init_8 : decode b_CB_init 8 = .ok (.dup, 1) := by decide +kernel
theorem d_CB_init_9 : decode b_CB_init 9 = .ok (.invokespecial 9, 3) := by decide +kernel
theorem d_CB_init_12 : decode b_CB_init 12 = .ok (.putfield 10, 3) := by decide +kernel
theorem d_CB_init_15 : decode b_CB_init 15 = .ok (.aload_n 0, 1) := by decide +kernel
theorem d_CB_init_16 : decode b_CB_init 16 = .ok (.new 16, 3) := by decide +kernel
theorem d_CB_init_19 : decode b_CB_init 19 = .ok (.dup, 1) := by decide +kernel
theorem d_CB_init_20 : decode b_CB_init 20 = .ok (.invokespecial 18, 3) := by decide +kernel
theorem d_CB_init_23 : decode b_CB_init 23 = .ok (.putfield 19, 3) := by decide +kernel
theorem d_CB_init_26 : decode b_CB_init 26 = .ok (.aload_n 0, 1) := by decide +kernel
theorem d_CB_init_27 : decode b_CB_init 27 = .ok (.new 23, 3) := by decide +kernel
theorem d_CB_init_30 : decode b_CB_init 30 = .ok (.dup, 1) := by decide +kernel
theorem d_CB_init_31 : decode b_CB_init 31 = .ok (.invokespecial 25, 3) := by decide +kernel
theorem d_CB_init_34 : decode b_CB_init 34 = .ok (.putfield 26, 3) := by decide +kernel
theorem d_CB_init_37 : decode b_CB_init 37 = .ok (.return_, 1) := by decide +kernel
theorem d_CB_feed_0 : decode b_CB_feed 0 = .ok (.iload_n 1, 1) := by decide +kernel
theorem d_CB_feed_1 : decode b_CB_feed 1 = .ok (.iload_n 2, 1) := by decide +kernel
theorem d_CB_feed_2 : decode b_CB_feed 2 = .ok (.invokestatic 30, 3) := by decide +kernel
theorem d_CB_feed_5 : decode b_CB_feed 5 = .ok (.ifCond .ne 13, 3) := by decide +kernel
theorem d_CB_feed_8 : decode b_CB_feed 8 = .ok (.new 34, 3) := by decide +kernel
theorem d_CB_feed_11 : decode b_CB_feed 11 = .ok (.dup, 1) := by decide +kernel
theorem d_CB_feed_12 : decode b_CB_feed 12 = .ok (.ldc 36, 2) := by decide +kernel
theorem d_CB_feed_14 : decode b_CB_feed 14 = .ok (.invokespecial 38, 3) := by decide +kernel
theorem d_CB_feed_17 : decode b_CB_feed 17 = .ok (.athrow, 1) := by decide +kernel
theorem d_CB_feed_18 : decode b_CB_feed 18 = .ok (.aload_n 0, 1) := by decide +kernel
theorem d_CB_feed_19 : decode b_CB_feed 19 = .ok (.getfield 10, 3) := by decide +kernel
theorem d_CB_feed_22 : decode b_CB_feed 22 = .ok (.invokevirtual 41, 3) := by decide +kernel
theorem d_CB_feed_25 : decode b_CB_feed 25 = .ok (.ifCond .eq 13, 3) := by decide +kernel
theorem d_CB_feed_28 : decode b_CB_feed 28 = .ok (.new 45, 3) := by decide +kernel
theorem d_CB_feed_31 : decode b_CB_feed 31 = .ok (.dup, 1) := by decide +kernel
theorem d_CB_feed_32 : decode b_CB_feed 32 = .ok (.ldc 47, 2) := by decide +kernel
theorem d_CB_feed_34 : decode b_CB_feed 34 = .ok (.invokespecial 49, 3) := by decide +kernel
theorem d_CB_feed_37 : decode b_CB_feed 37 = .ok (.athrow, 1) := by decide +kernel
theorem d_CB_feed_38 : decode b_CB_feed 38 = .ok (.aload_n 0, 1) := by decide +kernel
theorem d_CB_feed_39 : decode b_CB_feed 39 = .ok (.getfield 10, 3) := by decide +kernel
theorem d_CB_feed_42 : decode b_CB_feed 42 = .ok (.iload_n 1, 1) := by decide +kernel
theorem d_CB_feed_43 : decode b_CB_feed 43 = .ok (.iload_n 2, 1) := by decide +kernel
theorem d_CB_feed_44 : decode b_CB_feed 44 = .ok (.invokevirtual 50, 3) := by decide +kernel
theorem d_CB_feed_47 : decode b_CB_feed 47 = .ok (.aload_n 0, 1) := by decide +kernel
theorem d_CB_feed_48 : decode b_CB_feed 48 = .ok (.getfield 10, 3) := by decide +kernel
theorem d_CB_feed_51 : decode b_CB_feed 51 = .ok (.getfield 54, 3) := by decide +kernel
theorem d_CB_feed_54 : decode b_CB_feed 54 = .ok (.ireturn, 1) := by decide +kernel
theorem d_CB_prepare_0 : decode b_CB_prepare 0 = .ok (.new 58, 3) := by decide +kernel
theorem d_CB_prepare_3 : decode b_CB_prepare 3 = .ok (.dup, 1) := by decide +kernel
theorem d_CB_prepare_4 : decode b_CB_prepare 4 = .ok (.aload_n 0, 1) := by decide +kernel
theorem d_CB_prepare_5 : decode b_CB_prepare 5 = .ok (.getfield 10, 3) := by decide +kernel
theorem d_CB_prepare_8 : decode b_CB_prepare 8 = .ok (.invokespecial 60, 3) := by decide +kernel
theorem d_CB_prepare_11 : decode b_CB_prepare 11 = .ok (.invokevirtual 63, 3) := by decide +kernel
theorem d_CB_prepare_14 : decode b_CB_prepare 14 = .ok (.astore_n 1, 1) := by decide +kernel
theorem d_CB_prepare_15 : decode b_CB_prepare 15 = .ok (.aload_n 0, 1) := by decide +kernel
theorem d_CB_prepare_16 : decode b_CB_prepare 16 = .ok (.getfield 10, 3) := by decide +kernel
theorem d_CB_prepare_19 : decode b_CB_prepare 19 = .ok (.invokevirtual 67, 3) := by decide +kernel
theorem d_CB_prepare_22 : decode b_CB_prepare 22 = .ok (.aload_n 1, 1) := by decide +kernel
theorem d_CB_prepare_23 : decode b_CB_prepare 23 = .ok (.ifnonnull 5, 3) := by decide +kernel
theorem d_CB_prepare_26 : decode b_CB_prepare 26 = .ok (.iconst (-1), 1) := by decide +kernel
theorem d_CB_prepare_27 : decode b_CB_prepare 27 = .ok (.ireturn, 1) := by decide +kernel
theorem d_CB_prepare_28 : decode b_CB_prepare 28 = .ok (.aload_n 1, 1) := by decide +kernel
theorem d_CB_prepare_29 : decode b_CB_prepare 29 = .ok (.aload_n 0, 1) := by decide +kernel
theorem d_CB_prepare_30 : decode b_CB_prepare 30 = .ok (.getfield 19, 3) := by decide +kernel
theorem d_CB_prepare_33 : decode b_CB_prepare 33 = .ok (.invokevirtual 70, 3) := by decide +kernel
theorem d_CB_prepare_36 : decode b_CB_prepare 36 = .ok (.istore_n 2, 1) := by decide +kernel
theorem d_CB_prepare_37 : decode b_CB_prepare 37 = .ok (.iload_n 2, 1) := by decide +kernel
theorem d_CB_prepare_38 : decode b_CB_prepare 38 = .ok (.ifCond .ne 19, 3) := by decide +kernel
theorem d_CB_prepare_41 : decode b_CB_prepare 41 = .ok (.aload_n 1, 1) := by decide +kernel
theorem d_CB_prepare_42 : decode b_CB_prepare 42 = .ok (.aload_n 0, 1) := by decide +kernel
theorem d_CB_prepare_43 : decode b_CB_prepare 43 = .ok (.getfield 19, 3) := by decide +kernel
theorem d_CB_prepare_46 : decode b_CB_prepare 46 = .ok (.invokevirtual 76, 3) := by decide +kernel
theorem d_CB_prepare_49 : decode b_CB_prepare 49 = .ok (.aload_n 0, 1) := by decide +kernel
theorem d_CB_prepare_50 : decode b_CB_prepare 50 = .ok (.getfield 26, 3) := by decide +kernel
theorem d_CB_prepare_53 : decode b_CB_prepare 53 = .ok (.aload_n 1, 1) := by decide +kernel
theorem d_CB_prepare_54 : decode b_CB_prepare 54 = .ok (.invokevirtual 80, 3) := by decide +kernel
theorem d_CB_prepare_57 : decode b_CB_prepare 57 = .ok (.iload_n 2, 1) := by decide +kernel
theorem d_CB_prepare_58 : decode b_CB_prepare 58 = .ok (.ireturn, 1) := by decide +kernel
theorem d_CB_step_0 : decode b_CB_step 0 = .ok (.aload_n 0, 1) := by decide +kernel
theorem d_CB_step_1 : decode b_CB_step 1 = .ok (.getfield 26, 3) := by decide +kernel
theorem d_CB_step_4 : decode b_CB_step 4 = .ok (.getfield 84, 3) := by decide +kernel
theorem d_CB_step_7 : decode b_CB_step 7 = .ok (.ifnonnull 13, 3) := by decide +kernel
theorem d_CB_step_10 : decode b_CB_step 10 = .ok (.new 45, 3) := by decide +kernel
theorem d_CB_step_13 : decode b_CB_step 13 = .ok (.dup, 1) := by decide +kernel
theorem d_CB_step_14 : decode b_CB_step 14 = .ok (.ldc 88, 2) := by decide +kernel
theorem d_CB_step_16 : decode b_CB_step 16 = .ok (.invokespecial 49, 3) := by decide +kernel
theorem d_CB_step_19 : decode b_CB_step 19 = .ok (.athrow, 1) := by decide +kernel
theorem d_CB_step_20 : decode b_CB_step 20 = .ok (.aload_n 0, 1) := by decide +kernel
theorem d_CB_step_21 : decode b_CB_step 21 = .ok (.getfield 26, 3) := by decide +kernel
theorem d_CB_step_24 : decode b_CB_step 24 = .ok (.aload_n 0, 1) := by decide +kernel
theorem d_CB_step_25 : decode b_CB_step 25 = .ok (.getfield 19, 3) := by decide +kernel
theorem d_CB_step_28 : decode b_CB_step 28 = .ok (.invokevirtual 90, 3) := by decide +kernel
theorem d_CB_step_31 : decode b_CB_step 31 = .ok (.ireturn, 1) := by decide +kernel
theorem d_CB_reset_0 : decode b_CB_reset 0 = .ok (.aload_n 0, 1) := by decide +kernel
theorem d_CB_reset_1 : decode b_CB_reset 1 = .ok (.getfield 26, 3) := by decide +kernel
theorem d_CB_reset_4 : decode b_CB_reset 4 = .ok (.getfield 84, 3) := by decide +kernel
theorem d_CB_reset_7 : decode b_CB_reset 7 = .ok (.ifnonnull 13, 3) := by decide +kernel
theorem d_CB_reset_10 : decode b_CB_reset 10 = .ok (.new 45, 3) := by decide +kernel
theorem d_CB_reset_13 : decode b_CB_reset 13 = .ok (.dup, 1) := by decide +kernel
theorem d_CB_reset_14 : decode b_CB_reset 14 = .ok (.ldc 88, 2) := by decide +kernel
theorem d_CB_reset_16 : decode b_CB_reset 16 = .ok (.invokespecial 49, 3) := by decide +kernel
theorem d_CB_reset_19 : decode b_CB_reset 19 = .ok (.athrow, 1) := by decide +kernel
theorem d_CB_reset_20 : decode b_CB_reset 20 = .ok (.aload_n 0, 1) := by decide +kernel
theorem d_CB_reset_21 : decode b_CB_reset 21 = .ok (.getfield 26, 3) := by decide +kernel
theorem d_CB_reset_24 : decode b_CB_reset 24 = .ok (.getfield 93, 3) := by decide +kernel
theorem d_CB_reset_27 : decode b_CB_reset 27 = .ok (.istore_n 1, 1) := by decide +kernel
theorem d_CB_reset_28 : decode b_CB_reset 28 = .ok (.aload_n 0, 1) := by decide +kernel
theorem d_CB_reset_29 : decode b_CB_reset 29 = .ok (.getfield 26, 3) := by decide +kernel
theorem d_CB_reset_32 : decode b_CB_reset 32 = .ok (.aload_n 0, 1) := by decide +kernel
theorem d_CB_reset_33 : decode b_CB_reset 33 = .ok (.getfield 26, 3) := by decide +kernel
theorem d_CB_reset_36 : decode b_CB_reset 36 = .ok (.getfield 84, 3) := by decide +kernel
theorem d_CB_reset_39 : decode b_CB_reset 39 = .ok (.invokevirtual 80, 3) := by decide +kernel
theorem d_CB_reset_42 : decode b_CB_reset 42 = .ok (.iload_n 1, 1) := by decide +kernel
theorem d_CB_reset_43 : decode b_CB_reset 43 = .ok (.ireturn, 1) := by decide +kernel
theorem d_CB_width_0 : decode b_CB_width 0 = .ok (.aload_n 0, 1) := by decide +kernel
theorem d_CB_width_1 : decode b_CB_width 1 = .ok (.getfield 26, 3) := by decide +kernel
theorem d_CB_width_4 : decode b_CB_width 4 = .ok (.getfield 84, 3) := by decide +kernel
theorem d_CB_width_7 : decode b_CB_width 7 = .ok (.ifnonnull 13, 3) := by decide +kernel
theorem d_CB_width_10 : decode b_CB_width 10 = .ok (.new 45, 3) := by decide +kernel
theorem d_CB_width_13 : decode b_CB_width 13 = .ok (.dup, 1) := by decide +kernel
theorem d_CB_width_14 : decode b_CB_width 14 = .ok (.ldc 88, 2) := by decide +kernel
theorem d_CB_width_16 : decode b_CB_width 16 = .ok (.invokespecial 49, 3) := by decide +kernel
theorem d_CB_width_19 : decode b_CB_width 19 = .ok (.athrow, 1) := by decide +kernel
theorem d_CB_width_20 : decode b_CB_width 20 = .ok (.aload_n 0, 1) := by decide +kernel
theorem d_CB_width_21 : decode b_CB_width 21 = .ok (.getfield 26, 3) := by decide +kernel
theorem d_CB_width_24 : decode b_CB_width 24 = .ok (.getfield 84, 3) := by decide +kernel
theorem d_CB_width_27 : decode b_CB_width 27 = .ok (.invokevirtual 96, 3) := by decide +kernel
theorem d_CB_width_30 : decode b_CB_width 30 = .ok (.ireturn, 1) := by decide +kernel
theorem d_CB_column_0 : decode b_CB_column 0 = .ok (.aload_n 0, 1) := by decide +kernel
theorem d_CB_column_1 : decode b_CB_column 1 = .ok (.getfield 26, 3) := by decide +kernel
theorem d_CB_column_4 : decode b_CB_column 4 = .ok (.getfield 84, 3) := by decide +kernel
theorem d_CB_column_7 : decode b_CB_column 7 = .ok (.ifnull 13, 3) := by decide +kernel
theorem d_CB_column_10 : decode b_CB_column 10 = .ok (.aload_n 0, 1) := by decide +kernel
theorem d_CB_column_11 : decode b_CB_column 11 = .ok (.getfield 26, 3) := by decide +kernel
theorem d_CB_column_14 : decode b_CB_column 14 = .ok (.getfield 100, 3) := by decide +kernel
theorem d_CB_column_17 : decode b_CB_column 17 = .ok (.ifCond .ne 13, 3) := by decide +kernel
theorem d_CB_column_20 : decode b_CB_column 20 = .ok (.new 45, 3) := by decide +kernel
theorem d_CB_column_23 : decode b_CB_column 23 = .ok (.dup, 1) := by decide +kernel
theorem d_CB_column_24 : decode b_CB_column 24 = .ok (.ldc 104, 2) := by decide +kernel
theorem d_CB_column_26 : decode b_CB_column 26 = .ok (.invokespecial 49, 3) := by decide +kernel
theorem d_CB_column_29 : decode b_CB_column 29 = .ok (.athrow, 1) := by decide +kernel
theorem d_CB_column_30 : decode b_CB_column 30 = .ok (.iload_n 1, 1) := by decide +kernel
theorem d_CB_column_31 : decode b_CB_column 31 = .ok (.ifCond .lt 17, 3) := by decide +kernel
theorem d_CB_column_34 : decode b_CB_column 34 = .ok (.iload_n 1, 1) := by decide +kernel
theorem d_CB_column_35 : decode b_CB_column 35 = .ok (.aload_n 0, 1) := by decide +kernel
theorem d_CB_column_36 : decode b_CB_column 36 = .ok (.getfield 26, 3) := by decide +kernel
theorem d_CB_column_39 : decode b_CB_column 39 = .ok (.getfield 84, 3) := by decide +kernel
theorem d_CB_column_42 : decode b_CB_column 42 = .ok (.invokevirtual 96, 3) := by decide +kernel
theorem d_CB_column_45 : decode b_CB_column 45 = .ok (.if_icmp .lt 13, 3) := by decide +kernel
theorem d_CB_column_48 : decode b_CB_column 48 = .ok (.new 106, 3) := by decide +kernel
theorem d_CB_column_51 : decode b_CB_column 51 = .ok (.dup, 1) := by decide +kernel
theorem d_CB_column_52 : decode b_CB_column 52 = .ok (.ldc 108, 2) := by decide +kernel
theorem d_CB_column_54 : decode b_CB_column 54 = .ok (.invokespecial 110, 3) := by decide +kernel
theorem d_CB_column_57 : decode b_CB_column 57 = .ok (.athrow, 1) := by decide +kernel
theorem d_CB_column_58 : decode b_CB_column 58 = .ok (.aload_n 0, 1) := by decide +kernel
theorem d_CB_column_59 : decode b_CB_column 59 = .ok (.getfield 26, 3) := by decide +kernel
theorem d_CB_column_62 : decode b_CB_column 62 = .ok (.iload_n 1, 1) := by decide +kernel
theorem d_CB_column_63 : decode b_CB_column 63 = .ok (.invokevirtual 111, 3) := by decide +kernel
theorem d_CB_column_66 : decode b_CB_column 66 = .ok (.lreturn, 1) := by decide +kernel
theorem d_CB_rows_0 : decode b_CB_rows 0 = .ok (.iload_n 1, 1) := by decide +kernel
theorem d_CB_rows_1 : decode b_CB_rows 1 = .ok (.ifCond .lt 9, 3) := by decide +kernel
theorem d_CB_rows_4 : decode b_CB_rows 4 = .ok (.iload_n 1, 1) := by decide +kernel
theorem d_CB_rows_5 : decode b_CB_rows 5 = .ok (.bipush 10, 2) := by decide +kernel
theorem d_CB_rows_7 : decode b_CB_rows 7 = .ok (.if_icmp .lt 13, 3) := by decide +kernel
theorem d_CB_rows_10 : decode b_CB_rows 10 = .ok (.new 34, 3) := by decide +kernel
theorem d_CB_rows_13 : decode b_CB_rows 13 = .ok (.dup, 1) := by decide +kernel
theorem d_CB_rows_14 : decode b_CB_rows 14 = .ok (.ldc 115, 2) := by decide +kernel
theorem d_CB_rows_16 : decode b_CB_rows 16 = .ok (.invokespecial 38, 3) := by decide +kernel
theorem d_CB_rows_19 : decode b_CB_rows 19 = .ok (.athrow, 1) := by decide +kernel
theorem d_CB_rows_20 : decode b_CB_rows 20 = .ok (.aload_n 0, 1) := by decide +kernel
theorem d_CB_rows_21 : decode b_CB_rows 21 = .ok (.getfield 19, 3) := by decide +kernel
theorem d_CB_rows_24 : decode b_CB_rows 24 = .ok (.iload_n 1, 1) := by decide +kernel
theorem d_CB_rows_25 : decode b_CB_rows 25 = .ok (.invokevirtual 117, 3) := by decide +kernel
theorem d_CB_rows_28 : decode b_CB_rows 28 = .ok (.ifCond .eq 14, 3) := by decide +kernel
theorem d_CB_rows_31 : decode b_CB_rows 31 = .ok (.aload_n 0, 1) := by decide +kernel
theorem d_CB_rows_32 : decode b_CB_rows 32 = .ok (.getfield 19, 3) := by decide +kernel
theorem d_CB_rows_35 : decode b_CB_rows 35 = .ok (.iload_n 1, 1) := by decide +kernel
theorem d_CB_rows_36 : decode b_CB_rows 36 = .ok (.invokevirtual 121, 3) := by decide +kernel
theorem d_CB_rows_39 : decode b_CB_rows 39 = .ok (.goto 4, 3) := by decide +kernel
theorem d_CB_rows_42 : decode b_CB_rows 42 = .ok (.iconst (-1), 1) := by decide +kernel
theorem d_CB_rows_43 : decode b_CB_rows 43 = .ok (.ireturn, 1) := by decide +kernel
theorem d_CB_all_0 : decode b_CB_all 0 = .ok (.aload_n 0, 1) := by decide +kernel
theorem d_CB_all_1 : decode b_CB_all 1 = .ok (.getfield 19, 3) := by decide +kernel
theorem d_CB_all_4 : decode b_CB_all 4 = .ok (.invokevirtual 125, 3) := by decide +kernel
theorem d_CB_all_7 : decode b_CB_all 7 = .ok (.ireturn, 1) := by decide +kernel
theorem d_CB_nearest_0 : decode b_CB_nearest 0 = .ok (.aload_n 0, 1) := by decide +kernel
theorem d_CB_nearest_1 : decode b_CB_nearest 1 = .ok (.getfield 19, 3) := by decide +kernel
theorem d_CB_nearest_4 : decode b_CB_nearest 4 = .ok (.iload_n 1, 1) := by decide +kernel
theorem d_CB_nearest_5 : decode b_CB_nearest 5 = .ok (.invokevirtual 117, 3) := by decide +kernel
theorem d_CB_nearest_8 : decode b_CB_nearest 8 = .ok (.ifCond .ne 13, 3) := by decide +kernel
theorem d_CB_nearest_11 : decode b_CB_nearest 11 = .ok (.new 34, 3) := by decide +kernel
theorem d_CB_nearest_14 : decode b_CB_nearest 14 = .ok (.dup, 1) := by decide +kernel
theorem d_CB_nearest_15 : decode b_CB_nearest 15 = .ok (.ldc 128, 2) := by decide +kernel
theorem d_CB_nearest_17 : decode b_CB_nearest 17 = .ok (.invokespecial 38, 3) := by decide +kernel
theorem d_CB_nearest_20 : decode b_CB_nearest 20 = .ok (.athrow, 1) := by decide +kernel
theorem d_CB_nearest_21 : decode b_CB_nearest 21 = .ok (.aload_n 0, 1) := by decide +kernel
theorem d_CB_nearest_22 : decode b_CB_nearest 22 = .ok (.getfield 19, 3) := by decide +kernel
theorem d_CB_nearest_25 : decode b_CB_nearest 25 = .ok (.iload_n 1, 1) := by decide +kernel
theorem d_CB_nearest_26 : decode b_CB_nearest 26 = .ok (.iload_n 2, 1) := by decide +kernel
theorem d_CB_nearest_27 : decode b_CB_nearest 27 = .ok (.iload_n 3, 1) := by decide +kernel
theorem d_CB_nearest_28 : decode b_CB_nearest 28 = .ok (.invokevirtual 130, 3) := by decide +kernel
theorem d_CB_nearest_31 : decode b_CB_nearest 31 = .ok (.istore 4, 2) := by decide +kernel
theorem d_CB_nearest_33 : decode b_CB_nearest 33 = .ok (.iload 4, 2) := by decide +kernel
theorem d_CB_nearest_35 : decode b_CB_nearest 35 = .ok (.iconst (-1), 1) := by decide +kernel
theorem d_CB_nearest_36 : decode b_CB_nearest 36 = .ok (.if_icmp .ne 13, 3) := by decide +kernel
theorem d_CB_nearest_39 : decode b_CB_nearest 39 = .ok (.new 45, 3) := by decide +kernel
theorem d_CB_nearest_42 : decode b_CB_nearest 42 = .ok (.dup, 1) := by decide +kernel
theorem d_CB_nearest_43 : decode b_CB_nearest 43 = .ok (.ldc 134, 2) := by decide +kernel
theorem d_CB_nearest_45 : decode b_CB_nearest 45 = .ok (.invokespecial 49, 3) := by decide +kernel
theorem d_CB_nearest_48 : decode b_CB_nearest 48 = .ok (.athrow, 1) := by decide +kernel
theorem d_CB_nearest_49 : decode b_CB_nearest 49 = .ok (.aload_n 0, 1) := by decide +kernel
theorem d_CB_nearest_50 : decode b_CB_nearest 50 = .ok (.getfield 19, 3) := by decide +kernel
theorem d_CB_nearest_53 : decode b_CB_nearest 53 = .ok (.iload_n 1, 1) := by decide +kernel
theorem d_CB_nearest_54 : decode b_CB_nearest 54 = .ok (.iload 4, 2) := by decide +kernel
theorem d_CB_nearest_56 : decode b_CB_nearest 56 = .ok (.invokevirtual 136, 3) := by decide +kernel
theorem d_CB_nearest_59 : decode b_CB_nearest 59 = .ok (.ireturn, 1) := by decide +kernel
theorem d_CB_clear_0 : decode b_CB_clear 0 = .ok (.aload_n 0, 1) := by decide +kernel
theorem d_CB_clear_1 : decode b_CB_clear 1 = .ok (.getfield 10, 3) := by decide +kernel
theorem d_CB_clear_4 : decode b_CB_clear 4 = .ok (.invokevirtual 67, 3) := by decide +kernel
theorem d_CB_clear_7 : decode b_CB_clear 7 = .ok (.aload_n 0, 1) := by decide +kernel
theorem d_CB_clear_8 : decode b_CB_clear 8 = .ok (.getfield 19, 3) := by decide +kernel
theorem d_CB_clear_11 : decode b_CB_clear 11 = .ok (.invokevirtual 140, 3) := by decide +kernel
theorem d_CB_clear_14 : decode b_CB_clear 14 = .ok (.aload_n 0, 1) := by decide +kernel
theorem d_CB_clear_15 : decode b_CB_clear 15 = .ok (.getfield 26, 3) := by decide +kernel
theorem d_CB_clear_18 : decode b_CB_clear 18 = .ok (.aconst_null, 1) := by decide +kernel
theorem d_CB_clear_19 : decode b_CB_clear 19 = .ok (.invokevirtual 80, 3) := by decide +kernel
theorem d_CB_clear_22 : decode b_CB_clear 22 = .ok (.return_, 1) := by decide +kernel
theorem d_Mo_init_0 : decode b_Mo_init 0 = .ok (.aload_n 0, 1) := by decide +kernel
theorem d_Mo_init_1 : decode b_Mo_init 1 = .ok (.invokespecial 1, 3) := by decide +kernel
theorem d_Mo_init_4 : decode b_Mo_init 4 = .ok (.aload_n 0, 1) := by decide +kernel
theorem d_Mo_init_5 : decode b_Mo_init 5 = .ok (.bipush 10, 2) := by decide +kernel
theorem d_Mo_init_7 : decode b_Mo_init 7 = .ok (.newarray .int, 2) := by decide +kernel
theorem d_Mo_init_9 : decode b_Mo_init 9 = .ok (.putfield 7, 3) := by decide +kernel
theorem d_Mo_init_12 : decode b_Mo_init 12 = .ok (.aload_n 0, 1) := by decide +kernel
theorem d_Mo_init_13 : decode b_Mo_init 13 = .ok (.sipush 400, 3) := by decide +kernel
theorem d_Mo_init_16 : decode b_Mo_init 16 = .ok (.newarray .int, 2) := by decide +kernel
theorem d_Mo_init_18 : decode b_Mo_init 18 = .ok (.putfield 13, 3) := by decide +kernel
theorem d_Mo_init_21 : decode b_Mo_init 21 = .ok (.aload_n 0, 1) := by decide +kernel
theorem d_Mo_init_22 : decode b_Mo_init 22 = .ok (.sipush 2400, 3) := by decide +kernel
theorem d_Mo_init_25 : decode b_Mo_init 25 = .ok (.newarray .int, 2) := by decide +kernel
theorem d_Mo_init_27 : decode b_Mo_init 27 = .ok (.putfield 16, 3) := by decide +kernel
theorem d_Mo_init_30 : decode b_Mo_init 30 = .ok (.aload_n 0, 1) := by decide +kernel
theorem d_Mo_init_31 : decode b_Mo_init 31 = .ok (.bipush 60, 2) := by decide +kernel
theorem d_Mo_init_33 : decode b_Mo_init 33 = .ok (.newarray .int, 2) := by decide +kernel
theorem d_Mo_init_35 : decode b_Mo_init 35 = .ok (.putfield 19, 3) := by decide +kernel
theorem d_Mo_init_38 : decode b_Mo_init 38 = .ok (.aload_n 0, 1) := by decide +kernel
theorem d_Mo_init_39 : decode b_Mo_init 39 = .ok (.bipush 60, 2) := by decide +kernel
theorem d_Mo_init_41 : decode b_Mo_init 41 = .ok (.newarray .int, 2) := by decide +kernel
theorem d_Mo_init_43 : decode b_Mo_init 43 = .ok (.putfield 22, 3) := by decide +kernel
theorem d_Mo_init_46 : decode b_Mo_init 46 = .ok (.aload_n 0, 1) := by decide +kernel
theorem d_Mo_init_47 : decode b_Mo_init 47 = .ok (.bipush 60, 2) := by decide +kernel
theorem d_Mo_init_49 : decode b_Mo_init 49 = .ok (.newarray .int, 2) := by decide +kernel
theorem d_Mo_init_51 : decode b_Mo_init 51 = .ok (.putfield 25, 3) := by decide +kernel
theorem d_Mo_init_54 : decode b_Mo_init 54 = .ok (.aload_n 0, 1) := by decide +kernel
theorem d_Mo_init_55 : decode b_Mo_init 55 = .ok (.bipush 60, 2) := by decide +kernel
theorem d_Mo_init_57 : decode b_Mo_init 57 = .ok (.newarray .int, 2) := by decide +kernel
theorem d_Mo_init_59 : decode b_Mo_init 59 = .ok (.putfield 28, 3) := by decide +kernel
theorem d_Mo_init_62 : decode b_Mo_init 62 = .ok (.return_, 1) := by decide +kernel
theorem d_Mo_thrown_0 : decode b_Mo_thrown 0 = .ok (.aload_n 0, 1) := by decide +kernel
theorem d_Mo_thrown_1 : decode b_Mo_thrown 1 = .ok (.getfield 31, 3) := by decide +kernel
theorem d_Mo_thrown_4 : decode b_Mo_thrown 4 = .ok (.ireturn, 1) := by decide +kernel
theorem d_Mo_in_0 : decode b_Mo_in 0 = .ok (.lload_n 0, 1) := by decide +kernel
theorem d_Mo_in_1 : decode b_Mo_in 1 = .ok (.lload_n 2, 1) := by decide +kernel
theorem d_Mo_in_2 : decode b_Mo_in 2 = .ok (.lcmp, 1) := by decide +kernel
theorem d_Mo_in_3 : decode b_Mo_in 3 = .ok (.ifCond .lt 14, 3) := by decide +kernel
theorem d_Mo_in_6 : decode b_Mo_in 6 = .ok (.lload_n 0, 1) := by decide +kernel
theorem d_Mo_in_7 : decode b_Mo_in 7 = .ok (.lload 4, 2) := by decide +kernel
theorem d_Mo_in_9 : decode b_Mo_in 9 = .ok (.lcmp, 1) := by decide +kernel
theorem d_Mo_in_10 : decode b_Mo_in 10 = .ok (.ifCond .gt 7, 3) := by decide +kernel
theorem d_Mo_in_13 : decode b_Mo_in 13 = .ok (.iconst 1, 1) := by decide +kernel
theorem d_Mo_in_14 : decode b_Mo_in 14 = .ok (.goto 4, 3) := by decide +kernel
theorem d_Mo_in_17 : decode b_Mo_in 17 = .ok (.iconst 0, 1) := by decide +kernel
theorem d_Mo_in_18 : decode b_Mo_in 18 = .ok (.ireturn, 1) := by decide +kernel
theorem d_Mo_feed_0 : decode b_Mo_feed 0 = .ok (.iload_n 1, 1) := by decide +kernel
theorem d_Mo_feed_1 : decode b_Mo_feed 1 = .ok (.ifCond .ne 15, 3) := by decide +kernel
theorem d_Mo_feed_4 : decode b_Mo_feed 4 = .ok (.iload_n 2, 1) := by decide +kernel
theorem d_Mo_feed_5 : decode b_Mo_feed 5 = .ok (.i2l, 1) := by decide +kernel
theorem d_Mo_feed_6 : decode b_Mo_feed 6 = .ok (.lconst 0, 1) := by decide +kernel
theorem d_Mo_feed_7 : decode b_Mo_feed 7 = .ok (.ldc2_w 35, 3) := by decide +kernel
theorem d_Mo_feed_10 : decode b_Mo_feed 10 = .ok (.invokestatic 37, 3) := by decide +kernel
theorem d_Mo_feed_13 : decode b_Mo_feed 13 = .ok (.goto 69, 3) := by decide +kernel
theorem d_Mo_feed_16 : decode b_Mo_feed 16 = .ok (.iload_n 1, 1) := by decide +kernel
theorem d_Mo_feed_17 : decode b_Mo_feed 17 = .ok (.iconst 1, 1) := by decide +kernel
theorem d_Mo_feed_18 : decode b_Mo_feed 18 = .ok (.if_icmp .ne 15, 3) := by decide +kernel
theorem d_Mo_feed_21 : decode b_Mo_feed 21 = .ok (.iload_n 2, 1) := by decide +kernel
theorem d_Mo_feed_22 : decode b_Mo_feed 22 = .ok (.i2l, 1) := by decide +kernel
theorem d_Mo_feed_23 : decode b_Mo_feed 23 = .ok (.lconst 0, 1) := by decide +kernel
theorem d_Mo_feed_24 : decode b_Mo_feed 24 = .ok (.ldc2_w 41, 3) := by decide +kernel
theorem d_Mo_feed_27 : decode b_Mo_feed 27 = .ok (.invokestatic 37, 3) := by decide +kernel
theorem d_Mo_feed_30 : decode b_Mo_feed 30 = .ok (.goto 52, 3) := by decide +kernel
theorem d_Mo_feed_33 : decode b_Mo_feed 33 = .ok (.iload_n 1, 1) := by decide +kernel
theorem d_Mo_feed_34 : decode b_Mo_feed 34 = .ok (.iconst 2, 1) := by decide +kernel
theorem d_Mo_feed_35 : decode b_Mo_feed 35 = .ok (.if_icmp .ne 37, 3) := by decide +kernel
theorem d_Mo_feed_38 : decode b_Mo_feed 38 = .ok (.iload_n 2, 1) := by decide +kernel
theorem d_Mo_feed_39 : decode b_Mo_feed 39 = .ok (.i2l, 1) := by decide +kernel
theorem d_Mo_feed_40 : decode b_Mo_feed 40 = .ok (.lconst 0, 1) := by decide +kernel
theorem d_Mo_feed_41 : decode b_Mo_feed 41 = .ok (.ldc2_w 43, 3) := by decide +kernel
theorem d_Mo_feed_44 : decode b_Mo_feed 44 = .ok (.invokestatic 37, 3) := by decide +kernel
theorem d_Mo_feed_47 : decode b_Mo_feed 47 = .ok (.ifCond .ne 17, 3) := by decide +kernel
theorem d_Mo_feed_50 : decode b_Mo_feed 50 = .ok (.iload_n 2, 1) := by decide +kernel
theorem d_Mo_feed_51 : decode b_Mo_feed 51 = .ok (.i2l, 1) := by decide +kernel
theorem d_Mo_feed_52 : decode b_Mo_feed 52 = .ok (.ldc2_w 45, 3) := by decide +kernel
theorem d_Mo_feed_55 : decode b_Mo_feed 55 = .ok (.ldc2_w 47, 3) := by decide +kernel
theorem d_Mo_feed_58 : decode b_Mo_feed 58 = .ok (.invokestatic 37, 3) := by decide +kernel
theorem d_Mo_feed_61 : decode b_Mo_feed 61 = .ok (.ifCond .eq 7, 3) := by decide +kernel
theorem d_Mo_feed_64 : decode b_Mo_feed 64 = .ok (.iconst 1, 1) := by decide +kernel
theorem d_Mo_feed_65 : decode b_Mo_feed 65 = .ok (.goto 17, 3) := by decide +kernel
theorem d_Mo_feed_68 : decode b_Mo_feed 68 = .ok (.iconst 0, 1) := by decide +kernel
theorem d_Mo_feed_69 : decode b_Mo_feed 69 = .ok (.goto 13, 3) := by decide +kernel
theorem d_Mo_feed_72 : decode b_Mo_feed 72 = .ok (.iload_n 1, 1) := by decide +kernel
theorem d_Mo_feed_73 : decode b_Mo_feed 73 = .ok (.iconst 3, 1) := by decide +kernel
theorem d_Mo_feed_74 : decode b_Mo_feed 74 = .ok (.if_icmp .ne 7, 3) := by decide +kernel
theorem d_Mo_feed_77 : decode b_Mo_feed 77 = .ok (.iconst 1, 1) := by decide +kernel
theorem d_Mo_feed_78 : decode b_Mo_feed 78 = .ok (.goto 4, 3) := by decide +kernel
theorem d_Mo_feed_81 : decode b_Mo_feed 81 = .ok (.iconst 0, 1) := by decide +kernel
theorem d_Mo_feed_82 : decode b_Mo_feed 82 = .ok (.istore_n 3, 1) := by decide +kernel
theorem d_Mo_feed_83 : decode b_Mo_feed 83 = .ok (.aload_n 0, 1) := by decide +kernel
theorem d_Mo_feed_84 : decode b_Mo_feed 84 = .ok (.iload_n 3, 1) := by decide +kernel
theorem d_Mo_feed_85 : decode b_Mo_feed 85 = .ok (.ifCond .ne 7, 3) := by decide +kernel
theorem d_Mo_feed_88 : decode b_Mo_feed 88 = .ok (.iconst 1, 1) := by decide +kernel
theorem d_Mo_feed_89 : decode b_Mo_feed 89 = .ok (.goto 17, 3) := by decide +kernel
theorem d_Mo_feed_92 : decode b_Mo_feed 92 = .ok (.aload_n 0, 1) := by decide +kernel
theorem d_Mo_feed_93 : decode b_Mo_feed 93 = .ok (.getfield 49, 3) := by decide +kernel
theorem d_Mo_feed_96 : decode b_Mo_feed 96 = .ok (.bipush 60, 2) := by decide +kernel
theorem d_Mo_feed_98 : decode b_Mo_feed 98 = .ok (.if_icmp .ne 7, 3) := by decide +kernel
theorem d_Mo_feed_101 : decode b_Mo_feed 101 = .ok (.iconst 2, 1) := by decide +kernel
theorem d_Mo_feed_102 : decode b_Mo_feed 102 = .ok (.goto 4, 3) := by decide +kernel
theorem d_Mo_feed_105 : decode b_Mo_feed 105 = .ok (.iconst 0, 1) := by decide +kernel
theorem d_Mo_feed_106 : decode b_Mo_feed 106 = .ok (.putfield 31, 3) := by decide +kernel
theorem d_Mo_feed_109 : decode b_Mo_feed 109 = .ok (.aload_n 0, 1) := by decide +kernel
theorem d_Mo_feed_110 : decode b_Mo_feed 110 = .ok (.getfield 31, 3) := by decide +kernel
theorem d_Mo_feed_113 : decode b_Mo_feed 113 = .ok (.ifCond .le 5, 3) := by decide +kernel
theorem d_Mo_feed_116 : decode b_Mo_feed 116 = .ok (.iconst 0, 1) := by decide +kernel
theorem d_Mo_feed_117 : decode b_Mo_feed 117 = .ok (.ireturn, 1) := by decide +kernel
theorem d_Mo_feed_118 : decode b_Mo_feed 118 = .ok (.aload_n 0, 1) := by decide +kernel
theorem d_Mo_feed_119 : decode b_Mo_feed 119 = .ok (.getfield 19, 3) := by decide +kernel
theorem d_Mo_feed_122 : decode b_Mo_feed 122 = .ok (.aload_n 0, 1) := by decide +kernel
theorem d_Mo_feed_123 : decode b_Mo_feed 123 = .ok (.getfield 49, 3) := by decide +kernel
theorem d_Mo_feed_126 : decode b_Mo_feed 126 = .ok (.iload_n 1, 1) := by decide +kernel
theorem d_Mo_feed_127 : decode b_Mo_feed 127 = .ok (.iastore, 1) := by decide +kernel
theorem d_Mo_feed_128 : decode b_Mo_feed 128 = .ok (.aload_n 0, 1) := by decide +kernel
theorem d_Mo_feed_129 : decode b_Mo_feed 129 = .ok (.getfield 22, 3) := by decide +kernel
theorem d_Mo_feed_132 : decode b_Mo_feed 132 = .ok (.aload_n 0, 1) := by decide +kernel
theorem d_Mo_feed_133 : decode b_Mo_feed 133 = .ok (.getfield 49, 3) := by decide +kernel
theorem d_Mo_feed_136 : decode b_Mo_feed 136 = .ok (.iload_n 2, 1) := by decide +kernel
theorem d_Mo_feed_137 : decode b_Mo_feed 137 = .ok (.iastore, 1) := by decide +kernel
theorem d_Mo_feed_138 : decode b_Mo_feed 138 = .ok (.aload_n 0, 1) := by decide +kernel
theorem d_Mo_feed_139 : decode b_Mo_feed 139 = .ok (.dup, 1) := by decide +kernel
theorem d_Mo_feed_140 : decode b_Mo_feed 140 = .ok (.getfield 49, 3) := by decide +kernel
theorem d_Mo_feed_143 : decode b_Mo_feed 143 = .ok (.iconst 1, 1) := by decide +kernel
theorem d_Mo_feed_144 : decode b_Mo_feed 144 = .ok (.iadd, 1) := by decide +kernel
theorem d_Mo_feed_145 : decode b_Mo_feed 145 = .ok (.putfield 49, 3) := by decide +kernel
theorem d_Mo_feed_148 : decode b_Mo_feed 148 = .ok (.aload_n 0, 1) := by decide +kernel
theorem d_Mo_feed_149 : decode b_Mo_feed 149 = .ok (.getfield 49, 3) := by decide +kernel
theorem d_Mo_feed_152 : decode b_Mo_feed 152 = .ok (.ireturn, 1) := by decide +kernel
theorem d_Mo_isKind_0 : decode b_Mo_isKind 0 = .ok (.aload_n 0, 1) := by decide +kernel
theorem d_Mo_isKind_1 : decode b_Mo_isKind 1 = .ok (.getfield 52, 3) := by decide +kernel
theorem d_Mo_isKind_4 : decode b_Mo_isKind 4 = .ok (.aload_n 0, 1) := by decide +kernel
theorem d_Mo_isKind_5 : decode b_Mo_isKind 5 = .ok (.getfield 49, 3) := by decide +kernel
theorem d_Mo_isKind_8 : decode b_Mo_isKind 8 = .ok (.if_icmp .ge 20, 3) := by decide +kernel
theorem d_Mo_isKind_11 : decode b_Mo_isKind 11 = .ok (.aload_n 0, 1) := by decide +kernel
theorem d_Mo_isKind_12 : decode b_Mo_isKind 12 = .ok (.getfield 19, 3) := by decide +kernel
theorem d_Mo_isKind_15 : decode b_Mo_isKind 15 = .ok (.aload_n 0, 1) := by decide +kernel
theorem d_Mo_isKind_16 : decode b_Mo_isKind 16 = .ok (.getfield 52, 3) := by decide +kernel
theorem d_Mo_isKind_19 : decode b_Mo_isKind 19 = .ok (.iaload, 1) := by decide +kernel
theorem d_Mo_isKind_20 : decode b_Mo_isKind 20 = .ok (.iload_n 1, 1) := by decide +kernel
theorem d_Mo_isKind_21 : decode b_Mo_isKind 21 = .ok (.if_icmp .ne 7, 3) := by decide +kernel
theorem d_Mo_isKind_24 : decode b_Mo_isKind 24 = .ok (.iconst 1, 1) := by decide +kernel
theorem d_Mo_isKind_25 : decode b_Mo_isKind 25 = .ok (.goto 4, 3) := by decide +kernel
theorem d_Mo_isKind_28 : decode b_Mo_isKind 28 = .ok (.iconst 0, 1) := by decide +kernel
theorem d_Mo_isKind_29 : decode b_Mo_isKind 29 = .ok (.ireturn, 1) := by decide +kernel
theorem d_Mo_isWord_0 : decode b_Mo_isWord 0 = .ok (.aload_n 0, 1) := by decide +kernel
theorem d_Mo_isWord_1 : decode b_Mo_isWord 1 = .ok (.iconst 0, 1) := by decide +kernel
theorem d_Mo_isWord_2 : decode b_Mo_isWord 2 = .ok (.invokevirtual 55, 3) := by decide +kernel
theorem d_Mo_isWord_5 : decode b_Mo_isWord 5 = .ok (.ifCond .eq 20, 3) := by decide +kernel
theorem d_Mo_isWord_8 : decode b_Mo_isWord 8 = .ok (.aload_n 0, 1) := by decide +kernel
theorem d_Mo_isWord_9 : decode b_Mo_isWord 9 = .ok (.getfield 22, 3) := by decide +kernel
theorem d_Mo_isWord_12 : decode b_Mo_isWord 12 = .ok (.aload_n 0, 1) := by decide +kernel
theorem d_Mo_isWord_13 : decode b_Mo_isWord 13 = .ok (.getfield 52, 3) := by decide +kernel
theorem d_Mo_isWord_16 : decode b_Mo_isWord 16 = .ok (.iaload, 1) := by decide +kernel
theorem d_Mo_isWord_17 : decode b_Mo_isWord 17 = .ok (.iload_n 1, 1) := by decide +kernel
theorem d_Mo_isWord_18 : decode b_Mo_isWord 18 = .ok (.if_icmp .ne 7, 3) := by decide +kernel
theorem d_Mo_isWord_21 : decode b_Mo_isWord 21 = .ok (.iconst 1, 1) := by decide +kernel
theorem d_Mo_isWord_22 : decode b_Mo_isWord 22 = .ok (.goto 4, 3) := by decide +kernel
theorem d_Mo_isWord_25 : decode b_Mo_isWord 25 = .ok (.iconst 0, 1) := by decide +kernel
theorem d_Mo_isWord_26 : decode b_Mo_isWord 26 = .ok (.ireturn, 1) := by decide +kernel
theorem d_Mo_skips_0 : decode b_Mo_skips 0 = .ok (.aload_n 0, 1) := by decide +kernel
theorem d_Mo_skips_1 : decode b_Mo_skips 1 = .ok (.iload_n 1, 1) := by decide +kernel
theorem d_Mo_skips_2 : decode b_Mo_skips 2 = .ok (.invokevirtual 59, 3) := by decide +kernel
theorem d_Mo_skips_5 : decode b_Mo_skips 5 = .ok (.ifCond .ne 5, 3) := by decide +kernel
theorem d_Mo_skips_8 : decode b_Mo_skips 8 = .ok (.iconst 0, 1) := by decide +kernel
theorem d_Mo_skips_9 : decode b_Mo_skips 9 = .ok (.ireturn, 1) := by decide +kernel
theorem d_Mo_skips_10 : decode b_Mo_skips 10 = .ok (.aload_n 0, 1) := by decide +kernel
theorem d_Mo_skips_11 : decode b_Mo_skips 11 = .ok (.dup, 1) := by decide +kernel
theorem d_Mo_skips_12 : decode b_Mo_skips 12 = .ok (.getfield 52, 3) := by decide +kernel
theorem d_Mo_skips_15 : decode b_Mo_skips 15 = .ok (.iconst 1, 1) := by decide +kernel
theorem d_Mo_skips_16 : decode b_Mo_skips 16 = .ok (.iadd, 1) := by decide +kernel
theorem d_Mo_skips_17 : decode b_Mo_skips 17 = .ok (.putfield 52, 3) := by decide +kernel
theorem d_Mo_skips_20 : decode b_Mo_skips 20 = .ok (.iconst 1, 1) := by decide +kernel
theorem d_Mo_skips_21 : decode b_Mo_skips 21 = .ok (.ireturn, 1) := by decide +kernel
theorem d_Mo_readsTable_0 : decode b_Mo_readsTable 0 = .ok (.aload_n 0, 1) := by decide +kernel
theorem d_Mo_readsTable_1 : decode b_Mo_readsTable 1 = .ok (.iconst 1, 1) := by decide +kernel
theorem d_Mo_readsTable_2 : decode b_Mo_readsTable 2 = .ok (.invokevirtual 55, 3) := by decide +kernel
theorem d_Mo_readsTable_5 : decode b_Mo_readsTable 5 = .ok (.ifCond .ne 5, 3) := by decide +kernel
theorem d_Mo_readsTable_8 : decode b_Mo_readsTable 8 = .ok (.iconst (-1), 1) := by decide +kernel
theorem d_Mo_readsTable_9 : decode b_Mo_readsTable 9 = .ok (.ireturn, 1) := by decide +kernel
theorem d_Mo_readsTable_10 : decode b_Mo_readsTable 10 = .ok (.aload_n 0, 1) := by decide +kernel
theorem d_Mo_readsTable_11 : decode b_Mo_readsTable 11 = .ok (.dup, 1) := by decide +kernel
theorem d_Mo_readsTable_12 : decode b_Mo_readsTable 12 = .ok (.getfield 52, 3) := by decide +kernel
theorem d_Mo_readsTable_15 : decode b_Mo_readsTable 15 = .ok (.iconst 1, 1) := by decide +kernel
theorem d_Mo_readsTable_16 : decode b_Mo_readsTable 16 = .ok (.iadd, 1) := by decide +kernel
theorem d_Mo_readsTable_17 : decode b_Mo_readsTable 17 = .ok (.putfield 52, 3) := by decide +kernel
theorem d_Mo_readsTable_20 : decode b_Mo_readsTable 20 = .ok (.aload_n 0, 1) := by decide +kernel
theorem d_Mo_readsTable_21 : decode b_Mo_readsTable 21 = .ok (.getfield 22, 3) := by decide +kernel
theorem d_Mo_readsTable_24 : decode b_Mo_readsTable 24 = .ok (.aload_n 0, 1) := by decide +kernel
theorem d_Mo_readsTable_25 : decode b_Mo_readsTable 25 = .ok (.getfield 52, 3) := by decide +kernel
theorem d_Mo_readsTable_28 : decode b_Mo_readsTable 28 = .ok (.iconst 1, 1) := by decide +kernel
theorem d_Mo_readsTable_29 : decode b_Mo_readsTable 29 = .ok (.isub, 1) := by decide +kernel
theorem d_Mo_readsTable_30 : decode b_Mo_readsTable 30 = .ok (.iaload, 1) := by decide +kernel
theorem d_Mo_readsTable_31 : decode b_Mo_readsTable 31 = .ok (.ireturn, 1) := by decide +kernel
theorem d_Mo_readsOperand_0 : decode b_Mo_readsOperand 0 = .ok (.aload_n 0, 1) := by decide +kernel
theorem d_Mo_readsOperand_1 : decode b_Mo_readsOperand 1 = .ok (.iconst 2, 1) := by decide +kernel
theorem d_Mo_readsOperand_2 : decode b_Mo_readsOperand 2 = .ok (.invokevirtual 55, 3) := by decide +kernel
theorem d_Mo_readsOperand_5 : decode b_Mo_readsOperand 5 = .ok (.ifCond .ne 13, 3) := by decide +kernel
theorem d_Mo_readsOperand_8 : decode b_Mo_readsOperand 8 = .ok (.aload_n 0, 1) := by decide +kernel
theorem d_Mo_readsOperand_9 : decode b_Mo_readsOperand 9 = .ok (.iconst 3, 1) := by decide +kernel
theorem d_Mo_readsOperand_10 : decode b_Mo_readsOperand 10 = .ok (.invokevirtual 55, 3) := by decide +kernel
theorem d_Mo_readsOperand_13 : decode b_Mo_readsOperand 13 = .ok (.ifCond .ne 5, 3) := by decide +kernel
theorem d_Mo_readsOperand_16 : decode b_Mo_readsOperand 16 = .ok (.iconst 0, 1) := by decide +kernel
theorem d_Mo_readsOperand_17 : decode b_Mo_readsOperand 17 = .ok (.ireturn, 1) := by decide +kernel
theorem d_Mo_readsOperand_18 : decode b_Mo_readsOperand 18 = .ok (.aload_n 0, 1) := by decide +kernel
theorem d_Mo_readsOperand_19 : decode b_Mo_readsOperand 19 = .ok (.dup, 1) := by decide +kernel
theorem d_Mo_readsOperand_20 : decode b_Mo_readsOperand 20 = .ok (.getfield 52, 3) := by decide +kernel
theorem d_Mo_readsOperand_23 : decode b_Mo_readsOperand 23 = .ok (.iconst 1, 1) := by decide +kernel
theorem d_Mo_readsOperand_24 : decode b_Mo_readsOperand 24 = .ok (.iadd, 1) := by decide +kernel
theorem d_Mo_readsOperand_25 : decode b_Mo_readsOperand 25 = .ok (.putfield 52, 3) := by decide +kernel
theorem d_Mo_readsOperand_28 : decode b_Mo_readsOperand 28 = .ok (.iconst 1, 1) := by decide +kernel
theorem d_Mo_readsOperand_29 : decode b_Mo_readsOperand 29 = .ok (.ireturn, 1) := by decide +kernel
theorem d_Mo_readsConditions_0 : decode b_Mo_readsConditions 0 = .ok (.aload_n 0, 1) := by decide +kernel
theorem d_Mo_readsConditions_1 : decode b_Mo_readsConditions 1 = .ok (.aload_n 0, 1) := by decide +kernel
theorem d_Mo_readsConditions_2 : decode b_Mo_readsConditions 2 = .ok (.getfield 52, 3) := by decide +kernel
theorem d_Mo_readsConditions_5 : decode b_Mo_readsConditions 5 = .ok (.putfield 62, 3) := by decide +kernel
theorem d_Mo_readsConditions_8 : decode b_Mo_readsConditions 8 = .ok (.aload_n 0, 1) := by decide +kernel
theorem d_Mo_readsConditions_9 : decode b_Mo_readsConditions 9 = .ok (.aload_n 0, 1) := by decide +kernel
theorem d_Mo_readsConditions_10 : decode b_Mo_readsConditions 10 = .ok (.getfield 52, 3) := by decide +kernel
theorem d_Mo_readsConditions_13 : decode b_Mo_readsConditions 13 = .ok (.putfield 65, 3) := by decide +kernel
theorem d_Mo_readsConditions_16 : decode b_Mo_readsConditions 16 = .ok (.aload_n 0, 1) := by decide +kernel
theorem d_Mo_readsConditions_17 : decode b_Mo_readsConditions 17 = .ok (.bipush 8, 2) := by decide +kernel
theorem d_Mo_readsConditions_19 : decode b_Mo_readsConditions 19 = .ok (.invokevirtual 68, 3) := by decide +kernel
theorem d_Mo_readsConditions_22 : decode b_Mo_readsConditions 22 = .ok (.ifCond .ne 5, 3) := by decide +kernel
theorem d_Mo_readsConditions_25 : decode b_Mo_readsConditions 25 = .ok (.iconst 1, 1) := by decide +kernel
theorem d_Mo_readsConditions_26 : decode b_Mo_readsConditions 26 = .ok (.ireturn, 1) := by decide +kernel
theorem d_Mo_readsConditions_27 : decode b_Mo_readsConditions 27 = .ok (.aload_n 0, 1) := by decide +kernel
theorem d_Mo_readsConditions_28 : decode b_Mo_readsConditions 28 = .ok (.aload_n 0, 1) := by decide +kernel
theorem d_Mo_readsConditions_29 : decode b_Mo_readsConditions 29 = .ok (.getfield 52, 3) := by decide +kernel
theorem d_Mo_readsConditions_32 : decode b_Mo_readsConditions 32 = .ok (.putfield 62, 3) := by decide +kernel
theorem d_Mo_readsConditions_35 : decode b_Mo_readsConditions 35 = .ok (.iconst 0, 1) := by decide +kernel
theorem d_Mo_readsConditions_36 : decode b_Mo_readsConditions 36 = .ok (.istore_n 1, 1) := by decide +kernel
theorem d_Mo_readsConditions_37 : decode b_Mo_readsConditions 37 = .ok (.iload_n 1, 1) := by decide +kernel
theorem d_Mo_readsConditions_38 : decode b_Mo_readsConditions 38 = .ok (.bipush 8, 2) := by decide +kernel
theorem d_Mo_readsConditions_40 : decode b_Mo_readsConditions 40 = .ok (.if_icmp .ge 75, 3) := by decide +kernel
theorem d_Mo_readsConditions_43 : decode b_Mo_readsConditions 43 = .ok (.iload_n 1, 1) := by decide +kernel
theorem d_Mo_readsConditions_44 : decode b_Mo_readsConditions 44 = .ok (.ifCond .le 14, 3) := by decide +kernel
theorem d_Mo_readsConditions_47 : decode b_Mo_readsConditions 47 = .ok (.aload_n 0, 1) := by decide +kernel
theorem d_Mo_readsConditions_48 : decode b_Mo_readsConditions 48 = .ok (.bipush 9, 2) := by decide +kernel
theorem d_Mo_readsConditions_50 : decode b_Mo_readsConditions 50 = .ok (.invokevirtual 68, 3) := by decide +kernel
theorem d_Mo_readsConditions_53 : decode b_Mo_readsConditions 53 = .ok (.ifCond .ne 5, 3) := by decide +kernel
theorem d_Mo_readsConditions_56 : decode b_Mo_readsConditions 56 = .ok (.iconst 1, 1) := by decide +kernel
theorem d_Mo_readsConditions_57 : decode b_Mo_readsConditions 57 = .ok (.ireturn, 1) := by decide +kernel
theorem d_Mo_readsConditions_58 : decode b_Mo_readsConditions 58 = .ok (.aload_n 0, 1) := by decide +kernel
theorem d_Mo_readsConditions_59 : decode b_Mo_readsConditions 59 = .ok (.invokevirtual 71, 3) := by decide +kernel
theorem d_Mo_readsConditions_62 : decode b_Mo_readsConditions 62 = .ok (.ifCond .eq 37, 3) := by decide +kernel
theorem d_Mo_readsConditions_65 : decode b_Mo_readsConditions 65 = .ok (.aload_n 0, 1) := by decide +kernel
theorem d_Mo_readsConditions_66 : decode b_Mo_readsConditions 66 = .ok (.bipush 10, 2) := by decide +kernel
theorem d_Mo_readsConditions_68 : decode b_Mo_readsConditions 68 = .ok (.invokevirtual 68, 3) := by decide +kernel
theorem d_Mo_readsConditions_71 : decode b_Mo_readsConditions 71 = .ok (.ifCond .ne 21, 3) := by decide +kernel
theorem d_Mo_readsConditions_74 : decode b_Mo_readsConditions 74 = .ok (.aload_n 0, 1) := by decide +kernel
theorem d_Mo_readsConditions_75 : decode b_Mo_readsConditions 75 = .ok (.bipush 11, 2) := by decide +kernel
theorem d_Mo_readsConditions_77 : decode b_Mo_readsConditions 77 = .ok (.invokevirtual 68, 3) := by decide +kernel
theorem d_Mo_readsConditions_80 : decode b_Mo_readsConditions 80 = .ok (.ifCond .ne 12, 3) := by decide +kernel
theorem d_Mo_readsConditions_83 : decode b_Mo_readsConditions 83 = .ok (.aload_n 0, 1) := by decide +kernel
theorem d_Mo_readsConditions_84 : decode b_Mo_readsConditions 84 = .ok (.bipush 12, 2) := by decide +kernel
theorem d_Mo_readsConditions_86 : decode b_Mo_readsConditions 86 = .ok (.invokevirtual 68, 3) := by decide +kernel
theorem d_Mo_readsConditions_89 : decode b_Mo_readsConditions 89 = .ok (.ifCond .eq 10, 3) := by decide +kernel
theorem d_Mo_readsConditions_92 : decode b_Mo_readsConditions 92 = .ok (.aload_n 0, 1) := by decide +kernel
theorem d_Mo_readsConditions_93 : decode b_Mo_readsConditions 93 = .ok (.invokevirtual 71, 3) := by decide +kernel
theorem d_Mo_readsConditions_96 : decode b_Mo_readsConditions 96 = .ok (.ifCond .ne 5, 3) := by decide +kernel
theorem d_Mo_readsConditions_99 : decode b_Mo_readsConditions 99 = .ok (.iconst 0, 1) := by decide +kernel
theorem d_Mo_readsConditions_100 : decode b_Mo_readsConditions 100 = .ok (.ireturn, 1) := by decide +kernel
theorem d_Mo_readsConditions_101 : decode b_Mo_readsConditions 101 = .ok (.aload_n 0, 1) := by decide +kernel
theorem d_Mo_readsConditions_102 : decode b_Mo_readsConditions 102 = .ok (.aload_n 0, 1) := by decide +kernel
theorem d_Mo_readsConditions_103 : decode b_Mo_readsConditions 103 = .ok (.getfield 52, 3) := by decide +kernel
theorem d_Mo_readsConditions_106 : decode b_Mo_readsConditions 106 = .ok (.putfield 65, 3) := by decide +kernel
theorem d_Mo_readsConditions_109 : decode b_Mo_readsConditions 109 = .ok (.iinc 1 1, 3) := by decide +kernel
theorem d_Mo_readsConditions_112 : decode b_Mo_readsConditions 112 = .ok (.goto (-75), 3) := by decide +kernel
theorem d_Mo_readsConditions_115 : decode b_Mo_readsConditions 115 = .ok (.iconst 1, 1) := by decide +kernel
theorem d_Mo_readsConditions_116 : decode b_Mo_readsConditions 116 = .ok (.ireturn, 1) := by decide +kernel
theorem d_Mo_readsList_0 : decode b_Mo_readsList 0 = .ok (.aload_n 0, 1) := by decide +kernel
theorem d_Mo_readsList_1 : decode b_Mo_readsList 1 = .ok (.iconst 4, 1) := by decide +kernel
theorem d_Mo_readsList_2 : decode b_Mo_readsList 2 = .ok (.invokevirtual 68, 3) := by decide +kernel
theorem d_Mo_readsList_5 : decode b_Mo_readsList 5 = .ok (.ifCond .ne 11, 3) := by decide +kernel
theorem d_Mo_readsList_8 : decode b_Mo_readsList 8 = .ok (.aload_n 0, 1) := by decide +kernel
theorem d_Mo_readsList_9 : decode b_Mo_readsList 9 = .ok (.iconst 5, 1) := by decide +kernel
theorem d_Mo_readsList_10 : decode b_Mo_readsList 10 = .ok (.invokevirtual 68, 3) := by decide +kernel
theorem d_Mo_readsList_13 : decode b_Mo_readsList 13 = .ok (.ifCond .eq 5, 3) := by decide +kernel
theorem d_Mo_readsList_16 : decode b_Mo_readsList 16 = .ok (.iconst 1, 1) := by decide +kernel
theorem d_Mo_readsList_17 : decode b_Mo_readsList 17 = .ok (.ireturn, 1) := by decide +kernel
theorem d_Mo_readsList_18 : decode b_Mo_readsList 18 = .ok (.aload_n 0, 1) := by decide +kernel
theorem d_Mo_readsList_19 : decode b_Mo_readsList 19 = .ok (.bipush 6, 2) := by decide +kernel
theorem d_Mo_readsList_21 : decode b_Mo_readsList 21 = .ok (.invokevirtual 68, 3) := by decide +kernel
theorem d_Mo_readsList_24 : decode b_Mo_readsList 24 = .ok (.istore_n 1, 1) := by decide +kernel
theorem d_Mo_readsList_25 : decode b_Mo_readsList 25 = .ok (.iconst 0, 1) := by decide +kernel
theorem d_Mo_readsList_26 : decode b_Mo_readsList 26 = .ok (.istore_n 2, 1) := by decide +kernel
theorem d_Mo_readsList_27 : decode b_Mo_readsList 27 = .ok (.aload_n 0, 1) := by decide +kernel
theorem d_Mo_readsList_28 : decode b_Mo_readsList 28 = .ok (.iconst 2, 1) := by decide +kernel
theorem d_Mo_readsList_29 : decode b_Mo_readsList 29 = .ok (.invokevirtual 55, 3) := by decide +kernel
theorem d_Mo_readsList_32 : decode b_Mo_readsList 32 = .ok (.ifCond .eq 19, 3) := by decide +kernel
theorem d_Mo_readsList_35 : decode b_Mo_readsList 35 = .ok (.aload_n 0, 1) := by decide +kernel
theorem d_Mo_readsList_36 : decode b_Mo_readsList 36 = .ok (.dup, 1) := by decide +kernel
theorem d_Mo_readsList_37 : decode b_Mo_readsList 37 = .ok (.getfield 52, 3) := by decide +kernel
theorem d_Mo_readsList_40 : decode b_Mo_readsList 40 = .ok (.iconst 1, 1) := by decide +kernel
theorem d_Mo_readsList_41 : decode b_Mo_readsList 41 = .ok (.iadd, 1) := by decide +kernel
theorem d_Mo_readsList_42 : decode b_Mo_readsList 42 = .ok (.putfield 52, 3) := by decide +kernel
theorem d_Mo_readsList_45 : decode b_Mo_readsList 45 = .ok (.iinc 2 1, 3) := by decide +kernel
theorem d_Mo_readsList_48 : decode b_Mo_readsList 48 = .ok (.goto (-21), 3) := by decide +kernel
theorem d_Mo_readsList_51 : decode b_Mo_readsList 51 = .ok (.iload_n 1, 1) := by decide +kernel
theorem d_Mo_readsList_52 : decode b_Mo_readsList 52 = .ok (.ifCond .eq 16, 3) := by decide +kernel
theorem d_Mo_readsList_55 : decode b_Mo_readsList 55 = .ok (.iload_n 2, 1) := by decide +kernel
theorem d_Mo_readsList_56 : decode b_Mo_readsList 56 = .ok (.iconst 1, 1) := by decide +kernel
theorem d_Mo_readsList_57 : decode b_Mo_readsList 57 = .ok (.if_icmp .ne 7, 3) := by decide +kernel
theorem d_Mo_readsList_60 : decode b_Mo_readsList 60 = .ok (.iconst 1, 1) := by decide +kernel
theorem d_Mo_readsList_61 : decode b_Mo_readsList 61 = .ok (.goto 23, 3) := by decide +kernel
theorem d_Mo_readsList_64 : decode b_Mo_readsList 64 = .ok (.iconst 0, 1) := by decide +kernel
theorem d_Mo_readsList_65 : decode b_Mo_readsList 65 = .ok (.goto 19, 3) := by decide +kernel
theorem d_Mo_readsList_68 : decode b_Mo_readsList 68 = .ok (.iload_n 2, 1) := by decide +kernel
theorem d_Mo_readsList_69 : decode b_Mo_readsList 69 = .ok (.iconst 1, 1) := by decide +kernel
theorem d_Mo_readsList_70 : decode b_Mo_readsList 70 = .ok (.if_icmp .lt 13, 3) := by decide +kernel
theorem d_Mo_readsList_73 : decode b_Mo_readsList 73 = .ok (.iload_n 2, 1) := by decide +kernel
theorem d_Mo_readsList_74 : decode b_Mo_readsList 74 = .ok (.bipush 8, 2) := by decide +kernel
theorem d_Mo_readsList_76 : decode b_Mo_readsList 76 = .ok (.if_icmp .gt 7, 3) := by decide +kernel
theorem d_Mo_readsList_79 : decode b_Mo_readsList 79 = .ok (.iconst 1, 1) := by decide +kernel
theorem d_Mo_readsList_80 : decode b_Mo_readsList 80 = .ok (.goto 4, 3) := by decide +kernel
theorem d_Mo_readsList_83 : decode b_Mo_readsList 83 = .ok (.iconst 0, 1) := by decide +kernel
theorem d_Mo_readsList_84 : decode b_Mo_readsList 84 = .ok (.ireturn, 1) := by decide +kernel
theorem d_Mo_readsSelect_0 : decode b_Mo_readsSelect 0 = .ok (.aload_n 0, 1) := by decide +kernel
theorem d_Mo_readsSelect_1 : decode b_Mo_readsSelect 1 = .ok (.invokevirtual 75, 3) := by decide +kernel
theorem d_Mo_readsSelect_4 : decode b_Mo_readsSelect 4 = .ok (.ifCond .eq 12, 3) := by decide +kernel
theorem d_Mo_readsSelect_7 : decode b_Mo_readsSelect 7 = .ok (.aload_n 0, 1) := by decide +kernel
theorem d_Mo_readsSelect_8 : decode b_Mo_readsSelect 8 = .ok (.bipush 7, 2) := by decide +kernel
theorem d_Mo_readsSelect_10 : decode b_Mo_readsSelect 10 = .ok (.invokevirtual 68, 3) := by decide +kernel
theorem d_Mo_readsSelect_13 : decode b_Mo_readsSelect 13 = .ok (.ifCond .ne 5, 3) := by decide +kernel
theorem d_Mo_readsSelect_16 : decode b_Mo_readsSelect 16 = .ok (.iconst 0, 1) := by decide +kernel
theorem d_Mo_readsSelect_17 : decode b_Mo_readsSelect 17 = .ok (.ireturn, 1) := by decide +kernel
theorem d_Mo_readsSelect_18 : decode b_Mo_readsSelect 18 = .ok (.aload_n 0, 1) := by decide +kernel
theorem d_Mo_readsSelect_19 : decode b_Mo_readsSelect 19 = .ok (.aload_n 0, 1) := by decide +kernel
theorem d_Mo_readsSelect_20 : decode b_Mo_readsSelect 20 = .ok (.invokevirtual 78, 3) := by decide +kernel
theorem d_Mo_readsSelect_23 : decode b_Mo_readsSelect 23 = .ok (.putfield 82, 3) := by decide +kernel
theorem d_Mo_readsSelect_26 : decode b_Mo_readsSelect 26 = .ok (.aload_n 0, 1) := by decide +kernel
theorem d_Mo_readsSelect_27 : decode b_Mo_readsSelect 27 = .ok (.aload_n 0, 1) := by decide +kernel
theorem d_Mo_readsSelect_28 : decode b_Mo_readsSelect 28 = .ok (.invokevirtual 78, 3) := by decide +kernel
theorem d_Mo_readsSelect_31 : decode b_Mo_readsSelect 31 = .ok (.putfield 85, 3) := by decide +kernel
theorem d_Mo_readsSelect_34 : decode b_Mo_readsSelect 34 = .ok (.aload_n 0, 1) := by decide +kernel
theorem d_Mo_readsSelect_35 : decode b_Mo_readsSelect 35 = .ok (.getfield 82, 3) := by decide +kernel
theorem d_Mo_readsSelect_38 : decode b_Mo_readsSelect 38 = .ok (.iconst (-1), 1) := by decide +kernel
theorem d_Mo_readsSelect_39 : decode b_Mo_readsSelect 39 = .ok (.if_icmp .eq 10, 3) := by decide +kernel
theorem d_Mo_readsSelect_42 : decode b_Mo_readsSelect 42 = .ok (.aload_n 0, 1) := by decide +kernel
theorem d_Mo_readsSelect_43 : decode b_Mo_readsSelect 43 = .ok (.invokevirtual 88, 3) := by decide +kernel
theorem d_Mo_readsSelect_46 : decode b_Mo_readsSelect 46 = .ok (.ifCond .ne 5, 3) := by decide +kernel
theorem d_Mo_readsSelect_49 : decode b_Mo_readsSelect 49 = .ok (.iconst 0, 1) := by decide +kernel
theorem d_Mo_readsSelect_50 : decode b_Mo_readsSelect 50 = .ok (.ireturn, 1) := by decide +kernel
theorem d_Mo_readsSelect_51 : decode b_Mo_readsSelect 51 = .ok (.aload_n 0, 1) := by decide +kernel
theorem d_Mo_readsSelect_52 : decode b_Mo_readsSelect 52 = .ok (.aload_n 0, 1) := by decide +kernel
theorem d_Mo_readsSelect_53 : decode b_Mo_readsSelect 53 = .ok (.bipush 13, 2) := by decide +kernel
theorem d_Mo_readsSelect_55 : decode b_Mo_readsSelect 55 = .ok (.invokevirtual 68, 3) := by decide +kernel
theorem d_Mo_readsSelect_58 : decode b_Mo_readsSelect 58 = .ok (.putfield 91, 3) := by decide +kernel
theorem d_Mo_readsSelect_61 : decode b_Mo_readsSelect 61 = .ok (.iconst 1, 1) := by decide +kernel
theorem d_Mo_readsSelect_62 : decode b_Mo_readsSelect 62 = .ok (.ireturn, 1) := by decide +kernel
theorem d_Mo_reads_0 : decode b_Mo_reads 0 = .ok (.aload_n 0, 1) := by decide +kernel
theorem d_Mo_reads_1 : decode b_Mo_reads 1 = .ok (.iconst 1, 1) := by decide +kernel
theorem d_Mo_reads_2 : decode b_Mo_reads 2 = .ok (.putfield 52, 3) := by decide +kernel
theorem d_Mo_reads_5 : decode b_Mo_reads 5 = .ok (.aload_n 0, 1) := by decide +kernel
theorem d_Mo_reads_6 : decode b_Mo_reads 6 = .ok (.iconst (-1), 1) := by decide +kernel
theorem d_Mo_reads_7 : decode b_Mo_reads 7 = .ok (.putfield 85, 3) := by decide +kernel
theorem d_Mo_reads_10 : decode b_Mo_reads 10 = .ok (.aload_n 0, 1) := by decide +kernel
theorem d_Mo_reads_11 : decode b_Mo_reads 11 = .ok (.iconst 0, 1) := by decide +kernel
theorem d_Mo_reads_12 : decode b_Mo_reads 12 = .ok (.putfield 91, 3) := by decide +kernel
theorem d_Mo_reads_15 : decode b_Mo_reads 15 = .ok (.aload_n 0, 1) := by decide +kernel
theorem d_Mo_reads_16 : decode b_Mo_reads 16 = .ok (.iconst 0, 1) := by decide +kernel
theorem d_Mo_reads_17 : decode b_Mo_reads 17 = .ok (.putfield 62, 3) := by decide +kernel
theorem d_Mo_reads_20 : decode b_Mo_reads 20 = .ok (.aload_n 0, 1) := by decide +kernel
theorem d_Mo_reads_21 : decode b_Mo_reads 21 = .ok (.iconst 0, 1) := by decide +kernel
theorem d_Mo_reads_22 : decode b_Mo_reads 22 = .ok (.putfield 65, 3) := by decide +kernel
theorem d_Mo_reads_25 : decode b_Mo_reads 25 = .ok (.aload_n 0, 1) := by decide +kernel
theorem d_Mo_reads_26 : decode b_Mo_reads 26 = .ok (.getfield 49, 3) := by decide +kernel
theorem d_Mo_reads_29 : decode b_Mo_reads 29 = .ok (.ifCond .eq 12, 3) := by decide +kernel
theorem d_Mo_reads_32 : decode b_Mo_reads 32 = .ok (.aload_n 0, 1) := by decide +kernel
theorem d_Mo_reads_33 : decode b_Mo_reads 33 = .ok (.getfield 19, 3) := by decide +kernel
theorem d_Mo_reads_36 : decode b_Mo_reads 36 = .ok (.iconst 0, 1) := by decide +kernel
theorem d_Mo_reads_37 : decode b_Mo_reads 37 = .ok (.iaload, 1) := by decide +kernel
theorem d_Mo_reads_38 : decode b_Mo_reads 38 = .ok (.ifCond .eq 5, 3) := by decide +kernel
theorem d_Mo_reads_41 : decode b_Mo_reads 41 = .ok (.iconst 0, 1) := by decide +kernel
theorem d_Mo_reads_42 : decode b_Mo_reads 42 = .ok (.ireturn, 1) := by decide +kernel
theorem d_Mo_reads_43 : decode b_Mo_reads 43 = .ok (.aload_n 0, 1) := by decide +kernel
theorem d_Mo_reads_44 : decode b_Mo_reads 44 = .ok (.getfield 22, 3) := by decide +kernel
theorem d_Mo_reads_47 : decode b_Mo_reads 47 = .ok (.iconst 0, 1) := by decide +kernel
theorem d_Mo_reads_48 : decode b_Mo_reads 48 = .ok (.iaload, 1) := by decide +kernel
theorem d_Mo_reads_49 : decode b_Mo_reads 49 = .ok (.iconst 3, 1) := by decide +kernel
theorem d_Mo_reads_50 : decode b_Mo_reads 50 = .ok (.if_icmp .ne 27, 3) := by decide +kernel
theorem d_Mo_reads_53 : decode b_Mo_reads 53 = .ok (.aload_n 0, 1) := by decide +kernel
theorem d_Mo_reads_54 : decode b_Mo_reads 54 = .ok (.invokevirtual 95, 3) := by decide +kernel
theorem d_Mo_reads_57 : decode b_Mo_reads 57 = .ok (.ifCond .eq 18, 3) := by decide +kernel
theorem d_Mo_reads_60 : decode b_Mo_reads 60 = .ok (.aload_n 0, 1) := by decide +kernel
theorem d_Mo_reads_61 : decode b_Mo_reads 61 = .ok (.getfield 52, 3) := by decide +kernel
theorem d_Mo_reads_64 : decode b_Mo_reads 64 = .ok (.aload_n 0, 1) := by decide +kernel
theorem d_Mo_reads_65 : decode b_Mo_reads 65 = .ok (.getfield 49, 3) := by decide +kernel
theorem d_Mo_reads_68 : decode b_Mo_reads 68 = .ok (.if_icmp .ne 7, 3) := by decide +kernel
theorem d_Mo_reads_71 : decode b_Mo_reads 71 = .ok (.iconst 1, 1) := by decide +kernel
theorem d_Mo_reads_72 : decode b_Mo_reads 72 = .ok (.goto 4, 3) := by decide +kernel
theorem d_Mo_reads_75 : decode b_Mo_reads 75 = .ok (.iconst 0, 1) := by decide +kernel
theorem d_Mo_reads_76 : decode b_Mo_reads 76 = .ok (.ireturn, 1) := by decide +kernel
theorem d_Mo_reads_77 : decode b_Mo_reads 77 = .ok (.aload_n 0, 1) := by decide +kernel
theorem d_Mo_reads_78 : decode b_Mo_reads 78 = .ok (.aload_n 0, 1) := by decide +kernel
theorem d_Mo_reads_79 : decode b_Mo_reads 79 = .ok (.invokevirtual 78, 3) := by decide +kernel
theorem d_Mo_reads_82 : decode b_Mo_reads 82 = .ok (.putfield 82, 3) := by decide +kernel
theorem d_Mo_reads_85 : decode b_Mo_reads 85 = .ok (.aload_n 0, 1) := by decide +kernel
theorem d_Mo_reads_86 : decode b_Mo_reads 86 = .ok (.getfield 82, 3) := by decide +kernel
theorem d_Mo_reads_89 : decode b_Mo_reads 89 = .ok (.iconst (-1), 1) := by decide +kernel
theorem d_Mo_reads_90 : decode b_Mo_reads 90 = .ok (.if_icmp .ne 5, 3) := by decide +kernel
theorem d_Mo_reads_93 : decode b_Mo_reads 93 = .ok (.iconst 0, 1) := by decide +kernel
theorem d_Mo_reads_94 : decode b_Mo_reads 94 = .ok (.ireturn, 1) := by decide +kernel
theorem d_Mo_reads_95 : decode b_Mo_reads 95 = .ok (.aload_n 0, 1) := by decide +kernel
theorem d_Mo_reads_96 : decode b_Mo_reads 96 = .ok (.getfield 22, 3) := by decide +kernel
theorem d_Mo_reads_99 : decode b_Mo_reads 99 = .ok (.iconst 0, 1) := by decide +kernel
theorem d_Mo_reads_100 : decode b_Mo_reads 100 = .ok (.iaload, 1) := by decide +kernel
theorem d_Mo_reads_101 : decode b_Mo_reads 101 = .ok (.iconst 2, 1) := by decide +kernel
theorem d_Mo_reads_102 : decode b_Mo_reads 102 = .ok (.if_icmp .ne 27, 3) := by decide +kernel
theorem d_Mo_reads_105 : decode b_Mo_reads 105 = .ok (.aload_n 0, 1) := by decide +kernel
theorem d_Mo_reads_106 : decode b_Mo_reads 106 = .ok (.invokevirtual 88, 3) := by decide +kernel
theorem d_Mo_reads_109 : decode b_Mo_reads 109 = .ok (.ifCond .eq 18, 3) := by decide +kernel
theorem d_Mo_reads_112 : decode b_Mo_reads 112 = .ok (.aload_n 0, 1) := by decide +kernel
theorem d_Mo_reads_113 : decode b_Mo_reads 113 = .ok (.getfield 52, 3) := by decide +kernel
theorem d_Mo_reads_116 : decode b_Mo_reads 116 = .ok (.aload_n 0, 1) := by decide +kernel
theorem d_Mo_reads_117 : decode b_Mo_reads 117 = .ok (.getfield 49, 3) := by decide +kernel
theorem d_Mo_reads_120 : decode b_Mo_reads 120 = .ok (.if_icmp .ne 7, 3) := by decide +kernel
theorem d_Mo_reads_123 : decode b_Mo_reads 123 = .ok (.iconst 1, 1) := by decide +kernel
theorem d_Mo_reads_124 : decode b_Mo_reads 124 = .ok (.goto 4, 3) := by decide +kernel
theorem d_Mo_reads_127 : decode b_Mo_reads 127 = .ok (.iconst 0, 1) := by decide +kernel
theorem d_Mo_reads_128 : decode b_Mo_reads 128 = .ok (.ireturn, 1) := by decide +kernel
theorem d_Mo_reads_129 : decode b_Mo_reads 129 = .ok (.iconst 0, 1) := by decide +kernel
theorem d_Mo_reads_130 : decode b_Mo_reads 130 = .ok (.istore_n 1, 1) := by decide +kernel
theorem d_Mo_reads_131 : decode b_Mo_reads 131 = .ok (.aload_n 0, 1) := by decide +kernel
theorem d_Mo_reads_132 : decode b_Mo_reads 132 = .ok (.iconst 3, 1) := by decide +kernel
theorem d_Mo_reads_133 : decode b_Mo_reads 133 = .ok (.invokevirtual 55, 3) := by decide +kernel
theorem d_Mo_reads_136 : decode b_Mo_reads 136 = .ok (.ifCond .eq 19, 3) := by decide +kernel
theorem d_Mo_reads_139 : decode b_Mo_reads 139 = .ok (.aload_n 0, 1) := by decide +kernel
theorem d_Mo_reads_140 : decode b_Mo_reads 140 = .ok (.dup, 1) := by decide +kernel
theorem d_Mo_reads_141 : decode b_Mo_reads 141 = .ok (.getfield 52, 3) := by decide +kernel
theorem d_Mo_reads_144 : decode b_Mo_reads 144 = .ok (.iconst 1, 1) := by decide +kernel
theorem d_Mo_reads_145 : decode b_Mo_reads 145 = .ok (.iadd, 1) := by decide +kernel
theorem d_Mo_reads_146 : decode b_Mo_reads 146 = .ok (.putfield 52, 3) := by decide +kernel
theorem d_Mo_reads_149 : decode b_Mo_reads 149 = .ok (.iinc 1 1, 3) := by decide +kernel
theorem d_Mo_reads_152 : decode b_Mo_reads 152 = .ok (.goto (-21), 3) := by decide +kernel
theorem d_Mo_reads_155 : decode b_Mo_reads 155 = .ok (.aload_n 0, 1) := by decide +kernel
theorem d_Mo_reads_156 : decode b_Mo_reads 156 = .ok (.getfield 52, 3) := by decide +kernel
theorem d_Mo_reads_159 : decode b_Mo_reads 159 = .ok (.aload_n 0, 1) := by decide +kernel
theorem d_Mo_reads_160 : decode b_Mo_reads 160 = .ok (.getfield 49, 3) := by decide +kernel
theorem d_Mo_reads_163 : decode b_Mo_reads 163 = .ok (.if_icmp .ne 38, 3) := by decide +kernel
theorem d_Mo_reads_166 : decode b_Mo_reads 166 = .ok (.aload_n 0, 1) := by decide +kernel
theorem d_Mo_reads_167 : decode b_Mo_reads 167 = .ok (.getfield 22, 3) := by decide +kernel
theorem d_Mo_reads_170 : decode b_Mo_reads 170 = .ok (.iconst 0, 1) := by decide +kernel
theorem d_Mo_reads_171 : decode b_Mo_reads 171 = .ok (.iaload, 1) := by decide +kernel
theorem d_Mo_reads_172 : decode b_Mo_reads 172 = .ok (.ifCond .ne 11, 3) := by decide +kernel
theorem d_Mo_reads_175 : decode b_Mo_reads 175 = .ok (.iload_n 1, 1) := by decide +kernel
theorem d_Mo_reads_176 : decode b_Mo_reads 176 = .ok (.iconst 1, 1) := by decide +kernel
theorem d_Mo_reads_177 : decode b_Mo_reads 177 = .ok (.if_icmp .ne 24, 3) := by decide +kernel
theorem d_Mo_reads_180 : decode b_Mo_reads 180 = .ok (.goto 17, 3) := by decide +kernel
theorem d_Mo_reads_183 : decode b_Mo_reads 183 = .ok (.aload_n 0, 1) := by decide +kernel
theorem d_Mo_reads_184 : decode b_Mo_reads 184 = .ok (.getfield 22, 3) := by decide +kernel
theorem d_Mo_reads_187 : decode b_Mo_reads 187 = .ok (.iconst 0, 1) := by decide +kernel
theorem d_Mo_reads_188 : decode b_Mo_reads 188 = .ok (.iaload, 1) := by decide +kernel
theorem d_Mo_reads_189 : decode b_Mo_reads 189 = .ok (.iconst 1, 1) := by decide +kernel
theorem d_Mo_reads_190 : decode b_Mo_reads 190 = .ok (.if_icmp .ne 11, 3) := by decide +kernel
theorem d_Mo_reads_193 : decode b_Mo_reads 193 = .ok (.iload_n 1, 1) := by decide +kernel
theorem d_Mo_reads_194 : decode b_Mo_reads 194 = .ok (.ifCond .le 7, 3) := by decide +kernel
theorem d_Mo_reads_197 : decode b_Mo_reads 197 = .ok (.iconst 1, 1) := by decide +kernel
theorem d_Mo_reads_198 : decode b_Mo_reads 198 = .ok (.goto 4, 3) := by decide +kernel
theorem d_Mo_reads_201 : decode b_Mo_reads 201 = .ok (.iconst 0, 1) := by decide +kernel
theorem d_Mo_reads_202 : decode b_Mo_reads 202 = .ok (.ireturn, 1) := by decide +kernel
