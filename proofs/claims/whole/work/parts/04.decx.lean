theorem d_X_init_0 : decode b_X_init 0 = .ok (.aload_n 0, 1) := by decide +kernel
theorem d_X_init_1 : decode b_X_init 1 = .ok (.invokespecial 3, 3) := by decide +kernel
theorem d_X_init_4 : decode b_X_init 4 = .ok (.aload_n 0, 1) := by decide +kernel
theorem d_X_init_5 : decode b_X_init 5 = .ok (.sipush 300, 3) := by decide +kernel
theorem d_X_init_8 : decode b_X_init 8 = .ok (.newarray .byte, 2) := by decide +kernel
theorem d_X_init_10 : decode b_X_init 10 = .ok (.putfield 9, 3) := by decide +kernel
theorem d_X_init_13 : decode b_X_init 13 = .ok (.aload_n 0, 1) := by decide +kernel
theorem d_X_init_14 : decode b_X_init 14 = .ok (.iconst 0, 1) := by decide +kernel
theorem d_X_init_15 : decode b_X_init 15 = .ok (.putfield 13, 3) := by decide +kernel
theorem d_X_init_18 : decode b_X_init 18 = .ok (.aload_n 0, 1) := by decide +kernel
theorem d_X_init_19 : decode b_X_init 19 = .ok (.sipush 3624, 3) := by decide +kernel
theorem d_X_init_22 : decode b_X_init 22 = .ok (.newarray .byte, 2) := by decide +kernel
theorem d_X_init_24 : decode b_X_init 24 = .ok (.putfield 17, 3) := by decide +kernel
theorem d_X_init_27 : decode b_X_init 27 = .ok (.aload_n 0, 1) := by decide +kernel
theorem d_X_init_28 : decode b_X_init 28 = .ok (.sipush 151, 3) := by decide +kernel
theorem d_X_init_31 : decode b_X_init 31 = .ok (.newarray .int, 2) := by decide +kernel
theorem d_X_init_33 : decode b_X_init 33 = .ok (.putfield 20, 3) := by decide +kernel
theorem d_X_init_36 : decode b_X_init 36 = .ok (.aload_n 0, 1) := by decide +kernel
theorem d_X_init_37 : decode b_X_init 37 = .ok (.iconst 0, 1) := by decide +kernel
theorem d_X_init_38 : decode b_X_init 38 = .ok (.putfield 24, 3) := by decide +kernel
theorem d_X_init_41 : decode b_X_init 41 = .ok (.aload_n 0, 1) := by decide +kernel
theorem d_X_init_42 : decode b_X_init 42 = .ok (.bipush 25, 2) := by decide +kernel
theorem d_X_init_44 : decode b_X_init 44 = .ok (.newarray .int, 2) := by decide +kernel
theorem d_X_init_46 : decode b_X_init 46 = .ok (.putfield 27, 3) := by decide +kernel
theorem d_X_init_49 : decode b_X_init 49 = .ok (.return_, 1) := by decide +kernel
theorem d_X_feed_0 : decode b_X_feed 0 = .ok (.aload_n 0, 1) := by decide +kernel
theorem d_X_feed_1 : decode b_X_feed 1 = .ok (.getfield 13, 3) := by decide +kernel
theorem d_X_feed_4 : decode b_X_feed 4 = .ok (.bipush 20, 2) := by decide +kernel
theorem d_X_feed_6 : decode b_X_feed 6 = .ok (.iadd, 1) := by decide +kernel
theorem d_X_feed_7 : decode b_X_feed 7 = .ok (.sipush 300, 3) := by decide +kernel
theorem d_X_feed_10 : decode b_X_feed 10 = .ok (.if_icmp .le 6, 3) := by decide +kernel
theorem d_X_feed_13 : decode b_X_feed 13 = .ok (.bipush (-3), 2) := by decide +kernel
theorem d_X_feed_15 : decode b_X_feed 15 = .ok (.ireturn, 1) := by decide +kernel
theorem d_X_feed_16 : decode b_X_feed 16 = .ok (.aload_n 0, 1) := by decide +kernel
theorem d_X_feed_17 : decode b_X_feed 17 = .ok (.iload_n 1, 1) := by decide +kernel
theorem d_X_feed_18 : decode b_X_feed 18 = .ok (.invokevirtual 30, 3) := by decide +kernel
theorem d_X_feed_21 : decode b_X_feed 21 = .ok (.aload_n 0, 1) := by decide +kernel
theorem d_X_feed_22 : decode b_X_feed 22 = .ok (.iload_n 2, 1) := by decide +kernel
theorem d_X_feed_23 : decode b_X_feed 23 = .ok (.invokevirtual 30, 3) := by decide +kernel
theorem d_X_feed_26 : decode b_X_feed 26 = .ok (.aload_n 0, 1) := by decide +kernel
theorem d_X_feed_27 : decode b_X_feed 27 = .ok (.iload_n 3, 1) := by decide +kernel
theorem d_X_feed_28 : decode b_X_feed 28 = .ok (.invokevirtual 30, 3) := by decide +kernel
theorem d_X_feed_31 : decode b_X_feed 31 = .ok (.aload_n 0, 1) := by decide +kernel
theorem d_X_feed_32 : decode b_X_feed 32 = .ok (.iload 4, 2) := by decide +kernel
theorem d_X_feed_34 : decode b_X_feed 34 = .ok (.invokevirtual 30, 3) := by decide +kernel
theorem d_X_feed_37 : decode b_X_feed 37 = .ok (.aload_n 0, 1) := by decide +kernel
theorem d_X_feed_38 : decode b_X_feed 38 = .ok (.iload 5, 2) := by decide +kernel
theorem d_X_feed_40 : decode b_X_feed 40 = .ok (.invokevirtual 30, 3) := by decide +kernel
theorem d_X_feed_43 : decode b_X_feed 43 = .ok (.aload_n 0, 1) := by decide +kernel
theorem d_X_feed_44 : decode b_X_feed 44 = .ok (.getfield 13, 3) := by decide +kernel
theorem d_X_feed_47 : decode b_X_feed 47 = .ok (.ireturn, 1) := by decide +kernel
theorem d_X_end_0 : decode b_X_end 0 = .ok (.iload_n 1, 1) := by decide +kernel
theorem d_X_end_1 : decode b_X_end 1 = .ok (.ifCond .lt 11, 3) := by decide +kernel
theorem d_X_end_4 : decode b_X_end 4 = .ok (.iload_n 1, 1) := by decide +kernel
theorem d_X_end_5 : decode b_X_end 5 = .ok (.aload_n 0, 1) := by decide +kernel
theorem d_X_end_6 : decode b_X_end 6 = .ok (.getfield 13, 3) := by decide +kernel
theorem d_X_end_9 : decode b_X_end 9 = .ok (.if_icmp .le 5, 3) := by decide +kernel
theorem d_X_end_12 : decode b_X_end 12 = .ok (.iconst (-1), 1) := by decide +kernel
theorem d_X_end_13 : decode b_X_end 13 = .ok (.ireturn, 1) := by decide +kernel
theorem d_X_end_14 : decode b_X_end 14 = .ok (.aload_n 0, 1) := by decide +kernel
theorem d_X_end_15 : decode b_X_end 15 = .ok (.iload_n 1, 1) := by decide +kernel
theorem d_X_end_16 : decode b_X_end 16 = .ok (.putfield 13, 3) := by decide +kernel
theorem d_X_end_19 : decode b_X_end 19 = .ok (.iload_n 1, 1) := by decide +kernel
theorem d_X_end_20 : decode b_X_end 20 = .ok (.ireturn, 1) := by decide +kernel
theorem d_X_read_0 : decode b_X_read 0 = .ok (.aload_n 0, 1) := by decide +kernel
theorem d_X_read_1 : decode b_X_read 1 = .ok (.iconst 0, 1) := by decide +kernel
theorem d_X_read_2 : decode b_X_read 2 = .ok (.putfield 24, 3) := by decide +kernel
theorem d_X_read_5 : decode b_X_read 5 = .ok (.iconst 0, 1) := by decide +kernel
theorem d_X_read_6 : decode b_X_read 6 = .ok (.istore_n 1, 1) := by decide +kernel
theorem d_X_read_7 : decode b_X_read 7 = .ok (.iconst 0, 1) := by decide +kernel
theorem d_X_read_8 : decode b_X_read 8 = .ok (.istore_n 2, 1) := by decide +kernel
theorem d_X_read_9 : decode b_X_read 9 = .ok (.iload_n 2, 1) := by decide +kernel
theorem d_X_read_10 : decode b_X_read 10 = .ok (.aload_n 0, 1) := by decide +kernel
theorem d_X_read_11 : decode b_X_read 11 = .ok (.getfield 13, 3) := by decide +kernel
theorem d_X_read_14 : decode b_X_read 14 = .ok (.if_icmp .gt 44, 3) := by decide +kernel
theorem d_X_read_17 : decode b_X_read 17 = .ok (.iload_n 2, 1) := by decide +kernel
theorem d_X_read_18 : decode b_X_read 18 = .ok (.aload_n 0, 1) := by decide +kernel
theorem d_X_read_19 : decode b_X_read 19 = .ok (.getfield 13, 3) := by decide +kernel
theorem d_X_read_22 : decode b_X_read 22 = .ok (.if_icmp .eq 15, 3) := by decide +kernel
theorem d_X_read_25 : decode b_X_read 25 = .ok (.aload_n 0, 1) := by decide +kernel
theorem d_X_read_26 : decode b_X_read 26 = .ok (.getfield 9, 3) := by decide +kernel
theorem d_X_read_29 : decode b_X_read 29 = .ok (.iload_n 2, 1) := by decide +kernel
theorem d_X_read_30 : decode b_X_read 30 = .ok (.baload, 1) := by decide +kernel
theorem d_X_read_31 : decode b_X_read 31 = .ok (.invokestatic 34, 3) := by decide +kernel
theorem d_X_read_34 : decode b_X_read 34 = .ok (.ifCond .ne 18, 3) := by decide +kernel
theorem d_X_read_37 : decode b_X_read 37 = .ok (.iload_n 1, 1) := by decide +kernel
theorem d_X_read_38 : decode b_X_read 38 = .ok (.iload_n 2, 1) := by decide +kernel
theorem d_X_read_39 : decode b_X_read 39 = .ok (.if_icmp .ge 9, 3) := by decide +kernel
theorem d_X_read_42 : decode b_X_read 42 = .ok (.aload_n 0, 1) := by decide +kernel
theorem d_X_read_43 : decode b_X_read 43 = .ok (.iload_n 1, 1) := by decide +kernel
theorem d_X_read_44 : decode b_X_read 44 = .ok (.iload_n 2, 1) := by decide +kernel
theorem d_X_read_45 : decode b_X_read 45 = .ok (.invokevirtual 38, 3) := by decide +kernel
theorem d_X_read_48 : decode b_X_read 48 = .ok (.iload_n 2, 1) := by decide +kernel
theorem d_X_read_49 : decode b_X_read 49 = .ok (.iconst 1, 1) := by decide +kernel
theorem d_X_read_50 : decode b_X_read 50 = .ok (.iadd, 1) := by decide +kernel
theorem d_X_read_51 : decode b_X_read 51 = .ok (.istore_n 1, 1) := by decide +kernel
theorem d_X_read_52 : decode b_X_read 52 = .ok (.iinc 2 1, 3) := by decide +kernel
theorem d_X_read_55 : decode b_X_read 55 = .ok (.goto (-46), 3) := by decide +kernel
theorem d_X_read_58 : decode b_X_read 58 = .ok (.aload_n 0, 1) := by decide +kernel
theorem d_X_read_59 : decode b_X_read 59 = .ok (.iconst 0, 1) := by decide +kernel
theorem d_X_read_60 : decode b_X_read 60 = .ok (.putfield 13, 3) := by decide +kernel
theorem d_X_read_63 : decode b_X_read 63 = .ok (.aload_n 0, 1) := by decide +kernel
theorem d_X_read_64 : decode b_X_read 64 = .ok (.getfield 24, 3) := by decide +kernel
theorem d_X_read_67 : decode b_X_read 67 = .ok (.ireturn, 1) := by decide +kernel
theorem d_X_sign_0 : decode b_X_sign 0 = .ok (.aload_n 0, 1) := by decide +kernel
theorem d_X_sign_1 : decode b_X_sign 1 = .ok (.iload_n 1, 1) := by decide +kernel
theorem d_X_sign_2 : decode b_X_sign 2 = .ok (.invokevirtual 42, 3) := by decide +kernel
theorem d_X_sign_5 : decode b_X_sign 5 = .ok (.ifCond .eq 18, 3) := by decide +kernel
theorem d_X_sign_8 : decode b_X_sign 8 = .ok (.iload_n 2, 1) := by decide +kernel
theorem d_X_sign_9 : decode b_X_sign 9 = .ok (.iconst (-1), 1) := by decide +kernel
theorem d_X_sign_10 : decode b_X_sign 10 = .ok (.if_icmp .lt 13, 3) := by decide +kernel
theorem d_X_sign_13 : decode b_X_sign 13 = .ok (.iload_n 2, 1) := by decide +kernel
theorem d_X_sign_14 : decode b_X_sign 14 = .ok (.aload_n 0, 1) := by decide +kernel
theorem d_X_sign_15 : decode b_X_sign 15 = .ok (.getfield 20, 3) := by decide +kernel
theorem d_X_sign_18 : decode b_X_sign 18 = .ok (.iload_n 1, 1) := by decide +kernel
theorem d_X_sign_19 : decode b_X_sign 19 = .ok (.iaload, 1) := by decide +kernel
theorem d_X_sign_20 : decode b_X_sign 20 = .ok (.if_icmp .lt 6, 3) := by decide +kernel
theorem d_X_sign_23 : decode b_X_sign 23 = .ok (.bipush (-2), 2) := by decide +kernel
theorem d_X_sign_25 : decode b_X_sign 25 = .ok (.ireturn, 1) := by decide +kernel
theorem d_X_sign_26 : decode b_X_sign 26 = .ok (.iload_n 2, 1) := by decide +kernel
theorem d_X_sign_27 : decode b_X_sign 27 = .ok (.iconst (-1), 1) := by decide +kernel
theorem d_X_sign_28 : decode b_X_sign 28 = .ok (.if_icmp .ne 12, 3) := by decide +kernel
theorem d_X_sign_31 : decode b_X_sign 31 = .ok (.aload_n 0, 1) := by decide +kernel
theorem d_X_sign_32 : decode b_X_sign 32 = .ok (.getfield 20, 3) := by decide +kernel
theorem d_X_sign_35 : decode b_X_sign 35 = .ok (.iload_n 1, 1) := by decide +kernel
theorem d_X_sign_36 : decode b_X_sign 36 = .ok (.iaload, 1) := by decide +kernel
theorem d_X_sign_37 : decode b_X_sign 37 = .ok (.goto 9, 3) := by decide +kernel
theorem d_X_sign_40 : decode b_X_sign 40 = .ok (.aload_n 0, 1) := by decide +kernel
theorem d_X_sign_41 : decode b_X_sign 41 = .ok (.iload_n 1, 1) := by decide +kernel
theorem d_X_sign_42 : decode b_X_sign 42 = .ok (.iload_n 2, 1) := by decide +kernel
theorem d_X_sign_43 : decode b_X_sign 43 = .ok (.invokevirtual 46, 3) := by decide +kernel
theorem d_X_sign_46 : decode b_X_sign 46 = .ok (.ireturn, 1) := by decide +kernel
theorem d_X_different_0 : decode b_X_different 0 = .ok (.iconst 0, 1) := by decide +kernel
theorem d_X_different_1 : decode b_X_different 1 = .ok (.istore_n 1, 1) := by decide +kernel
theorem d_X_different_2 : decode b_X_different 2 = .ok (.iconst 0, 1) := by decide +kernel
theorem d_X_different_3 : decode b_X_different 3 = .ok (.istore_n 2, 1) := by decide +kernel
theorem d_X_different_4 : decode b_X_different 4 = .ok (.iload_n 2, 1) := by decide +kernel
theorem d_X_different_5 : decode b_X_different 5 = .ok (.aload_n 0, 1) := by decide +kernel
theorem d_X_different_6 : decode b_X_different 6 = .ok (.getfield 24, 3) := by decide +kernel
theorem d_X_different_9 : decode b_X_different 9 = .ok (.if_icmp .ge 21, 3) := by decide +kernel
theorem d_X_different_12 : decode b_X_different 12 = .ok (.aload_n 0, 1) := by decide +kernel
theorem d_X_different_13 : decode b_X_different 13 = .ok (.iload_n 2, 1) := by decide +kernel
theorem d_X_different_14 : decode b_X_different 14 = .ok (.invokevirtual 50, 3) := by decide +kernel
theorem d_X_different_17 : decode b_X_different 17 = .ok (.iload_n 2, 1) := by decide +kernel
theorem d_X_different_18 : decode b_X_different 18 = .ok (.if_icmp .ne 6, 3) := by decide +kernel
theorem d_X_different_21 : decode b_X_different 21 = .ok (.iinc 1 1, 3) := by decide +kernel
theorem d_X_different_24 : decode b_X_different 24 = .ok (.iinc 2 1, 3) := by decide +kernel
theorem d_X_different_27 : decode b_X_different 27 = .ok (.goto (-23), 3) := by decide +kernel
theorem d_X_different_30 : decode b_X_different 30 = .ok (.iload_n 1, 1) := by decide +kernel
theorem d_X_different_31 : decode b_X_different 31 = .ok (.ireturn, 1) := by decide +kernel
theorem d_X_first_0 : decode b_X_first 0 = .ok (.aload_n 0, 1) := by decide +kernel
theorem d_X_first_1 : decode b_X_first 1 = .ok (.iload_n 1, 1) := by decide +kernel
theorem d_X_first_2 : decode b_X_first 2 = .ok (.invokevirtual 42, 3) := by decide +kernel
theorem d_X_first_5 : decode b_X_first 5 = .ok (.ifCond .eq 11, 3) := by decide +kernel
theorem d_X_first_8 : decode b_X_first 8 = .ok (.aload_n 0, 1) := by decide +kernel
theorem d_X_first_9 : decode b_X_first 9 = .ok (.iload_n 1, 1) := by decide +kernel
theorem d_X_first_10 : decode b_X_first 10 = .ok (.invokevirtual 50, 3) := by decide +kernel
theorem d_X_first_13 : decode b_X_first 13 = .ok (.goto 5, 3) := by decide +kernel
theorem d_X_first_16 : decode b_X_first 16 = .ok (.bipush (-2), 2) := by decide +kernel
theorem d_X_first_18 : decode b_X_first 18 = .ok (.ireturn, 1) := by decide +kernel
theorem d_X_compare_0 : decode b_X_compare 0 = .ok (.aload_n 0, 1) := by decide +kernel
theorem d_X_compare_1 : decode b_X_compare 1 = .ok (.iload_n 1, 1) := by decide +kernel
theorem d_X_compare_2 : decode b_X_compare 2 = .ok (.invokevirtual 42, 3) := by decide +kernel
theorem d_X_compare_5 : decode b_X_compare 5 = .ok (.ifCond .eq 20, 3) := by decide +kernel
theorem d_X_compare_8 : decode b_X_compare 8 = .ok (.aload_n 0, 1) := by decide +kernel
theorem d_X_compare_9 : decode b_X_compare 9 = .ok (.iload_n 2, 1) := by decide +kernel
theorem d_X_compare_10 : decode b_X_compare 10 = .ok (.invokevirtual 42, 3) := by decide +kernel
theorem d_X_compare_13 : decode b_X_compare 13 = .ok (.ifCond .eq 12, 3) := by decide +kernel
theorem d_X_compare_16 : decode b_X_compare 16 = .ok (.aload_n 0, 1) := by decide +kernel
theorem d_X_compare_17 : decode b_X_compare 17 = .ok (.iload_n 1, 1) := by decide +kernel
theorem d_X_compare_18 : decode b_X_compare 18 = .ok (.iload_n 2, 1) := by decide +kernel
theorem d_X_compare_19 : decode b_X_compare 19 = .ok (.invokevirtual 54, 3) := by decide +kernel
theorem d_X_compare_22 : decode b_X_compare 22 = .ok (.goto 5, 3) := by decide +kernel
theorem d_X_compare_25 : decode b_X_compare 25 = .ok (.bipush (-2), 2) := by decide +kernel
theorem d_X_compare_27 : decode b_X_compare 27 = .ok (.ireturn, 1) := by decide +kernel
theorem d_X_apart_0 : decode b_X_apart 0 = .ok (.aload_n 0, 1) := by decide +kernel
theorem d_X_apart_1 : decode b_X_apart 1 = .ok (.iload_n 1, 1) := by decide +kernel
theorem d_X_apart_2 : decode b_X_apart 2 = .ok (.invokevirtual 42, 3) := by decide +kernel
theorem d_X_apart_5 : decode b_X_apart 5 = .ok (.ifCond .ne 6, 3) := by decide +kernel
theorem d_X_apart_8 : decode b_X_apart 8 = .ok (.bipush (-2), 2) := by decide +kernel
theorem d_X_apart_10 : decode b_X_apart 10 = .ok (.ireturn, 1) := by decide +kernel
theorem d_X_apart_11 : decode b_X_apart 11 = .ok (.aload_n 0, 1) := by decide +kernel
theorem d_X_apart_12 : decode b_X_apart 12 = .ok (.invokevirtual 57, 3) := by decide +kernel
theorem d_X_apart_15 : decode b_X_apart 15 = .ok (.ifCond .eq 14, 3) := by decide +kernel
theorem d_X_apart_18 : decode b_X_apart 18 = .ok (.aload_n 0, 1) := by decide +kernel
theorem d_X_apart_19 : decode b_X_apart 19 = .ok (.iload_n 1, 1) := by decide +kernel
theorem d_X_apart_20 : decode b_X_apart 20 = .ok (.sipush 150, 3) := by decide +kernel
theorem d_X_apart_23 : decode b_X_apart 23 = .ok (.invokevirtual 61, 3) := by decide +kernel
theorem d_X_apart_26 : decode b_X_apart 26 = .ok (.goto 4, 3) := by decide +kernel
theorem d_X_apart_29 : decode b_X_apart 29 = .ok (.iconst (-1), 1) := by decide +kernel
theorem d_X_apart_30 : decode b_X_apart 30 = .ok (.ireturn, 1) := by decide +kernel
theorem d_X_nearest_0 : decode b_X_nearest 0 = .ok (.aload_n 0, 1) := by decide +kernel
theorem d_X_nearest_1 : decode b_X_nearest 1 = .ok (.invokevirtual 57, 3) := by decide +kernel
theorem d_X_nearest_4 : decode b_X_nearest 4 = .ok (.ifCond .ne 5, 3) := by decide +kernel
theorem d_X_nearest_7 : decode b_X_nearest 7 = .ok (.iconst (-1), 1) := by decide +kernel
theorem d_X_nearest_8 : decode b_X_nearest 8 = .ok (.ireturn, 1) := by decide +kernel
theorem d_X_nearest_9 : decode b_X_nearest 9 = .ok (.bipush (-2), 2) := by decide +kernel
theorem d_X_nearest_11 : decode b_X_nearest 11 = .ok (.istore_n 1, 1) := by decide +kernel
theorem d_X_nearest_12 : decode b_X_nearest 12 = .ok (.bipush 25, 2) := by decide +kernel
theorem d_X_nearest_14 : decode b_X_nearest 14 = .ok (.istore_n 2, 1) := by decide +kernel
theorem d_X_nearest_15 : decode b_X_nearest 15 = .ok (.iconst 0, 1) := by decide +kernel
theorem d_X_nearest_16 : decode b_X_nearest 16 = .ok (.istore_n 3, 1) := by decide +kernel
theorem d_X_nearest_17 : decode b_X_nearest 17 = .ok (.iload_n 3, 1) := by decide +kernel
theorem d_X_nearest_18 : decode b_X_nearest 18 = .ok (.aload_n 0, 1) := by decide +kernel
theorem d_X_nearest_19 : decode b_X_nearest 19 = .ok (.getfield 24, 3) := by decide +kernel
theorem d_X_nearest_22 : decode b_X_nearest 22 = .ok (.if_icmp .ge 30, 3) := by decide +kernel
theorem d_X_nearest_25 : decode b_X_nearest 25 = .ok (.aload_n 0, 1) := by decide +kernel
theorem d_X_nearest_26 : decode b_X_nearest 26 = .ok (.iload_n 3, 1) := by decide +kernel
theorem d_X_nearest_27 : decode b_X_nearest 27 = .ok (.sipush 150, 3) := by decide +kernel
theorem d_X_nearest_30 : decode b_X_nearest 30 = .ok (.invokevirtual 61, 3) := by decide +kernel
theorem d_X_nearest_33 : decode b_X_nearest 33 = .ok (.istore 4, 2) := by decide +kernel
theorem d_X_nearest_35 : decode b_X_nearest 35 = .ok (.iload 4, 2) := by decide +kernel
theorem d_X_nearest_37 : decode b_X_nearest 37 = .ok (.iload_n 2, 1) := by decide +kernel
theorem d_X_nearest_38 : decode b_X_nearest 38 = .ok (.if_icmp .ge 8, 3) := by decide +kernel
theorem d_X_nearest_41 : decode b_X_nearest 41 = .ok (.iload 4, 2) := by decide +kernel
theorem d_X_nearest_43 : decode b_X_nearest 43 = .ok (.istore_n 2, 1) := by decide +kernel
theorem d_X_nearest_44 : decode b_X_nearest 44 = .ok (.iload_n 3, 1) := by decide +kernel
theorem d_X_nearest_45 : decode b_X_nearest 45 = .ok (.istore_n 1, 1) := by decide +kernel
theorem d_X_nearest_46 : decode b_X_nearest 46 = .ok (.iinc 3 1, 3) := by decide +kernel
theorem d_X_nearest_49 : decode b_X_nearest 49 = .ok (.goto (-32), 3) := by decide +kernel
theorem d_X_nearest_52 : decode b_X_nearest 52 = .ok (.iload_n 1, 1) := by decide +kernel
theorem d_X_nearest_53 : decode b_X_nearest 53 = .ok (.ireturn, 1) := by decide +kernel
theorem d_X_plain_0 : decode b_X_plain 0 = .ok (.aload_n 0, 1) := by decide +kernel
theorem d_X_plain_1 : decode b_X_plain 1 = .ok (.invokevirtual 64, 3) := by decide +kernel
theorem d_X_plain_4 : decode b_X_plain 4 = .ok (.ifCond .eq 17, 3) := by decide +kernel
theorem d_X_plain_7 : decode b_X_plain 7 = .ok (.aload_n 0, 1) := by decide +kernel
theorem d_X_plain_8 : decode b_X_plain 8 = .ok (.getfield 24, 3) := by decide +kernel
theorem d_X_plain_11 : decode b_X_plain 11 = .ok (.sipush 150, 3) := by decide +kernel
theorem d_X_plain_14 : decode b_X_plain 14 = .ok (.if_icmp .ge 7, 3) := by decide +kernel
theorem d_X_plain_17 : decode b_X_plain 17 = .ok (.iconst 1, 1) := by decide +kernel
theorem d_X_plain_18 : decode b_X_plain 18 = .ok (.goto 4, 3) := by decide +kernel
theorem d_X_plain_21 : decode b_X_plain 21 = .ok (.iconst 0, 1) := by decide +kernel
theorem d_X_plain_22 : decode b_X_plain 22 = .ok (.istore_n 1, 1) := by decide +kernel
theorem d_X_plain_23 : decode b_X_plain 23 = .ok (.iload_n 1, 1) := by decide +kernel
theorem d_X_plain_24 : decode b_X_plain 24 = .ok (.ifCond .eq 26, 3) := by decide +kernel
theorem d_X_plain_27 : decode b_X_plain 27 = .ok (.aload_n 0, 1) := by decide +kernel
theorem d_X_plain_28 : decode b_X_plain 28 = .ok (.aload_n 0, 1) := by decide +kernel
theorem d_X_plain_29 : decode b_X_plain 29 = .ok (.getfield 24, 3) := by decide +kernel
theorem d_X_plain_32 : decode b_X_plain 32 = .ok (.iconst 0, 1) := by decide +kernel
theorem d_X_plain_33 : decode b_X_plain 33 = .ok (.aload_n 0, 1) := by decide +kernel
theorem d_X_plain_34 : decode b_X_plain 34 = .ok (.getfield 13, 3) := by decide +kernel
theorem d_X_plain_37 : decode b_X_plain 37 = .ok (.invokevirtual 67, 3) := by decide +kernel
theorem d_X_plain_40 : decode b_X_plain 40 = .ok (.aload_n 0, 1) := by decide +kernel
theorem d_X_plain_41 : decode b_X_plain 41 = .ok (.dup, 1) := by decide +kernel
theorem d_X_plain_42 : decode b_X_plain 42 = .ok (.getfield 24, 3) := by decide +kernel
theorem d_X_plain_45 : decode b_X_plain 45 = .ok (.iconst 1, 1) := by decide +kernel
theorem d_X_plain_46 : decode b_X_plain 46 = .ok (.iadd, 1) := by decide +kernel
theorem d_X_plain_47 : decode b_X_plain 47 = .ok (.putfield 24, 3) := by decide +kernel
theorem d_X_plain_50 : decode b_X_plain 50 = .ok (.aload_n 0, 1) := by decide +kernel
theorem d_X_plain_51 : decode b_X_plain 51 = .ok (.iconst 0, 1) := by decide +kernel
theorem d_X_plain_52 : decode b_X_plain 52 = .ok (.putfield 13, 3) := by decide +kernel
theorem d_X_plain_55 : decode b_X_plain 55 = .ok (.iload_n 1, 1) := by decide +kernel
theorem d_X_plain_56 : decode b_X_plain 56 = .ok (.ifCond .eq 10, 3) := by decide +kernel
theorem d_X_plain_59 : decode b_X_plain 59 = .ok (.aload_n 0, 1) := by decide +kernel
theorem d_X_plain_60 : decode b_X_plain 60 = .ok (.getfield 24, 3) := by decide +kernel
theorem d_X_plain_63 : decode b_X_plain 63 = .ok (.goto 4, 3) := by decide +kernel
theorem d_X_plain_66 : decode b_X_plain 66 = .ok (.iconst (-1), 1) := by decide +kernel
theorem d_X_plain_67 : decode b_X_plain 67 = .ok (.ireturn, 1) := by decide +kernel
theorem d_X_putFour_0 : decode b_X_putFour 0 = .ok (.bipush 24, 2) := by decide +kernel
theorem d_X_putFour_2 : decode b_X_putFour 2 = .ok (.istore_n 2, 1) := by decide +kernel
theorem d_X_putFour_3 : decode b_X_putFour 3 = .ok (.iload_n 2, 1) := by decide +kernel
theorem d_X_putFour_4 : decode b_X_putFour 4 = .ok (.ifCond .lt 35, 3) := by decide +kernel
theorem d_X_putFour_7 : decode b_X_putFour 7 = .ok (.aload_n 0, 1) := by decide +kernel
theorem d_X_putFour_8 : decode b_X_putFour 8 = .ok (.getfield 9, 3) := by decide +kernel
theorem d_X_putFour_11 : decode b_X_putFour 11 = .ok (.aload_n 0, 1) := by decide +kernel
theorem d_X_putFour_12 : decode b_X_putFour 12 = .ok (.getfield 13, 3) := by decide +kernel
theorem d_X_putFour_15 : decode b_X_putFour 15 = .ok (.iload_n 1, 1) := by decide +kernel
theorem d_X_putFour_16 : decode b_X_putFour 16 = .ok (.iload_n 2, 1) := by decide +kernel
theorem d_X_putFour_17 : decode b_X_putFour 17 = .ok (.iushr, 1) := by decide +kernel
theorem d_X_putFour_18 : decode b_X_putFour 18 = .ok (.i2b, 1) := by decide +kernel
theorem d_X_putFour_19 : decode b_X_putFour 19 = .ok (.invokestatic 71, 3) := by decide +kernel
theorem d_X_putFour_22 : decode b_X_putFour 22 = .ok (.bastore, 1) := by decide +kernel
theorem d_X_putFour_23 : decode b_X_putFour 23 = .ok (.aload_n 0, 1) := by decide +kernel
theorem d_X_putFour_24 : decode b_X_putFour 24 = .ok (.dup, 1) := by decide +kernel
theorem d_X_putFour_25 : decode b_X_putFour 25 = .ok (.getfield 13, 3) := by decide +kernel
theorem d_X_putFour_28 : decode b_X_putFour 28 = .ok (.iconst 1, 1) := by decide +kernel
theorem d_X_putFour_29 : decode b_X_putFour 29 = .ok (.iadd, 1) := by decide +kernel
theorem d_X_putFour_30 : decode b_X_putFour 30 = .ok (.putfield 13, 3) := by decide +kernel
theorem d_X_putFour_33 : decode b_X_putFour 33 = .ok (.iinc 2 (-8), 3) := by decide +kernel
theorem d_X_putFour_36 : decode b_X_putFour 36 = .ok (.goto (-33), 3) := by decide +kernel
theorem d_X_putFour_39 : decode b_X_putFour 39 = .ok (.return_, 1) := by decide +kernel
theorem d_X_small_0 : decode b_X_small 0 = .ok (.iload_n 0, 1) := by decide +kernel
theorem d_X_small_1 : decode b_X_small 1 = .ok (.bipush 65, 2) := by decide +kernel
theorem d_X_small_3 : decode b_X_small 3 = .ok (.if_icmp .lt 20, 3) := by decide +kernel
theorem d_X_small_6 : decode b_X_small 6 = .ok (.iload_n 0, 1) := by decide +kernel
theorem d_X_small_7 : decode b_X_small 7 = .ok (.bipush 90, 2) := by decide +kernel
theorem d_X_small_9 : decode b_X_small 9 = .ok (.if_icmp .gt 14, 3) := by decide +kernel
theorem d_X_small_12 : decode b_X_small 12 = .ok (.iload_n 0, 1) := by decide +kernel
theorem d_X_small_13 : decode b_X_small 13 = .ok (.bipush 65, 2) := by decide +kernel
theorem d_X_small_15 : decode b_X_small 15 = .ok (.isub, 1) := by decide +kernel
theorem d_X_small_16 : decode b_X_small 16 = .ok (.bipush 97, 2) := by decide +kernel
theorem d_X_small_18 : decode b_X_small 18 = .ok (.iadd, 1) := by decide +kernel
theorem d_X_small_19 : decode b_X_small 19 = .ok (.i2b, 1) := by decide +kernel
theorem d_X_small_20 : decode b_X_small 20 = .ok (.goto 4, 3) := by decide +kernel
theorem d_X_small_23 : decode b_X_small 23 = .ok (.iload_n 0, 1) := by decide +kernel
theorem d_X_small_24 : decode b_X_small 24 = .ok (.ireturn, 1) := by decide +kernel
theorem d_X_isSign_0 : decode b_X_isSign 0 = .ok (.iload_n 0, 1) := by decide +kernel
theorem d_X_isSign_1 : decode b_X_isSign 1 = .ok (.bipush 48, 2) := by decide +kernel
theorem d_X_isSign_3 : decode b_X_isSign 3 = .ok (.if_icmp .lt 9, 3) := by decide +kernel
theorem d_X_isSign_6 : decode b_X_isSign 6 = .ok (.iload_n 0, 1) := by decide +kernel
theorem d_X_isSign_7 : decode b_X_isSign 7 = .ok (.bipush 57, 2) := by decide +kernel
theorem d_X_isSign_9 : decode b_X_isSign 9 = .ok (.if_icmp .le 15, 3) := by decide +kernel
theorem d_X_isSign_12 : decode b_X_isSign 12 = .ok (.iload_n 0, 1) := by decide +kernel
theorem d_X_isSign_13 : decode b_X_isSign 13 = .ok (.bipush 97, 2) := by decide +kernel
theorem d_X_isSign_15 : decode b_X_isSign 15 = .ok (.if_icmp .lt 13, 3) := by decide +kernel
theorem d_X_isSign_18 : decode b_X_isSign 18 = .ok (.iload_n 0, 1) := by decide +kernel
theorem d_X_isSign_19 : decode b_X_isSign 19 = .ok (.bipush 122, 2) := by decide +kernel
theorem d_X_isSign_21 : decode b_X_isSign 21 = .ok (.if_icmp .gt 7, 3) := by decide +kernel
theorem d_X_isSign_24 : decode b_X_isSign 24 = .ok (.iconst 1, 1) := by decide +kernel
theorem d_X_isSign_25 : decode b_X_isSign 25 = .ok (.goto 4, 3) := by decide +kernel
theorem d_X_isSign_28 : decode b_X_isSign 28 = .ok (.iconst 0, 1) := by decide +kernel
theorem d_X_isSign_29 : decode b_X_isSign 29 = .ok (.ireturn, 1) := by decide +kernel
theorem d_X_tapeIsWord_0 : decode b_X_tapeIsWord 0 = .ok (.iconst 0, 1) := by decide +kernel
theorem d_X_tapeIsWord_1 : decode b_X_tapeIsWord 1 = .ok (.istore_n 1, 1) := by decide +kernel
theorem d_X_tapeIsWord_2 : decode b_X_tapeIsWord 2 = .ok (.iload_n 1, 1) := by decide +kernel
theorem d_X_tapeIsWord_3 : decode b_X_tapeIsWord 3 = .ok (.aload_n 0, 1) := by decide +kernel
theorem d_X_tapeIsWord_4 : decode b_X_tapeIsWord 4 = .ok (.getfield 13, 3) := by decide +kernel
theorem d_X_tapeIsWord_7 : decode b_X_tapeIsWord 7 = .ok (.if_icmp .ge 23, 3) := by decide +kernel
theorem d_X_tapeIsWord_10 : decode b_X_tapeIsWord 10 = .ok (.aload_n 0, 1) := by decide +kernel
theorem d_X_tapeIsWord_11 : decode b_X_tapeIsWord 11 = .ok (.getfield 9, 3) := by decide +kernel
theorem d_X_tapeIsWord_14 : decode b_X_tapeIsWord 14 = .ok (.iload_n 1, 1) := by decide +kernel
theorem d_X_tapeIsWord_15 : decode b_X_tapeIsWord 15 = .ok (.baload, 1) := by decide +kernel
theorem d_X_tapeIsWord_16 : decode b_X_tapeIsWord 16 = .ok (.invokestatic 34, 3) := by decide +kernel
theorem d_X_tapeIsWord_19 : decode b_X_tapeIsWord 19 = .ok (.ifCond .ne 5, 3) := by decide +kernel
theorem d_X_tapeIsWord_22 : decode b_X_tapeIsWord 22 = .ok (.iconst 0, 1) := by decide +kernel
theorem d_X_tapeIsWord_23 : decode b_X_tapeIsWord 23 = .ok (.ireturn, 1) := by decide +kernel
theorem d_X_tapeIsWord_24 : decode b_X_tapeIsWord 24 = .ok (.iinc 1 1, 3) := by decide +kernel
theorem d_X_tapeIsWord_27 : decode b_X_tapeIsWord 27 = .ok (.goto (-25), 3) := by decide +kernel
theorem d_X_tapeIsWord_30 : decode b_X_tapeIsWord 30 = .ok (.aload_n 0, 1) := by decide +kernel
theorem d_X_tapeIsWord_31 : decode b_X_tapeIsWord 31 = .ok (.getfield 13, 3) := by decide +kernel
theorem d_X_tapeIsWord_34 : decode b_X_tapeIsWord 34 = .ok (.ifCond .le 7, 3) := by decide +kernel
theorem d_X_tapeIsWord_37 : decode b_X_tapeIsWord 37 = .ok (.iconst 1, 1) := by decide +kernel
theorem d_X_tapeIsWord_38 : decode b_X_tapeIsWord 38 = .ok (.goto 4, 3) := by decide +kernel
theorem d_X_tapeIsWord_41 : decode b_X_tapeIsWord 41 = .ok (.iconst 0, 1) := by decide +kernel
theorem d_X_tapeIsWord_42 : decode b_X_tapeIsWord 42 = .ok (.ireturn, 1) := by decide +kernel
theorem d_X_takeTapeTerm_0 : decode b_X_takeTapeTerm 0 = .ok (.aload_n 0, 1) := by decide +kernel
theorem d_X_takeTapeTerm_1 : decode b_X_takeTapeTerm 1 = .ok (.invokevirtual 64, 3) := by decide +kernel
theorem d_X_takeTapeTerm_4 : decode b_X_takeTapeTerm 4 = .ok (.istore_n 1, 1) := by decide +kernel
theorem d_X_takeTapeTerm_5 : decode b_X_takeTapeTerm 5 = .ok (.iload_n 1, 1) := by decide +kernel
theorem d_X_takeTapeTerm_6 : decode b_X_takeTapeTerm 6 = .ok (.ifCond .eq 15, 3) := by decide +kernel
theorem d_X_takeTapeTerm_9 : decode b_X_takeTapeTerm 9 = .ok (.aload_n 0, 1) := by decide +kernel
theorem d_X_takeTapeTerm_10 : decode b_X_takeTapeTerm 10 = .ok (.sipush 150, 3) := by decide +kernel
theorem d_X_takeTapeTerm_13 : decode b_X_takeTapeTerm 13 = .ok (.iconst 0, 1) := by decide +kernel
theorem d_X_takeTapeTerm_14 : decode b_X_takeTapeTerm 14 = .ok (.aload_n 0, 1) := by decide +kernel
theorem d_X_takeTapeTerm_15 : decode b_X_takeTapeTerm 15 = .ok (.getfield 13, 3) := by decide +kernel
theorem d_X_takeTapeTerm_18 : decode b_X_takeTapeTerm 18 = .ok (.invokevirtual 75, 3) := by decide +kernel
theorem d_X_takeTapeTerm_21 : decode b_X_takeTapeTerm 21 = .ok (.aload_n 0, 1) := by decide +kernel
theorem d_X_takeTapeTerm_22 : decode b_X_takeTapeTerm 22 = .ok (.iconst 0, 1) := by decide +kernel
theorem d_X_takeTapeTerm_23 : decode b_X_takeTapeTerm 23 = .ok (.putfield 13, 3) := by decide +kernel
theorem d_X_takeTapeTerm_26 : decode b_X_takeTapeTerm 26 = .ok (.iload_n 1, 1) := by decide +kernel
theorem d_X_takeTapeTerm_27 : decode b_X_takeTapeTerm 27 = .ok (.ireturn, 1) := by decide +kernel
theorem d_X_addTerm_0 : decode b_X_addTerm 0 = .ok (.aload_n 0, 1) := by decide +kernel
theorem d_X_addTerm_1 : decode b_X_addTerm 1 = .ok (.getfield 24, 3) := by decide +kernel
theorem d_X_addTerm_4 : decode b_X_addTerm 4 = .ok (.sipush 150, 3) := by decide +kernel
theorem d_X_addTerm_7 : decode b_X_addTerm 7 = .ok (.if_icmp .ge 23, 3) := by decide +kernel
theorem d_X_addTerm_10 : decode b_X_addTerm 10 = .ok (.aload_n 0, 1) := by decide +kernel
theorem d_X_addTerm_11 : decode b_X_addTerm 11 = .ok (.aload_n 0, 1) := by decide +kernel
theorem d_X_addTerm_12 : decode b_X_addTerm 12 = .ok (.getfield 24, 3) := by decide +kernel
theorem d_X_addTerm_15 : decode b_X_addTerm 15 = .ok (.iload_n 1, 1) := by decide +kernel
theorem d_X_addTerm_16 : decode b_X_addTerm 16 = .ok (.iload_n 2, 1) := by decide +kernel
theorem d_X_addTerm_17 : decode b_X_addTerm 17 = .ok (.invokevirtual 75, 3) := by decide +kernel
theorem d_X_addTerm_20 : decode b_X_addTerm 20 = .ok (.aload_n 0, 1) := by decide +kernel
theorem d_X_addTerm_21 : decode b_X_addTerm 21 = .ok (.dup, 1) := by decide +kernel
theorem d_X_addTerm_22 : decode b_X_addTerm 22 = .ok (.getfield 24, 3) := by decide +kernel
theorem d_X_addTerm_25 : decode b_X_addTerm 25 = .ok (.iconst 1, 1) := by decide +kernel
theorem d_X_addTerm_26 : decode b_X_addTerm 26 = .ok (.iadd, 1) := by decide +kernel
theorem d_X_addTerm_27 : decode b_X_addTerm 27 = .ok (.putfield 24, 3) := by decide +kernel
theorem d_X_addTerm_30 : decode b_X_addTerm 30 = .ok (.return_, 1) := by decide +kernel
theorem d_X_writeTerm_0 : decode b_X_writeTerm 0 = .ok (.iload_n 3, 1) := by decide +kernel
theorem d_X_writeTerm_1 : decode b_X_writeTerm 1 = .ok (.iload_n 2, 1) := by decide +kernel
theorem d_X_writeTerm_2 : decode b_X_writeTerm 2 = .ok (.isub, 1) := by decide +kernel
theorem d_X_writeTerm_3 : decode b_X_writeTerm 3 = .ok (.istore 4, 2) := by decide +kernel
theorem d_X_writeTerm_5 : decode b_X_writeTerm 5 = .ok (.iload 4, 2) := by decide +kernel
theorem d_X_writeTerm_7 : decode b_X_writeTerm 7 = .ok (.iconst 5, 1) := by decide +kernel
theorem d_X_writeTerm_8 : decode b_X_writeTerm 8 = .ok (.if_icmp .lt 33, 3) := by decide +kernel
theorem d_X_writeTerm_11 : decode b_X_writeTerm 11 = .ok (.aload_n 0, 1) := by decide +kernel
theorem d_X_writeTerm_12 : decode b_X_writeTerm 12 = .ok (.iload_n 3, 1) := by decide +kernel
theorem d_X_writeTerm_13 : decode b_X_writeTerm 13 = .ok (.invokevirtual 78, 3) := by decide +kernel
theorem d_X_writeTerm_16 : decode b_X_writeTerm 16 = .ok (.ifCond .eq 25, 3) := by decide +kernel
theorem d_X_writeTerm_19 : decode b_X_writeTerm 19 = .ok (.aload_n 0, 1) := by decide +kernel
theorem d_X_writeTerm_20 : decode b_X_writeTerm 20 = .ok (.getfield 9, 3) := by decide +kernel
theorem d_X_writeTerm_23 : decode b_X_writeTerm 23 = .ok (.iload_n 3, 1) := by decide +kernel
theorem d_X_writeTerm_24 : decode b_X_writeTerm 24 = .ok (.iconst 3, 1) := by decide +kernel
theorem d_X_writeTerm_25 : decode b_X_writeTerm 25 = .ok (.isub, 1) := by decide +kernel
theorem d_X_writeTerm_26 : decode b_X_writeTerm 26 = .ok (.bipush 121, 2) := by decide +kernel
theorem d_X_writeTerm_28 : decode b_X_writeTerm 28 = .ok (.bastore, 1) := by decide +kernel
theorem d_X_writeTerm_29 : decode b_X_writeTerm 29 = .ok (.aload_n 0, 1) := by decide +kernel
theorem d_X_writeTerm_30 : decode b_X_writeTerm 30 = .ok (.iload_n 1, 1) := by decide +kernel
theorem d_X_writeTerm_31 : decode b_X_writeTerm 31 = .ok (.iload_n 2, 1) := by decide +kernel
theorem d_X_writeTerm_32 : decode b_X_writeTerm 32 = .ok (.iload_n 3, 1) := by decide +kernel
theorem d_X_writeTerm_33 : decode b_X_writeTerm 33 = .ok (.iconst 2, 1) := by decide +kernel
theorem d_X_writeTerm_34 : decode b_X_writeTerm 34 = .ok (.isub, 1) := by decide +kernel
theorem d_X_writeTerm_35 : decode b_X_writeTerm 35 = .ok (.invokevirtual 67, 3) := by decide +kernel
theorem d_X_writeTerm_38 : decode b_X_writeTerm 38 = .ok (.goto 36, 3) := by decide +kernel
theorem d_X_writeTerm_41 : decode b_X_writeTerm 41 = .ok (.iload 4, 2) := by decide +kernel
theorem d_X_writeTerm_43 : decode b_X_writeTerm 43 = .ok (.iconst 4, 1) := by decide +kernel
theorem d_X_writeTerm_44 : decode b_X_writeTerm 44 = .ok (.if_icmp .lt 23, 3) := by decide +kernel
theorem d_X_writeTerm_47 : decode b_X_writeTerm 47 = .ok (.aload_n 0, 1) := by decide +kernel
theorem d_X_writeTerm_48 : decode b_X_writeTerm 48 = .ok (.iload_n 3, 1) := by decide +kernel
theorem d_X_writeTerm_49 : decode b_X_writeTerm 49 = .ok (.invokevirtual 81, 3) := by decide +kernel
theorem d_X_writeTerm_52 : decode b_X_writeTerm 52 = .ok (.ifCond .eq 15, 3) := by decide +kernel
theorem d_X_writeTerm_55 : decode b_X_writeTerm 55 = .ok (.aload_n 0, 1) := by decide +kernel
theorem d_X_writeTerm_56 : decode b_X_writeTerm 56 = .ok (.iload_n 1, 1) := by decide +kernel
theorem d_X_writeTerm_57 : decode b_X_writeTerm 57 = .ok (.iload_n 2, 1) := by decide +kernel
theorem d_X_writeTerm_58 : decode b_X_writeTerm 58 = .ok (.iload_n 3, 1) := by decide +kernel
theorem d_X_writeTerm_59 : decode b_X_writeTerm 59 = .ok (.iconst 1, 1) := by decide +kernel
theorem d_X_writeTerm_60 : decode b_X_writeTerm 60 = .ok (.isub, 1) := by decide +kernel
theorem d_X_writeTerm_61 : decode b_X_writeTerm 61 = .ok (.invokevirtual 67, 3) := by decide +kernel
theorem d_X_writeTerm_64 : decode b_X_writeTerm 64 = .ok (.goto 10, 3) := by decide +kernel
theorem d_X_writeTerm_67 : decode b_X_writeTerm 67 = .ok (.aload_n 0, 1) := by decide +kernel
theorem d_X_writeTerm_68 : decode b_X_writeTerm 68 = .ok (.iload_n 1, 1) := by decide +kernel
theorem d_X_writeTerm_69 : decode b_X_writeTerm 69 = .ok (.iload_n 2, 1) := by decide +kernel
theorem d_X_writeTerm_70 : decode b_X_writeTerm 70 = .ok (.iload_n 3, 1) := by decide +kernel
theorem d_X_writeTerm_71 : decode b_X_writeTerm 71 = .ok (.invokevirtual 67, 3) := by decide +kernel
theorem d_X_writeTerm_74 : decode b_X_writeTerm 74 = .ok (.return_, 1) := by decide +kernel
theorem d_X_endsWithIes_0 : decode b_X_endsWithIes 0 = .ok (.aload_n 0, 1) := by decide +kernel
theorem d_X_endsWithIes_1 : decode b_X_endsWithIes 1 = .ok (.getfield 9, 3) := by decide +kernel
theorem d_X_endsWithIes_4 : decode b_X_endsWithIes 4 = .ok (.iload_n 1, 1) := by decide +kernel
theorem d_X_endsWithIes_5 : decode b_X_endsWithIes 5 = .ok (.iconst 3, 1) := by decide +kernel
theorem d_X_endsWithIes_6 : decode b_X_endsWithIes 6 = .ok (.isub, 1) := by decide +kernel
theorem d_X_endsWithIes_7 : decode b_X_endsWithIes 7 = .ok (.baload, 1) := by decide +kernel
theorem d_X_endsWithIes_8 : decode b_X_endsWithIes 8 = .ok (.bipush 105, 2) := by decide +kernel
theorem d_X_endsWithIes_10 : decode b_X_endsWithIes 10 = .ok (.if_icmp .ne 33, 3) := by decide +kernel
theorem d_X_endsWithIes_13 : decode b_X_endsWithIes 13 = .ok (.aload_n 0, 1) := by decide +kernel
theorem d_X_endsWithIes_14 : decode b_X_endsWithIes 14 = .ok (.getfield 9, 3) := by decide +kernel
theorem d_X_endsWithIes_17 : decode b_X_endsWithIes 17 = .ok (.iload_n 1, 1) := by decide +kernel
theorem d_X_endsWithIes_18 : decode b_X_endsWithIes 18 = .ok (.iconst 2, 1) := by decide +kernel
theorem d_X_endsWithIes_19 : decode b_X_endsWithIes 19 = .ok (.isub, 1) := by decide +kernel
theorem d_X_endsWithIes_20 : decode b_X_endsWithIes 20 = .ok (.baload, 1) := by decide +kernel
theorem d_X_endsWithIes_21 : decode b_X_endsWithIes 21 = .ok (.bipush 101, 2) := by decide +kernel
theorem d_X_endsWithIes_23 : decode b_X_endsWithIes 23 = .ok (.if_icmp .ne 20, 3) := by decide +kernel
theorem d_X_endsWithIes_26 : decode b_X_endsWithIes 26 = .ok (.aload_n 0, 1) := by decide +kernel
theorem d_X_endsWithIes_27 : decode b_X_endsWithIes 27 = .ok (.getfield 9, 3) := by decide +kernel
theorem d_X_endsWithIes_30 : decode b_X_endsWithIes 30 = .ok (.iload_n 1, 1) := by decide +kernel
theorem d_X_endsWithIes_31 : decode b_X_endsWithIes 31 = .ok (.iconst 1, 1) := by decide +kernel
theorem d_X_endsWithIes_32 : decode b_X_endsWithIes 32 = .ok (.isub, 1) := by decide +kernel
theorem d_X_endsWithIes_33 : decode b_X_endsWithIes 33 = .ok (.baload, 1) := by decide +kernel
theorem d_X_endsWithIes_34 : decode b_X_endsWithIes 34 = .ok (.bipush 115, 2) := by decide +kernel
theorem d_X_endsWithIes_36 : decode b_X_endsWithIes 36 = .ok (.if_icmp .ne 7, 3) := by decide +kernel
theorem d_X_endsWithIes_39 : decode b_X_endsWithIes 39 = .ok (.iconst 1, 1) := by decide +kernel
theorem d_X_endsWithIes_40 : decode b_X_endsWithIes 40 = .ok (.goto 4, 3) := by decide +kernel
theorem d_X_endsWithIes_43 : decode b_X_endsWithIes 43 = .ok (.iconst 0, 1) := by decide +kernel
theorem d_X_endsWithIes_44 : decode b_X_endsWithIes 44 = .ok (.ireturn, 1) := by decide +kernel
theorem d_X_endsWithLooseS_0 : decode b_X_endsWithLooseS 0 = .ok (.aload_n 0, 1) := by decide +kernel
theorem d_X_endsWithLooseS_1 : decode b_X_endsWithLooseS 1 = .ok (.getfield 9, 3) := by decide +kernel
theorem d_X_endsWithLooseS_4 : decode b_X_endsWithLooseS 4 = .ok (.iload_n 1, 1) := by decide +kernel
theorem d_X_endsWithLooseS_5 : decode b_X_endsWithLooseS 5 = .ok (.iconst 1, 1) := by decide +kernel
theorem d_X_endsWithLooseS_6 : decode b_X_endsWithLooseS 6 = .ok (.isub, 1) := by decide +kernel
theorem d_X_endsWithLooseS_7 : decode b_X_endsWithLooseS 7 = .ok (.baload, 1) := by decide +kernel
theorem d_X_endsWithLooseS_8 : decode b_X_endsWithLooseS 8 = .ok (.bipush 115, 2) := by decide +kernel
theorem d_X_endsWithLooseS_10 : decode b_X_endsWithLooseS 10 = .ok (.if_icmp .ne 33, 3) := by decide +kernel
theorem d_X_endsWithLooseS_13 : decode b_X_endsWithLooseS 13 = .ok (.aload_n 0, 1) := by decide +kernel
theorem d_X_endsWithLooseS_14 : decode b_X_endsWithLooseS 14 = .ok (.getfield 9, 3) := by decide +kernel
theorem d_X_endsWithLooseS_17 : decode b_X_endsWithLooseS 17 = .ok (.iload_n 1, 1) := by decide +kernel
theorem d_X_endsWithLooseS_18 : decode b_X_endsWithLooseS 18 = .ok (.iconst 2, 1) := by decide +kernel
theorem d_X_endsWithLooseS_19 : decode b_X_endsWithLooseS 19 = .ok (.isub, 1) := by decide +kernel
theorem d_X_endsWithLooseS_20 : decode b_X_endsWithLooseS 20 = .ok (.baload, 1) := by decide +kernel
theorem d_X_endsWithLooseS_21 : decode b_X_endsWithLooseS 21 = .ok (.bipush 115, 2) := by decide +kernel
theorem d_X_endsWithLooseS_23 : decode b_X_endsWithLooseS 23 = .ok (.if_icmp .eq 20, 3) := by decide +kernel
theorem d_X_endsWithLooseS_26 : decode b_X_endsWithLooseS 26 = .ok (.aload_n 0, 1) := by decide +kernel
theorem d_X_endsWithLooseS_27 : decode b_X_endsWithLooseS 27 = .ok (.getfield 9, 3) := by decide +kernel
theorem d_X_endsWithLooseS_30 : decode b_X_endsWithLooseS 30 = .ok (.iload_n 1, 1) := by decide +kernel
theorem d_X_endsWithLooseS_31 : decode b_X_endsWithLooseS 31 = .ok (.iconst 2, 1) := by decide +kernel
theorem d_X_endsWithLooseS_32 : decode b_X_endsWithLooseS 32 = .ok (.isub, 1) := by decide +kernel
theorem d_X_endsWithLooseS_33 : decode b_X_endsWithLooseS 33 = .ok (.baload, 1) := by decide +kernel
theorem d_X_endsWithLooseS_34 : decode b_X_endsWithLooseS 34 = .ok (.bipush 117, 2) := by decide +kernel
theorem d_X_endsWithLooseS_36 : decode b_X_endsWithLooseS 36 = .ok (.if_icmp .eq 7, 3) := by decide +kernel
theorem d_X_endsWithLooseS_39 : decode b_X_endsWithLooseS 39 = .ok (.iconst 1, 1) := by decide +kernel
theorem d_X_endsWithLooseS_40 : decode b_X_endsWithLooseS 40 = .ok (.goto 4, 3) := by decide +kernel
theorem d_X_endsWithLooseS_43 : decode b_X_endsWithLooseS 43 = .ok (.iconst 0, 1) := by decide +kernel
theorem d_X_endsWithLooseS_44 : decode b_X_endsWithLooseS 44 = .ok (.ireturn, 1) := by decide +kernel
theorem d_X_writeSigns_0 : decode b_X_writeSigns 0 = .ok (.iload_n 3, 1) := by decide +kernel
theorem d_X_writeSigns_1 : decode b_X_writeSigns 1 = .ok (.iload_n 2, 1) := by decide +kernel
theorem d_X_writeSigns_2 : decode b_X_writeSigns 2 = .ok (.isub, 1) := by decide +kernel
theorem d_X_writeSigns_3 : decode b_X_writeSigns 3 = .ok (.bipush 24, 2) := by decide +kernel
theorem d_X_writeSigns_5 : decode b_X_writeSigns 5 = .ok (.invokestatic 84, 3) := by decide +kernel
theorem d_X_writeSigns_8 : decode b_X_writeSigns 8 = .ok (.istore 4, 2) := by decide +kernel
theorem d_X_writeSigns_10 : decode b_X_writeSigns 10 = .ok (.aload_n 0, 1) := by decide +kernel
theorem d_X_writeSigns_11 : decode b_X_writeSigns 11 = .ok (.getfield 9, 3) := by decide +kernel
theorem d_X_writeSigns_14 : decode b_X_writeSigns 14 = .ok (.iload_n 2, 1) := by decide +kernel
theorem d_X_writeSigns_15 : decode b_X_writeSigns 15 = .ok (.aload_n 0, 1) := by decide +kernel
theorem d_X_writeSigns_16 : decode b_X_writeSigns 16 = .ok (.getfield 17, 3) := by decide +kernel
theorem d_X_writeSigns_19 : decode b_X_writeSigns 19 = .ok (.iload_n 1, 1) := by decide +kernel
theorem d_X_writeSigns_20 : decode b_X_writeSigns 20 = .ok (.bipush 24, 2) := by decide +kernel
theorem d_X_writeSigns_22 : decode b_X_writeSigns 22 = .ok (.imul, 1) := by decide +kernel
theorem d_X_writeSigns_23 : decode b_X_writeSigns 23 = .ok (.iload 4, 2) := by decide +kernel
theorem d_X_writeSigns_25 : decode b_X_writeSigns 25 = .ok (.invokestatic 89, 3) := by decide +kernel
theorem d_X_writeSigns_28 : decode b_X_writeSigns 28 = .ok (.aload_n 0, 1) := by decide +kernel
theorem d_X_writeSigns_29 : decode b_X_writeSigns 29 = .ok (.getfield 20, 3) := by decide +kernel
theorem d_X_writeSigns_32 : decode b_X_writeSigns 32 = .ok (.iload_n 1, 1) := by decide +kernel
theorem d_X_writeSigns_33 : decode b_X_writeSigns 33 = .ok (.iload 4, 2) := by decide +kernel
theorem d_X_writeSigns_35 : decode b_X_writeSigns 35 = .ok (.iastore, 1) := by decide +kernel
theorem d_X_writeSigns_36 : decode b_X_writeSigns 36 = .ok (.return_, 1) := by decide +kernel
theorem d_X_hasTerm_0 : decode b_X_hasTerm 0 = .ok (.iload_n 1, 1) := by decide +kernel
theorem d_X_hasTerm_1 : decode b_X_hasTerm 1 = .ok (.ifCond .lt 15, 3) := by decide +kernel
theorem d_X_hasTerm_4 : decode b_X_hasTerm 4 = .ok (.iload_n 1, 1) := by decide +kernel
theorem d_X_hasTerm_5 : decode b_X_hasTerm 5 = .ok (.aload_n 0, 1) := by decide +kernel
theorem d_X_hasTerm_6 : decode b_X_hasTerm 6 = .ok (.getfield 24, 3) := by decide +kernel
theorem d_X_hasTerm_9 : decode b_X_hasTerm 9 = .ok (.if_icmp .ge 7, 3) := by decide +kernel
theorem d_X_hasTerm_12 : decode b_X_hasTerm 12 = .ok (.iconst 1, 1) := by decide +kernel
theorem d_X_hasTerm_13 : decode b_X_hasTerm 13 = .ok (.goto 4, 3) := by decide +kernel
theorem d_X_hasTerm_16 : decode b_X_hasTerm 16 = .ok (.iconst 0, 1) := by decide +kernel
theorem d_X_hasTerm_17 : decode b_X_hasTerm 17 = .ok (.ireturn, 1) := by decide +kernel
theorem d_X_signAt_0 : decode b_X_signAt 0 = .ok (.aload_n 0, 1) := by decide +kernel
theorem d_X_signAt_1 : decode b_X_signAt 1 = .ok (.getfield 17, 3) := by decide +kernel
theorem d_X_signAt_4 : decode b_X_signAt 4 = .ok (.iload_n 1, 1) := by decide +kernel
theorem d_X_signAt_5 : decode b_X_signAt 5 = .ok (.bipush 24, 2) := by decide +kernel
theorem d_X_signAt_7 : decode b_X_signAt 7 = .ok (.imul, 1) := by decide +kernel
theorem d_X_signAt_8 : decode b_X_signAt 8 = .ok (.iload_n 2, 1) := by decide +kernel
theorem d_X_signAt_9 : decode b_X_signAt 9 = .ok (.iadd, 1) := by decide +kernel
theorem d_X_signAt_10 : decode b_X_signAt 10 = .ok (.baload, 1) := by decide +kernel
theorem d_X_signAt_11 : decode b_X_signAt 11 = .ok (.ireturn, 1) := by decide +kernel
theorem d_X_firstSame_0 : decode b_X_firstSame 0 = .ok (.iconst 0, 1) := by decide +kernel
theorem d_X_firstSame_1 : decode b_X_firstSame 1 = .ok (.istore_n 2, 1) := by decide +kernel
theorem d_X_firstSame_2 : decode b_X_firstSame 2 = .ok (.iload_n 2, 1) := by decide +kernel
theorem d_X_firstSame_3 : decode b_X_firstSame 3 = .ok (.iload_n 1, 1) := by decide +kernel
theorem d_X_firstSame_4 : decode b_X_firstSame 4 = .ok (.if_icmp .ge 20, 3) := by decide +kernel
theorem d_X_firstSame_7 : decode b_X_firstSame 7 = .ok (.aload_n 0, 1) := by decide +kernel
theorem d_X_firstSame_8 : decode b_X_firstSame 8 = .ok (.iload_n 2, 1) := by decide +kernel
theorem d_X_firstSame_9 : decode b_X_firstSame 9 = .ok (.iload_n 1, 1) := by decide +kernel
theorem d_X_firstSame_10 : decode b_X_firstSame 10 = .ok (.invokevirtual 54, 3) := by decide +kernel
theorem d_X_firstSame_13 : decode b_X_firstSame 13 = .ok (.ifCond .ne 5, 3) := by decide +kernel
theorem d_X_firstSame_16 : decode b_X_firstSame 16 = .ok (.iload_n 2, 1) := by decide +kernel
theorem d_X_firstSame_17 : decode b_X_firstSame 17 = .ok (.ireturn, 1) := by decide +kernel
theorem d_X_firstSame_18 : decode b_X_firstSame 18 = .ok (.iinc 2 1, 3) := by decide +kernel
theorem d_X_firstSame_21 : decode b_X_firstSame 21 = .ok (.goto (-19), 3) := by decide +kernel
theorem d_X_firstSame_24 : decode b_X_firstSame 24 = .ok (.iload_n 1, 1) := by decide +kernel
theorem d_X_firstSame_25 : decode b_X_firstSame 25 = .ok (.ireturn, 1) := by decide +kernel
theorem d_X_order_0 : decode b_X_order 0 = .ok (.aload_n 0, 1) := by decide +kernel
theorem d_X_order_1 : decode b_X_order 1 = .ok (.getfield 20, 3) := by decide +kernel
theorem d_X_order_4 : decode b_X_order 4 = .ok (.iload_n 1, 1) := by decide +kernel
theorem d_X_order_5 : decode b_X_order 5 = .ok (.iaload, 1) := by decide +kernel
theorem d_X_order_6 : decode b_X_order 6 = .ok (.aload_n 0, 1) := by decide +kernel
theorem d_X_order_7 : decode b_X_order 7 = .ok (.getfield 20, 3) := by decide +kernel
theorem d_X_order_10 : decode b_X_order 10 = .ok (.iload_n 2, 1) := by decide +kernel
theorem d_X_order_11 : decode b_X_order 11 = .ok (.iaload, 1) := by decide +kernel
theorem d_X_order_12 : decode b_X_order 12 = .ok (.invokestatic 84, 3) := by decide +kernel
theorem d_X_order_15 : decode b_X_order 15 = .ok (.istore_n 3, 1) := by decide +kernel
theorem d_X_order_16 : decode b_X_order 16 = .ok (.iconst 0, 1) := by decide +kernel
theorem d_X_order_17 : decode b_X_order 17 = .ok (.istore 4, 2) := by decide +kernel
theorem d_X_order_19 : decode b_X_order 19 = .ok (.iload 4, 2) := by decide +kernel
theorem d_X_order_21 : decode b_X_order 21 = .ok (.iload_n 3, 1) := by decide +kernel
theorem d_X_order_22 : decode b_X_order 22 = .ok (.if_icmp .ge 49, 3) := by decide +kernel
theorem d_X_order_25 : decode b_X_order 25 = .ok (.aload_n 0, 1) := by decide +kernel
theorem d_X_order_26 : decode b_X_order 26 = .ok (.iload_n 1, 1) := by decide +kernel
theorem d_X_order_27 : decode b_X_order 27 = .ok (.iload 4, 2) := by decide +kernel
theorem d_X_order_29 : decode b_X_order 29 = .ok (.invokevirtual 46, 3) := by decide +kernel
theorem d_X_order_32 : decode b_X_order 32 = .ok (.aload_n 0, 1) := by decide +kernel
theorem d_X_order_33 : decode b_X_order 33 = .ok (.iload_n 2, 1) := by decide +kernel
theorem d_X_order_34 : decode b_X_order 34 = .ok (.iload 4, 2) := by decide +kernel
theorem d_X_order_36 : decode b_X_order 36 = .ok (.invokevirtual 46, 3) := by decide +kernel
theorem d_X_order_39 : decode b_X_order 39 = .ok (.if_icmp .eq 26, 3) := by decide +kernel
theorem d_X_order_42 : decode b_X_order 42 = .ok (.aload_n 0, 1) := by decide +kernel
theorem d_X_order_43 : decode b_X_order 43 = .ok (.iload_n 1, 1) := by decide +kernel
theorem d_X_order_44 : decode b_X_order 44 = .ok (.iload 4, 2) := by decide +kernel
theorem d_X_order_46 : decode b_X_order 46 = .ok (.invokevirtual 46, 3) := by decide +kernel
theorem d_X_order_49 : decode b_X_order 49 = .ok (.aload_n 0, 1) := by decide +kernel
theorem d_X_order_50 : decode b_X_order 50 = .ok (.iload_n 2, 1) := by decide +kernel
theorem d_X_order_51 : decode b_X_order 51 = .ok (.iload 4, 2) := by decide +kernel
theorem d_X_order_53 : decode b_X_order 53 = .ok (.invokevirtual 46, 3) := by decide +kernel
theorem d_X_order_56 : decode b_X_order 56 = .ok (.if_icmp .ge 7, 3) := by decide +kernel
theorem d_X_order_59 : decode b_X_order 59 = .ok (.iconst (-1), 1) := by decide +kernel
theorem d_X_order_60 : decode b_X_order 60 = .ok (.goto 4, 3) := by decide +kernel
theorem d_X_order_63 : decode b_X_order 63 = .ok (.iconst 1, 1) := by decide +kernel
theorem d_X_order_64 : decode b_X_order 64 = .ok (.ireturn, 1) := by decide +kernel
theorem d_X_order_65 : decode b_X_order 65 = .ok (.iinc 4 1, 3) := by decide +kernel
theorem d_X_order_68 : decode b_X_order 68 = .ok (.goto (-49), 3) := by decide +kernel
theorem d_X_order_71 : decode b_X_order 71 = .ok (.aload_n 0, 1) := by decide +kernel
theorem d_X_order_72 : decode b_X_order 72 = .ok (.getfield 20, 3) := by decide +kernel
theorem d_X_order_75 : decode b_X_order 75 = .ok (.iload_n 1, 1) := by decide +kernel
theorem d_X_order_76 : decode b_X_order 76 = .ok (.iaload, 1) := by decide +kernel
theorem d_X_order_77 : decode b_X_order 77 = .ok (.aload_n 0, 1) := by decide +kernel
theorem d_X_order_78 : decode b_X_order 78 = .ok (.getfield 20, 3) := by decide +kernel
theorem d_X_order_81 : decode b_X_order 81 = .ok (.iload_n 2, 1) := by decide +kernel
theorem d_X_order_82 : decode b_X_order 82 = .ok (.iaload, 1) := by decide +kernel
theorem d_X_order_83 : decode b_X_order 83 = .ok (.invokestatic 95, 3) := by decide +kernel
theorem d_X_order_86 : decode b_X_order 86 = .ok (.ireturn, 1) := by decide +kernel
theorem d_X_distance_0 : decode b_X_distance 0 = .ok (.iconst 0, 1) := by decide +kernel
theorem d_X_distance_1 : decode b_X_distance 1 = .ok (.istore_n 3, 1) := by decide +kernel
theorem d_X_distance_2 : decode b_X_distance 2 = .ok (.iload_n 3, 1) := by decide +kernel
theorem d_X_distance_3 : decode b_X_distance 3 = .ok (.aload_n 0, 1) := by decide +kernel
theorem d_X_distance_4 : decode b_X_distance 4 = .ok (.getfield 20, 3) := by decide +kernel
theorem d_X_distance_7 : decode b_X_distance 7 = .ok (.iload_n 2, 1) := by decide +kernel
theorem d_X_distance_8 : decode b_X_distance 8 = .ok (.iaload, 1) := by decide +kernel
theorem d_X_distance_9 : decode b_X_distance 9 = .ok (.if_icmp .gt 16, 3) := by decide +kernel
theorem d_X_distance_12 : decode b_X_distance 12 = .ok (.aload_n 0, 1) := by decide +kernel
theorem d_X_distance_13 : decode b_X_distance 13 = .ok (.getfield 27, 3) := by decide +kernel
theorem d_X_distance_16 : decode b_X_distance 16 = .ok (.iload_n 3, 1) := by decide +kernel
theorem d_X_distance_17 : decode b_X_distance 17 = .ok (.iload_n 3, 1) := by decide +kernel
theorem d_X_distance_18 : decode b_X_distance 18 = .ok (.iastore, 1) := by decide +kernel
theorem d_X_distance_19 : decode b_X_distance 19 = .ok (.iinc 3 1, 3) := by decide +kernel
theorem d_X_distance_22 : decode b_X_distance 22 = .ok (.goto (-20), 3) := by decide +kernel
theorem d_X_distance_25 : decode b_X_distance 25 = .ok (.iconst 1, 1) := by decide +kernel
theorem d_X_distance_26 : decode b_X_distance 26 = .ok (.istore_n 3, 1) := by decide +kernel
theorem d_X_distance_27 : decode b_X_distance 27 = .ok (.iload_n 3, 1) := by decide +kernel
theorem d_X_distance_28 : decode b_X_distance 28 = .ok (.aload_n 0, 1) := by decide +kernel
theorem d_X_distance_29 : decode b_X_distance 29 = .ok (.getfield 20, 3) := by decide +kernel
theorem d_X_distance_32 : decode b_X_distance 32 = .ok (.iload_n 1, 1) := by decide +kernel
theorem d_X_distance_33 : decode b_X_distance 33 = .ok (.iaload, 1) := by decide +kernel
theorem d_X_distance_34 : decode b_X_distance 34 = .ok (.if_icmp .gt 116, 3) := by decide +kernel
theorem d_X_distance_37 : decode b_X_distance 37 = .ok (.aload_n 0, 1) := by decide +kernel
theorem d_X_distance_38 : decode b_X_distance 38 = .ok (.getfield 27, 3) := by decide +kernel
theorem d_X_distance_41 : decode b_X_distance 41 = .ok (.iconst 0, 1) := by decide +kernel
theorem d_X_distance_42 : decode b_X_distance 42 = .ok (.iaload, 1) := by decide +kernel
theorem d_X_distance_43 : decode b_X_distance 43 = .ok (.istore 4, 2) := by decide +kernel
theorem d_X_distance_45 : decode b_X_distance 45 = .ok (.aload_n 0, 1) := by decide +kernel
theorem d_X_distance_46 : decode b_X_distance 46 = .ok (.getfield 27, 3) := by decide +kernel
theorem d_X_distance_49 : decode b_X_distance 49 = .ok (.iconst 0, 1) := by decide +kernel
theorem d_X_distance_50 : decode b_X_distance 50 = .ok (.iload_n 3, 1) := by decide +kernel
theorem d_X_distance_51 : decode b_X_distance 51 = .ok (.iastore, 1) := by decide +kernel
theorem d_X_distance_52 : decode b_X_distance 52 = .ok (.iconst 1, 1) := by decide +kernel
theorem d_X_distance_53 : decode b_X_distance 53 = .ok (.istore 5, 2) := by decide +kernel
theorem d_X_distance_55 : decode b_X_distance 55 = .ok (.iload 5, 2) := by decide +kernel
theorem d_X_distance_57 : decode b_X_distance 57 = .ok (.aload_n 0, 1) := by decide +kernel
theorem d_X_distance_58 : decode b_X_distance 58 = .ok (.getfield 20, 3) := by decide +kernel
theorem d_X_distance_61 : decode b_X_distance 61 = .ok (.iload_n 2, 1) := by decide +kernel
theorem d_X_distance_62 : decode b_X_distance 62 = .ok (.iaload, 1) := by decide +kernel
theorem d_X_distance_63 : decode b_X_distance 63 = .ok (.if_icmp .gt 81, 3) := by decide +kernel
theorem d_X_distance_66 : decode b_X_distance 66 = .ok (.aload_n 0, 1) := by decide +kernel
theorem d_X_distance_67 : decode b_X_distance 67 = .ok (.iload_n 1, 1) := by decide +kernel
theorem d_X_distance_68 : decode b_X_distance 68 = .ok (.iload_n 3, 1) := by decide +kernel
theorem d_X_distance_69 : decode b_X_distance 69 = .ok (.iconst 1, 1) := by decide +kernel
theorem d_X_distance_70 : decode b_X_distance 70 = .ok (.isub, 1) := by decide +kernel
theorem d_X_distance_71 : decode b_X_distance 71 = .ok (.invokevirtual 46, 3) := by decide +kernel
theorem d_X_distance_74 : decode b_X_distance 74 = .ok (.aload_n 0, 1) := by decide +kernel
theorem d_X_distance_75 : decode b_X_distance 75 = .ok (.iload_n 2, 1) := by decide +kernel
theorem d_X_distance_76 : decode b_X_distance 76 = .ok (.iload 5, 2) := by decide +kernel
theorem d_X_distance_78 : decode b_X_distance 78 = .ok (.iconst 1, 1) := by decide +kernel
theorem d_X_distance_79 : decode b_X_distance 79 = .ok (.isub, 1) := by decide +kernel
theorem d_X_distance_80 : decode b_X_distance 80 = .ok (.invokevirtual 46, 3) := by decide +kernel
theorem d_X_distance_83 : decode b_X_distance 83 = .ok (.if_icmp .ne 8, 3) := by decide +kernel
theorem d_X_distance_86 : decode b_X_distance 86 = .ok (.iload 4, 2) := by decide +kernel
theorem d_X_distance_88 : decode b_X_distance 88 = .ok (.goto 7, 3) := by decide +kernel
theorem d_X_distance_91 : decode b_X_distance 91 = .ok (.iload 4, 2) := by decide +kernel
theorem d_X_distance_93 : decode b_X_distance 93 = .ok (.iconst 1, 1) := by decide +kernel
theorem d_X_distance_94 : decode b_X_distance 94 = .ok (.iadd, 1) := by decide +kernel
theorem d_X_distance_95 : decode b_X_distance 95 = .ok (.istore 6, 2) := by decide +kernel
theorem d_X_distance_97 : decode b_X_distance 97 = .ok (.aload_n 0, 1) := by decide +kernel
theorem d_X_distance_98 : decode b_X_distance 98 = .ok (.getfield 27, 3) := by decide +kernel
theorem d_X_distance_101 : decode b_X_distance 101 = .ok (.iload 5, 2) := by decide +kernel
theorem d_X_distance_103 : decode b_X_distance 103 = .ok (.iaload, 1) := by decide +kernel
theorem d_X_distance_104 : decode b_X_distance 104 = .ok (.istore 4, 2) := by decide +kernel
theorem d_X_distance_106 : decode b_X_distance 106 = .ok (.iload 4, 2) := by decide +kernel
theorem d_X_distance_108 : decode b_X_distance 108 = .ok (.aload_n 0, 1) := by decide +kernel
theorem d_X_distance_109 : decode b_X_distance 109 = .ok (.getfield 27, 3) := by decide +kernel
theorem d_X_distance_112 : decode b_X_distance 112 = .ok (.iload 5, 2) := by decide +kernel
theorem d_X_distance_114 : decode b_X_distance 114 = .ok (.iconst 1, 1) := by decide +kernel
theorem d_X_distance_115 : decode b_X_distance 115 = .ok (.isub, 1) := by decide +kernel
theorem d_X_distance_116 : decode b_X_distance 116 = .ok (.iaload, 1) := by decide +kernel
theorem d_X_distance_117 : decode b_X_distance 117 = .ok (.invokestatic 84, 3) := by decide +kernel
theorem d_X_distance_120 : decode b_X_distance 120 = .ok (.iconst 1, 1) := by decide +kernel
theorem d_X_distance_121 : decode b_X_distance 121 = .ok (.iadd, 1) := by decide +kernel
theorem d_X_distance_122 : decode b_X_distance 122 = .ok (.istore 7, 2) := by decide +kernel
theorem d_X_distance_124 : decode b_X_distance 124 = .ok (.aload_n 0, 1) := by decide +kernel
theorem d_X_distance_125 : decode b_X_distance 125 = .ok (.getfield 27, 3) := by decide +kernel
theorem d_X_distance_128 : decode b_X_distance 128 = .ok (.iload 5, 2) := by decide +kernel
theorem d_X_distance_130 : decode b_X_distance 130 = .ok (.iload 6, 2) := by decide +kernel
theorem d_X_distance_132 : decode b_X_distance 132 = .ok (.iload 7, 2) := by decide +kernel
theorem d_X_distance_134 : decode b_X_distance 134 = .ok (.invokestatic 84, 3) := by decide +kernel
theorem d_X_distance_137 : decode b_X_distance 137 = .ok (.iastore, 1) := by decide +kernel
theorem d_X_distance_138 : decode b_X_distance 138 = .ok (.iinc 5 1, 3) := by decide +kernel
theorem d_X_distance_141 : decode b_X_distance 141 = .ok (.goto (-86), 3) := by decide +kernel
theorem d_X_distance_144 : decode b_X_distance 144 = .ok (.iinc 3 1, 3) := by decide +kernel
theorem d_X_distance_147 : decode b_X_distance 147 = .ok (.goto (-120), 3) := by decide +kernel
theorem d_X_distance_150 : decode b_X_distance 150 = .ok (.aload_n 0, 1) := by decide +kernel
theorem d_X_distance_151 : decode b_X_distance 151 = .ok (.getfield 27, 3) := by decide +kernel
theorem d_X_distance_154 : decode b_X_distance 154 = .ok (.aload_n 0, 1) := by decide +kernel
theorem d_X_distance_155 : decode b_X_distance 155 = .ok (.getfield 20, 3) := by decide +kernel
theorem d_X_distance_158 : decode b_X_distance 158 = .ok (.iload_n 2, 1) := by decide +kernel
theorem d_X_distance_159 : decode b_X_distance 159 = .ok (.iaload, 1) := by decide +kernel
theorem d_X_distance_160 : decode b_X_distance 160 = .ok (.iaload, 1) := by decide +kernel
theorem d_X_distance_161 : decode b_X_distance 161 = .ok (.ireturn, 1) := by decide +kernel
theorem d_Integer_compare_0 : decode b_Integer_compare 0 = .ok (.iload_n 0, 1) := by decide +kernel
theorem d_Integer_compare_1 : decode b_Integer_compare 1 = .ok (.iload_n 1, 1) := by decide +kernel
theorem d_Integer_compare_2 : decode b_Integer_compare 2 = .ok (.if_icmp .ge 7, 3) := by decide +kernel
theorem d_Integer_compare_5 : decode b_Integer_compare 5 = .ok (.iconst (-1), 1) := by decide +kernel
theorem d_Integer_compare_6 : decode b_Integer_compare 6 = .ok (.goto 13, 3) := by decide +kernel
theorem d_Integer_compare_9 : decode b_Integer_compare 9 = .ok (.iload_n 0, 1) := by decide +kernel
theorem d_Integer_compare_10 : decode b_Integer_compare 10 = .ok (.iload_n 1, 1) := by decide +kernel
theorem d_Integer_compare_11 : decode b_Integer_compare 11 = .ok (.if_icmp .ne 7, 3) := by decide +kernel
theorem d_Integer_compare_14 : decode b_Integer_compare 14 = .ok (.iconst 0, 1) := by decide +kernel
theorem d_Integer_compare_15 : decode b_Integer_compare 15 = .ok (.goto 4, 3) := by decide +kernel
theorem d_Integer_compare_18 : decode b_Integer_compare 18 = .ok (.iconst 1, 1) := by decide +kernel
theorem d_Integer_compare_19 : decode b_Integer_compare 19 = .ok (.ireturn, 1) := by decide +kernel
