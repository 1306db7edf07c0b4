theorem d_M_init_0 : decode b_M_init 0 = .ok (.aload_n 0, 1) := by decide +kernel
theorem d_M_init_1 : decode b_M_init 1 = .ok (.invokespecial 1, 3) := by decide +kernel
theorem d_M_init_4 : decode b_M_init 4 = .ok (.aload_n 0, 1) := by decide +kernel
theorem d_M_init_5 : decode b_M_init 5 = .ok (.sipush 300, 3) := by decide +kernel
theorem d_M_init_8 : decode b_M_init 8 = .ok (.newarray .byte, 2) := by decide +kernel
theorem d_M_init_10 : decode b_M_init 10 = .ok (.putfield 9, 3) := by decide +kernel
theorem d_M_init_13 : decode b_M_init 13 = .ok (.aload_n 0, 1) := by decide +kernel
theorem d_M_init_14 : decode b_M_init 14 = .ok (.sipush 3624, 3) := by decide +kernel
theorem d_M_init_17 : decode b_M_init 17 = .ok (.newarray .byte, 2) := by decide +kernel
theorem d_M_init_19 : decode b_M_init 19 = .ok (.putfield 13, 3) := by decide +kernel
theorem d_M_init_22 : decode b_M_init 22 = .ok (.aload_n 0, 1) := by decide +kernel
theorem d_M_init_23 : decode b_M_init 23 = .ok (.sipush 151, 3) := by decide +kernel
theorem d_M_init_26 : decode b_M_init 26 = .ok (.newarray .int, 2) := by decide +kernel
theorem d_M_init_28 : decode b_M_init 28 = .ok (.putfield 16, 3) := by decide +kernel
theorem d_M_init_31 : decode b_M_init 31 = .ok (.aload_n 0, 1) := by decide +kernel
theorem d_M_init_32 : decode b_M_init 32 = .ok (.sipush 300, 3) := by decide +kernel
theorem d_M_init_35 : decode b_M_init 35 = .ok (.newarray .byte, 2) := by decide +kernel
theorem d_M_init_37 : decode b_M_init 37 = .ok (.putfield 20, 3) := by decide +kernel
theorem d_M_init_40 : decode b_M_init 40 = .ok (.aload_n 0, 1) := by decide +kernel
theorem d_M_init_41 : decode b_M_init 41 = .ok (.sipush 625, 3) := by decide +kernel
theorem d_M_init_44 : decode b_M_init 44 = .ok (.newarray .int, 2) := by decide +kernel
theorem d_M_init_46 : decode b_M_init 46 = .ok (.putfield 23, 3) := by decide +kernel
theorem d_M_init_49 : decode b_M_init 49 = .ok (.return_, 1) := by decide +kernel
theorem d_M_put_0 : decode b_M_put 0 = .ok (.bipush 24, 2) := by decide +kernel
theorem d_M_put_2 : decode b_M_put 2 = .ok (.istore_n 2, 1) := by decide +kernel
theorem d_M_put_3 : decode b_M_put 3 = .ok (.iload_n 2, 1) := by decide +kernel
theorem d_M_put_4 : decode b_M_put 4 = .ok (.ifCond .lt 32, 3) := by decide +kernel
theorem d_M_put_7 : decode b_M_put 7 = .ok (.aload_n 0, 1) := by decide +kernel
theorem d_M_put_8 : decode b_M_put 8 = .ok (.getfield 9, 3) := by decide +kernel
theorem d_M_put_11 : decode b_M_put 11 = .ok (.aload_n 0, 1) := by decide +kernel
theorem d_M_put_12 : decode b_M_put 12 = .ok (.getfield 26, 3) := by decide +kernel
theorem d_M_put_15 : decode b_M_put 15 = .ok (.iload_n 1, 1) := by decide +kernel
theorem d_M_put_16 : decode b_M_put 16 = .ok (.iload_n 2, 1) := by decide +kernel
theorem d_M_put_17 : decode b_M_put 17 = .ok (.ishr, 1) := by decide +kernel
theorem d_M_put_18 : decode b_M_put 18 = .ok (.i2b, 1) := by decide +kernel
theorem d_M_put_19 : decode b_M_put 19 = .ok (.bastore, 1) := by decide +kernel
theorem d_M_put_20 : decode b_M_put 20 = .ok (.aload_n 0, 1) := by decide +kernel
theorem d_M_put_21 : decode b_M_put 21 = .ok (.dup, 1) := by decide +kernel
theorem d_M_put_22 : decode b_M_put 22 = .ok (.getfield 26, 3) := by decide +kernel
theorem d_M_put_25 : decode b_M_put 25 = .ok (.iconst 1, 1) := by decide +kernel
theorem d_M_put_26 : decode b_M_put 26 = .ok (.iadd, 1) := by decide +kernel
theorem d_M_put_27 : decode b_M_put 27 = .ok (.putfield 26, 3) := by decide +kernel
theorem d_M_put_30 : decode b_M_put 30 = .ok (.iinc 2 (-8), 3) := by decide +kernel
theorem d_M_put_33 : decode b_M_put 33 = .ok (.goto (-30), 3) := by decide +kernel
theorem d_M_put_36 : decode b_M_put 36 = .ok (.return_, 1) := by decide +kernel
theorem d_M_feed_0 : decode b_M_feed 0 = .ok (.aload_n 0, 1) := by decide +kernel
theorem d_M_feed_1 : decode b_M_feed 1 = .ok (.getfield 26, 3) := by decide +kernel
theorem d_M_feed_4 : decode b_M_feed 4 = .ok (.bipush 20, 2) := by decide +kernel
theorem d_M_feed_6 : decode b_M_feed 6 = .ok (.iadd, 1) := by decide +kernel
theorem d_M_feed_7 : decode b_M_feed 7 = .ok (.sipush 300, 3) := by decide +kernel
theorem d_M_feed_10 : decode b_M_feed 10 = .ok (.if_icmp .le 6, 3) := by decide +kernel
theorem d_M_feed_13 : decode b_M_feed 13 = .ok (.bipush (-3), 2) := by decide +kernel
theorem d_M_feed_15 : decode b_M_feed 15 = .ok (.ireturn, 1) := by decide +kernel
theorem d_M_feed_16 : decode b_M_feed 16 = .ok (.aload_n 0, 1) := by decide +kernel
theorem d_M_feed_17 : decode b_M_feed 17 = .ok (.iload_n 1, 1) := by decide +kernel
theorem d_M_feed_18 : decode b_M_feed 18 = .ok (.invokevirtual 30, 3) := by decide +kernel
theorem d_M_feed_21 : decode b_M_feed 21 = .ok (.aload_n 0, 1) := by decide +kernel
theorem d_M_feed_22 : decode b_M_feed 22 = .ok (.iload_n 2, 1) := by decide +kernel
theorem d_M_feed_23 : decode b_M_feed 23 = .ok (.invokevirtual 30, 3) := by decide +kernel
theorem d_M_feed_26 : decode b_M_feed 26 = .ok (.aload_n 0, 1) := by decide +kernel
theorem d_M_feed_27 : decode b_M_feed 27 = .ok (.iload_n 3, 1) := by decide +kernel
theorem d_M_feed_28 : decode b_M_feed 28 = .ok (.invokevirtual 30, 3) := by decide +kernel
theorem d_M_feed_31 : decode b_M_feed 31 = .ok (.aload_n 0, 1) := by decide +kernel
theorem d_M_feed_32 : decode b_M_feed 32 = .ok (.iload 4, 2) := by decide +kernel
theorem d_M_feed_34 : decode b_M_feed 34 = .ok (.invokevirtual 30, 3) := by decide +kernel
theorem d_M_feed_37 : decode b_M_feed 37 = .ok (.aload_n 0, 1) := by decide +kernel
theorem d_M_feed_38 : decode b_M_feed 38 = .ok (.iload 5, 2) := by decide +kernel
theorem d_M_feed_40 : decode b_M_feed 40 = .ok (.invokevirtual 30, 3) := by decide +kernel
theorem d_M_feed_43 : decode b_M_feed 43 = .ok (.aload_n 0, 1) := by decide +kernel
theorem d_M_feed_44 : decode b_M_feed 44 = .ok (.getfield 26, 3) := by decide +kernel
theorem d_M_feed_47 : decode b_M_feed 47 = .ok (.ireturn, 1) := by decide +kernel
theorem d_M_end_0 : decode b_M_end 0 = .ok (.iload_n 1, 1) := by decide +kernel
theorem d_M_end_1 : decode b_M_end 1 = .ok (.ifCond .lt 11, 3) := by decide +kernel
theorem d_M_end_4 : decode b_M_end 4 = .ok (.iload_n 1, 1) := by decide +kernel
theorem d_M_end_5 : decode b_M_end 5 = .ok (.aload_n 0, 1) := by decide +kernel
theorem d_M_end_6 : decode b_M_end 6 = .ok (.getfield 26, 3) := by decide +kernel
theorem d_M_end_9 : decode b_M_end 9 = .ok (.if_icmp .le 5, 3) := by decide +kernel
theorem d_M_end_12 : decode b_M_end 12 = .ok (.iconst (-1), 1) := by decide +kernel
theorem d_M_end_13 : decode b_M_end 13 = .ok (.ireturn, 1) := by decide +kernel
theorem d_M_end_14 : decode b_M_end 14 = .ok (.aload_n 0, 1) := by decide +kernel
theorem d_M_end_15 : decode b_M_end 15 = .ok (.iload_n 1, 1) := by decide +kernel
theorem d_M_end_16 : decode b_M_end 16 = .ok (.putfield 26, 3) := by decide +kernel
theorem d_M_end_19 : decode b_M_end 19 = .ok (.iload_n 1, 1) := by decide +kernel
theorem d_M_end_20 : decode b_M_end 20 = .ok (.ireturn, 1) := by decide +kernel
theorem d_M_letter_0 : decode b_M_letter 0 = .ok (.iload_n 0, 1) := by decide +kernel
theorem d_M_letter_1 : decode b_M_letter 1 = .ok (.bipush 48, 2) := by decide +kernel
theorem d_M_letter_3 : decode b_M_letter 3 = .ok (.if_icmp .lt 9, 3) := by decide +kernel
theorem d_M_letter_6 : decode b_M_letter 6 = .ok (.iload_n 0, 1) := by decide +kernel
theorem d_M_letter_7 : decode b_M_letter 7 = .ok (.bipush 57, 2) := by decide +kernel
theorem d_M_letter_9 : decode b_M_letter 9 = .ok (.if_icmp .le 27, 3) := by decide +kernel
theorem d_M_letter_12 : decode b_M_letter 12 = .ok (.iload_n 0, 1) := by decide +kernel
theorem d_M_letter_13 : decode b_M_letter 13 = .ok (.bipush 65, 2) := by decide +kernel
theorem d_M_letter_15 : decode b_M_letter 15 = .ok (.if_icmp .lt 9, 3) := by decide +kernel
theorem d_M_letter_18 : decode b_M_letter 18 = .ok (.iload_n 0, 1) := by decide +kernel
theorem d_M_letter_19 : decode b_M_letter 19 = .ok (.bipush 90, 2) := by decide +kernel
theorem d_M_letter_21 : decode b_M_letter 21 = .ok (.if_icmp .le 15, 3) := by decide +kernel
theorem d_M_letter_24 : decode b_M_letter 24 = .ok (.iload_n 0, 1) := by decide +kernel
theorem d_M_letter_25 : decode b_M_letter 25 = .ok (.bipush 97, 2) := by decide +kernel
theorem d_M_letter_27 : decode b_M_letter 27 = .ok (.if_icmp .lt 13, 3) := by decide +kernel
theorem d_M_letter_30 : decode b_M_letter 30 = .ok (.iload_n 0, 1) := by decide +kernel
theorem d_M_letter_31 : decode b_M_letter 31 = .ok (.bipush 122, 2) := by decide +kernel
theorem d_M_letter_33 : decode b_M_letter 33 = .ok (.if_icmp .gt 7, 3) := by decide +kernel
theorem d_M_letter_36 : decode b_M_letter 36 = .ok (.iconst 1, 1) := by decide +kernel
theorem d_M_letter_37 : decode b_M_letter 37 = .ok (.goto 4, 3) := by decide +kernel
theorem d_M_letter_40 : decode b_M_letter 40 = .ok (.iconst 0, 1) := by decide +kernel
theorem d_M_letter_41 : decode b_M_letter 41 = .ok (.ireturn, 1) := by decide +kernel
theorem d_M_run_0 : decode b_M_run 0 = .ok (.iload_n 1, 1) := by decide +kernel
theorem d_M_run_1 : decode b_M_run 1 = .ok (.istore_n 2, 1) := by decide +kernel
theorem d_M_run_2 : decode b_M_run 2 = .ok (.aload_n 0, 1) := by decide +kernel
theorem d_M_run_3 : decode b_M_run 3 = .ok (.iconst 0, 1) := by decide +kernel
theorem d_M_run_4 : decode b_M_run 4 = .ok (.putfield 34, 3) := by decide +kernel
theorem d_M_run_7 : decode b_M_run 7 = .ok (.iload_n 2, 1) := by decide +kernel
theorem d_M_run_8 : decode b_M_run 8 = .ok (.aload_n 0, 1) := by decide +kernel
theorem d_M_run_9 : decode b_M_run 9 = .ok (.getfield 26, 3) := by decide +kernel
theorem d_M_run_12 : decode b_M_run 12 = .ok (.if_icmp .ge 81, 3) := by decide +kernel
theorem d_M_run_15 : decode b_M_run 15 = .ok (.aload_n 0, 1) := by decide +kernel
theorem d_M_run_16 : decode b_M_run 16 = .ok (.getfield 9, 3) := by decide +kernel
theorem d_M_run_19 : decode b_M_run 19 = .ok (.iload_n 2, 1) := by decide +kernel
theorem d_M_run_20 : decode b_M_run 20 = .ok (.baload, 1) := by decide +kernel
theorem d_M_run_21 : decode b_M_run 21 = .ok (.invokestatic 37, 3) := by decide +kernel
theorem d_M_run_24 : decode b_M_run 24 = .ok (.ifCond .eq 69, 3) := by decide +kernel
theorem d_M_run_27 : decode b_M_run 27 = .ok (.aload_n 0, 1) := by decide +kernel
theorem d_M_run_28 : decode b_M_run 28 = .ok (.getfield 20, 3) := by decide +kernel
theorem d_M_run_31 : decode b_M_run 31 = .ok (.aload_n 0, 1) := by decide +kernel
theorem d_M_run_32 : decode b_M_run 32 = .ok (.getfield 34, 3) := by decide +kernel
theorem d_M_run_35 : decode b_M_run 35 = .ok (.aload_n 0, 1) := by decide +kernel
theorem d_M_run_36 : decode b_M_run 36 = .ok (.getfield 9, 3) := by decide +kernel
theorem d_M_run_39 : decode b_M_run 39 = .ok (.iload_n 2, 1) := by decide +kernel
theorem d_M_run_40 : decode b_M_run 40 = .ok (.baload, 1) := by decide +kernel
theorem d_M_run_41 : decode b_M_run 41 = .ok (.bipush 65, 2) := by decide +kernel
theorem d_M_run_43 : decode b_M_run 43 = .ok (.if_icmp .lt 26, 3) := by decide +kernel
theorem d_M_run_46 : decode b_M_run 46 = .ok (.aload_n 0, 1) := by decide +kernel
theorem d_M_run_47 : decode b_M_run 47 = .ok (.getfield 9, 3) := by decide +kernel
theorem d_M_run_50 : decode b_M_run 50 = .ok (.iload_n 2, 1) := by decide +kernel
theorem d_M_run_51 : decode b_M_run 51 = .ok (.baload, 1) := by decide +kernel
theorem d_M_run_52 : decode b_M_run 52 = .ok (.bipush 90, 2) := by decide +kernel
theorem d_M_run_54 : decode b_M_run 54 = .ok (.if_icmp .gt 15, 3) := by decide +kernel
theorem d_M_run_57 : decode b_M_run 57 = .ok (.aload_n 0, 1) := by decide +kernel
theorem d_M_run_58 : decode b_M_run 58 = .ok (.getfield 9, 3) := by decide +kernel
theorem d_M_run_61 : decode b_M_run 61 = .ok (.iload_n 2, 1) := by decide +kernel
theorem d_M_run_62 : decode b_M_run 62 = .ok (.baload, 1) := by decide +kernel
theorem d_M_run_63 : decode b_M_run 63 = .ok (.bipush 32, 2) := by decide +kernel
theorem d_M_run_65 : decode b_M_run 65 = .ok (.iadd, 1) := by decide +kernel
theorem d_M_run_66 : decode b_M_run 66 = .ok (.goto 9, 3) := by decide +kernel
theorem d_M_run_69 : decode b_M_run 69 = .ok (.aload_n 0, 1) := by decide +kernel
theorem d_M_run_70 : decode b_M_run 70 = .ok (.getfield 9, 3) := by decide +kernel
theorem d_M_run_73 : decode b_M_run 73 = .ok (.iload_n 2, 1) := by decide +kernel
theorem d_M_run_74 : decode b_M_run 74 = .ok (.baload, 1) := by decide +kernel
theorem d_M_run_75 : decode b_M_run 75 = .ok (.i2b, 1) := by decide +kernel
theorem d_M_run_76 : decode b_M_run 76 = .ok (.bastore, 1) := by decide +kernel
theorem d_M_run_77 : decode b_M_run 77 = .ok (.aload_n 0, 1) := by decide +kernel
theorem d_M_run_78 : decode b_M_run 78 = .ok (.dup, 1) := by decide +kernel
theorem d_M_run_79 : decode b_M_run 79 = .ok (.getfield 34, 3) := by decide +kernel
theorem d_M_run_82 : decode b_M_run 82 = .ok (.iconst 1, 1) := by decide +kernel
theorem d_M_run_83 : decode b_M_run 83 = .ok (.iadd, 1) := by decide +kernel
theorem d_M_run_84 : decode b_M_run 84 = .ok (.putfield 34, 3) := by decide +kernel
theorem d_M_run_87 : decode b_M_run 87 = .ok (.iinc 2 1, 3) := by decide +kernel
theorem d_M_run_90 : decode b_M_run 90 = .ok (.goto (-83), 3) := by decide +kernel
theorem d_M_run_93 : decode b_M_run 93 = .ok (.iload_n 2, 1) := by decide +kernel
theorem d_M_run_94 : decode b_M_run 94 = .ok (.ireturn, 1) := by decide +kernel
theorem d_M_last_0 : decode b_M_last 0 = .ok (.aload_n 0, 1) := by decide +kernel
theorem d_M_last_1 : decode b_M_last 1 = .ok (.getfield 34, 3) := by decide +kernel
theorem d_M_last_4 : decode b_M_last 4 = .ok (.iload_n 1, 1) := by decide +kernel
theorem d_M_last_5 : decode b_M_last 5 = .ok (.if_icmp .lt 17, 3) := by decide +kernel
theorem d_M_last_8 : decode b_M_last 8 = .ok (.aload_n 0, 1) := by decide +kernel
theorem d_M_last_9 : decode b_M_last 9 = .ok (.getfield 20, 3) := by decide +kernel
theorem d_M_last_12 : decode b_M_last 12 = .ok (.aload_n 0, 1) := by decide +kernel
theorem d_M_last_13 : decode b_M_last 13 = .ok (.getfield 34, 3) := by decide +kernel
theorem d_M_last_16 : decode b_M_last 16 = .ok (.iload_n 1, 1) := by decide +kernel
theorem d_M_last_17 : decode b_M_last 17 = .ok (.isub, 1) := by decide +kernel
theorem d_M_last_18 : decode b_M_last 18 = .ok (.baload, 1) := by decide +kernel
theorem d_M_last_19 : decode b_M_last 19 = .ok (.goto 4, 3) := by decide +kernel
theorem d_M_last_22 : decode b_M_last 22 = .ok (.iconst 0, 1) := by decide +kernel
theorem d_M_last_23 : decode b_M_last 23 = .ok (.ireturn, 1) := by decide +kernel
theorem d_M_note_0 : decode b_M_note 0 = .ok (.aload_n 0, 1) := by decide +kernel
theorem d_M_note_1 : decode b_M_note 1 = .ok (.getfield 34, 3) := by decide +kernel
theorem d_M_note_4 : decode b_M_note 4 = .ok (.istore_n 3, 1) := by decide +kernel
theorem d_M_note_5 : decode b_M_note 5 = .ok (.iload_n 2, 1) := by decide +kernel
theorem d_M_note_6 : decode b_M_note 6 = .ok (.ifCond .eq 54, 3) := by decide +kernel
theorem d_M_note_9 : decode b_M_note 9 = .ok (.iload_n 3, 1) := by decide +kernel
theorem d_M_note_10 : decode b_M_note 10 = .ok (.iconst 5, 1) := by decide +kernel
theorem d_M_note_11 : decode b_M_note 11 = .ok (.if_icmp .lt 49, 3) := by decide +kernel
theorem d_M_note_14 : decode b_M_note 14 = .ok (.aload_n 0, 1) := by decide +kernel
theorem d_M_note_15 : decode b_M_note 15 = .ok (.iconst 1, 1) := by decide +kernel
theorem d_M_note_16 : decode b_M_note 16 = .ok (.invokevirtual 41, 3) := by decide +kernel
theorem d_M_note_19 : decode b_M_note 19 = .ok (.bipush 115, 2) := by decide +kernel
theorem d_M_note_21 : decode b_M_note 21 = .ok (.if_icmp .ne 39, 3) := by decide +kernel
theorem d_M_note_24 : decode b_M_note 24 = .ok (.aload_n 0, 1) := by decide +kernel
theorem d_M_note_25 : decode b_M_note 25 = .ok (.iconst 2, 1) := by decide +kernel
theorem d_M_note_26 : decode b_M_note 26 = .ok (.invokevirtual 41, 3) := by decide +kernel
theorem d_M_note_29 : decode b_M_note 29 = .ok (.bipush 101, 2) := by decide +kernel
theorem d_M_note_31 : decode b_M_note 31 = .ok (.if_icmp .ne 29, 3) := by decide +kernel
theorem d_M_note_34 : decode b_M_note 34 = .ok (.aload_n 0, 1) := by decide +kernel
theorem d_M_note_35 : decode b_M_note 35 = .ok (.iconst 3, 1) := by decide +kernel
theorem d_M_note_36 : decode b_M_note 36 = .ok (.invokevirtual 41, 3) := by decide +kernel
theorem d_M_note_39 : decode b_M_note 39 = .ok (.bipush 105, 2) := by decide +kernel
theorem d_M_note_41 : decode b_M_note 41 = .ok (.if_icmp .ne 19, 3) := by decide +kernel
theorem d_M_note_44 : decode b_M_note 44 = .ok (.aload_n 0, 1) := by decide +kernel
theorem d_M_note_45 : decode b_M_note 45 = .ok (.getfield 20, 3) := by decide +kernel
theorem d_M_note_48 : decode b_M_note 48 = .ok (.iload_n 3, 1) := by decide +kernel
theorem d_M_note_49 : decode b_M_note 49 = .ok (.iconst 3, 1) := by decide +kernel
theorem d_M_note_50 : decode b_M_note 50 = .ok (.isub, 1) := by decide +kernel
theorem d_M_note_51 : decode b_M_note 51 = .ok (.bipush 121, 2) := by decide +kernel
theorem d_M_note_53 : decode b_M_note 53 = .ok (.bastore, 1) := by decide +kernel
theorem d_M_note_54 : decode b_M_note 54 = .ok (.iinc 3 (-2), 3) := by decide +kernel
theorem d_M_note_57 : decode b_M_note 57 = .ok (.goto 45, 3) := by decide +kernel
theorem d_M_note_60 : decode b_M_note 60 = .ok (.iload_n 2, 1) := by decide +kernel
theorem d_M_note_61 : decode b_M_note 61 = .ok (.ifCond .eq 41, 3) := by decide +kernel
theorem d_M_note_64 : decode b_M_note 64 = .ok (.iload_n 3, 1) := by decide +kernel
theorem d_M_note_65 : decode b_M_note 65 = .ok (.iconst 4, 1) := by decide +kernel
theorem d_M_note_66 : decode b_M_note 66 = .ok (.if_icmp .lt 36, 3) := by decide +kernel
theorem d_M_note_69 : decode b_M_note 69 = .ok (.aload_n 0, 1) := by decide +kernel
theorem d_M_note_70 : decode b_M_note 70 = .ok (.iconst 1, 1) := by decide +kernel
theorem d_M_note_71 : decode b_M_note 71 = .ok (.invokevirtual 41, 3) := by decide +kernel
theorem d_M_note_74 : decode b_M_note 74 = .ok (.bipush 115, 2) := by decide +kernel
theorem d_M_note_76 : decode b_M_note 76 = .ok (.if_icmp .ne 26, 3) := by decide +kernel
theorem d_M_note_79 : decode b_M_note 79 = .ok (.aload_n 0, 1) := by decide +kernel
theorem d_M_note_80 : decode b_M_note 80 = .ok (.iconst 2, 1) := by decide +kernel
theorem d_M_note_81 : decode b_M_note 81 = .ok (.invokevirtual 41, 3) := by decide +kernel
theorem d_M_note_84 : decode b_M_note 84 = .ok (.bipush 115, 2) := by decide +kernel
theorem d_M_note_86 : decode b_M_note 86 = .ok (.if_icmp .eq 16, 3) := by decide +kernel
theorem d_M_note_89 : decode b_M_note 89 = .ok (.aload_n 0, 1) := by decide +kernel
theorem d_M_note_90 : decode b_M_note 90 = .ok (.iconst 2, 1) := by decide +kernel
theorem d_M_note_91 : decode b_M_note 91 = .ok (.invokevirtual 41, 3) := by decide +kernel
theorem d_M_note_94 : decode b_M_note 94 = .ok (.bipush 117, 2) := by decide +kernel
theorem d_M_note_96 : decode b_M_note 96 = .ok (.if_icmp .eq 6, 3) := by decide +kernel
theorem d_M_note_99 : decode b_M_note 99 = .ok (.iinc 3 (-1), 3) := by decide +kernel
theorem d_M_note_102 : decode b_M_note 102 = .ok (.iload_n 3, 1) := by decide +kernel
theorem d_M_note_103 : decode b_M_note 103 = .ok (.bipush 24, 2) := by decide +kernel
theorem d_M_note_105 : decode b_M_note 105 = .ok (.if_icmp .le 6, 3) := by decide +kernel
theorem d_M_note_108 : decode b_M_note 108 = .ok (.bipush 24, 2) := by decide +kernel
theorem d_M_note_110 : decode b_M_note 110 = .ok (.istore_n 3, 1) := by decide +kernel
theorem d_M_note_111 : decode b_M_note 111 = .ok (.iconst 0, 1) := by decide +kernel
theorem d_M_note_112 : decode b_M_note 112 = .ok (.istore 4, 2) := by decide +kernel
theorem d_M_note_114 : decode b_M_note 114 = .ok (.iload 4, 2) := by decide +kernel
theorem d_M_note_116 : decode b_M_note 116 = .ok (.iload_n 3, 1) := by decide +kernel
theorem d_M_note_117 : decode b_M_note 117 = .ok (.if_icmp .ge 28, 3) := by decide +kernel
theorem d_M_note_120 : decode b_M_note 120 = .ok (.aload_n 0, 1) := by decide +kernel
theorem d_M_note_121 : decode b_M_note 121 = .ok (.getfield 13, 3) := by decide +kernel
theorem d_M_note_124 : decode b_M_note 124 = .ok (.bipush 24, 2) := by decide +kernel
theorem d_M_note_126 : decode b_M_note 126 = .ok (.iload_n 1, 1) := by decide +kernel
theorem d_M_note_127 : decode b_M_note 127 = .ok (.imul, 1) := by decide +kernel
theorem d_M_note_128 : decode b_M_note 128 = .ok (.iload 4, 2) := by decide +kernel
theorem d_M_note_130 : decode b_M_note 130 = .ok (.iadd, 1) := by decide +kernel
theorem d_M_note_131 : decode b_M_note 131 = .ok (.aload_n 0, 1) := by decide +kernel
theorem d_M_note_132 : decode b_M_note 132 = .ok (.getfield 20, 3) := by decide +kernel
theorem d_M_note_135 : decode b_M_note 135 = .ok (.iload 4, 2) := by decide +kernel
theorem d_M_note_137 : decode b_M_note 137 = .ok (.baload, 1) := by decide +kernel
theorem d_M_note_138 : decode b_M_note 138 = .ok (.bastore, 1) := by decide +kernel
theorem d_M_note_139 : decode b_M_note 139 = .ok (.iinc 4 1, 3) := by decide +kernel
theorem d_M_note_142 : decode b_M_note 142 = .ok (.goto (-28), 3) := by decide +kernel
theorem d_M_note_145 : decode b_M_note 145 = .ok (.aload_n 0, 1) := by decide +kernel
theorem d_M_note_146 : decode b_M_note 146 = .ok (.getfield 16, 3) := by decide +kernel
theorem d_M_note_149 : decode b_M_note 149 = .ok (.iload_n 1, 1) := by decide +kernel
theorem d_M_note_150 : decode b_M_note 150 = .ok (.iload_n 3, 1) := by decide +kernel
theorem d_M_note_151 : decode b_M_note 151 = .ok (.iastore, 1) := by decide +kernel
theorem d_M_note_152 : decode b_M_note 152 = .ok (.return_, 1) := by decide +kernel
theorem d_M_oneWord_0 : decode b_M_oneWord 0 = .ok (.aload_n 0, 1) := by decide +kernel
theorem d_M_oneWord_1 : decode b_M_oneWord 1 = .ok (.getfield 26, 3) := by decide +kernel
theorem d_M_oneWord_4 : decode b_M_oneWord 4 = .ok (.ifCond .le 19, 3) := by decide +kernel
theorem d_M_oneWord_7 : decode b_M_oneWord 7 = .ok (.aload_n 0, 1) := by decide +kernel
theorem d_M_oneWord_8 : decode b_M_oneWord 8 = .ok (.iconst 0, 1) := by decide +kernel
theorem d_M_oneWord_9 : decode b_M_oneWord 9 = .ok (.invokevirtual 45, 3) := by decide +kernel
theorem d_M_oneWord_12 : decode b_M_oneWord 12 = .ok (.aload_n 0, 1) := by decide +kernel
theorem d_M_oneWord_13 : decode b_M_oneWord 13 = .ok (.getfield 26, 3) := by decide +kernel
theorem d_M_oneWord_16 : decode b_M_oneWord 16 = .ok (.if_icmp .ne 7, 3) := by decide +kernel
theorem d_M_oneWord_19 : decode b_M_oneWord 19 = .ok (.iconst 1, 1) := by decide +kernel
theorem d_M_oneWord_20 : decode b_M_oneWord 20 = .ok (.goto 4, 3) := by decide +kernel
theorem d_M_oneWord_23 : decode b_M_oneWord 23 = .ok (.iconst 0, 1) := by decide +kernel
theorem d_M_oneWord_24 : decode b_M_oneWord 24 = .ok (.istore_n 1, 1) := by decide +kernel
theorem d_M_oneWord_25 : decode b_M_oneWord 25 = .ok (.aload_n 0, 1) := by decide +kernel
theorem d_M_oneWord_26 : decode b_M_oneWord 26 = .ok (.iconst 0, 1) := by decide +kernel
theorem d_M_oneWord_27 : decode b_M_oneWord 27 = .ok (.putfield 26, 3) := by decide +kernel
theorem d_M_oneWord_30 : decode b_M_oneWord 30 = .ok (.iload_n 1, 1) := by decide +kernel
theorem d_M_oneWord_31 : decode b_M_oneWord 31 = .ok (.ireturn, 1) := by decide +kernel
theorem d_M_read_0 : decode b_M_read 0 = .ok (.aload_n 0, 1) := by decide +kernel
theorem d_M_read_1 : decode b_M_read 1 = .ok (.iconst 0, 1) := by decide +kernel
theorem d_M_read_2 : decode b_M_read 2 = .ok (.putfield 48, 3) := by decide +kernel
theorem d_M_read_5 : decode b_M_read 5 = .ok (.iconst 0, 1) := by decide +kernel
theorem d_M_read_6 : decode b_M_read 6 = .ok (.istore_n 1, 1) := by decide +kernel
theorem d_M_read_7 : decode b_M_read 7 = .ok (.iload_n 1, 1) := by decide +kernel
theorem d_M_read_8 : decode b_M_read 8 = .ok (.aload_n 0, 1) := by decide +kernel
theorem d_M_read_9 : decode b_M_read 9 = .ok (.getfield 26, 3) := by decide +kernel
theorem d_M_read_12 : decode b_M_read 12 = .ok (.if_icmp .ge 49, 3) := by decide +kernel
theorem d_M_read_15 : decode b_M_read 15 = .ok (.aload_n 0, 1) := by decide +kernel
theorem d_M_read_16 : decode b_M_read 16 = .ok (.getfield 9, 3) := by decide +kernel
theorem d_M_read_19 : decode b_M_read 19 = .ok (.iload_n 1, 1) := by decide +kernel
theorem d_M_read_20 : decode b_M_read 20 = .ok (.baload, 1) := by decide +kernel
theorem d_M_read_21 : decode b_M_read 21 = .ok (.invokestatic 37, 3) := by decide +kernel
theorem d_M_read_24 : decode b_M_read 24 = .ok (.ifCond .ne 9, 3) := by decide +kernel
theorem d_M_read_27 : decode b_M_read 27 = .ok (.iinc 1 1, 3) := by decide +kernel
theorem d_M_read_30 : decode b_M_read 30 = .ok (.goto (-23), 3) := by decide +kernel
theorem d_M_read_33 : decode b_M_read 33 = .ok (.aload_n 0, 1) := by decide +kernel
theorem d_M_read_34 : decode b_M_read 34 = .ok (.iload_n 1, 1) := by decide +kernel
theorem d_M_read_35 : decode b_M_read 35 = .ok (.invokevirtual 45, 3) := by decide +kernel
theorem d_M_read_38 : decode b_M_read 38 = .ok (.istore_n 1, 1) := by decide +kernel
theorem d_M_read_39 : decode b_M_read 39 = .ok (.aload_n 0, 1) := by decide +kernel
theorem d_M_read_40 : decode b_M_read 40 = .ok (.aload_n 0, 1) := by decide +kernel
theorem d_M_read_41 : decode b_M_read 41 = .ok (.getfield 48, 3) := by decide +kernel
theorem d_M_read_44 : decode b_M_read 44 = .ok (.iconst 1, 1) := by decide +kernel
theorem d_M_read_45 : decode b_M_read 45 = .ok (.invokevirtual 51, 3) := by decide +kernel
theorem d_M_read_48 : decode b_M_read 48 = .ok (.aload_n 0, 1) := by decide +kernel
theorem d_M_read_49 : decode b_M_read 49 = .ok (.dup, 1) := by decide +kernel
theorem d_M_read_50 : decode b_M_read 50 = .ok (.getfield 48, 3) := by decide +kernel
theorem d_M_read_53 : decode b_M_read 53 = .ok (.iconst 1, 1) := by decide +kernel
theorem d_M_read_54 : decode b_M_read 54 = .ok (.iadd, 1) := by decide +kernel
theorem d_M_read_55 : decode b_M_read 55 = .ok (.putfield 48, 3) := by decide +kernel
theorem d_M_read_58 : decode b_M_read 58 = .ok (.goto (-51), 3) := by decide +kernel
theorem d_M_read_61 : decode b_M_read 61 = .ok (.aload_n 0, 1) := by decide +kernel
theorem d_M_read_62 : decode b_M_read 62 = .ok (.iconst 0, 1) := by decide +kernel
theorem d_M_read_63 : decode b_M_read 63 = .ok (.putfield 26, 3) := by decide +kernel
theorem d_M_read_66 : decode b_M_read 66 = .ok (.aload_n 0, 1) := by decide +kernel
theorem d_M_read_67 : decode b_M_read 67 = .ok (.getfield 48, 3) := by decide +kernel
theorem d_M_read_70 : decode b_M_read 70 = .ok (.ireturn, 1) := by decide +kernel
theorem d_M_is_0 : decode b_M_is 0 = .ok (.iload_n 1, 1) := by decide +kernel
theorem d_M_is_1 : decode b_M_is 1 = .ok (.ifCond .lt 15, 3) := by decide +kernel
theorem d_M_is_4 : decode b_M_is 4 = .ok (.iload_n 1, 1) := by decide +kernel
theorem d_M_is_5 : decode b_M_is 5 = .ok (.aload_n 0, 1) := by decide +kernel
theorem d_M_is_6 : decode b_M_is 6 = .ok (.getfield 48, 3) := by decide +kernel
theorem d_M_is_9 : decode b_M_is 9 = .ok (.if_icmp .ge 7, 3) := by decide +kernel
theorem d_M_is_12 : decode b_M_is 12 = .ok (.iconst 1, 1) := by decide +kernel
theorem d_M_is_13 : decode b_M_is 13 = .ok (.goto 4, 3) := by decide +kernel
theorem d_M_is_16 : decode b_M_is 16 = .ok (.iconst 0, 1) := by decide +kernel
theorem d_M_is_17 : decode b_M_is 17 = .ok (.ireturn, 1) := by decide +kernel
theorem d_M_sign_0 : decode b_M_sign 0 = .ok (.aload_n 0, 1) := by decide +kernel
theorem d_M_sign_1 : decode b_M_sign 1 = .ok (.iload_n 1, 1) := by decide +kernel
theorem d_M_sign_2 : decode b_M_sign 2 = .ok (.invokevirtual 55, 3) := by decide +kernel
theorem d_M_sign_5 : decode b_M_sign 5 = .ok (.ifCond .eq 18, 3) := by decide +kernel
theorem d_M_sign_8 : decode b_M_sign 8 = .ok (.iload_n 2, 1) := by decide +kernel
theorem d_M_sign_9 : decode b_M_sign 9 = .ok (.iconst (-1), 1) := by decide +kernel
theorem d_M_sign_10 : decode b_M_sign 10 = .ok (.if_icmp .lt 13, 3) := by decide +kernel
theorem d_M_sign_13 : decode b_M_sign 13 = .ok (.iload_n 2, 1) := by decide +kernel
theorem d_M_sign_14 : decode b_M_sign 14 = .ok (.aload_n 0, 1) := by decide +kernel
theorem d_M_sign_15 : decode b_M_sign 15 = .ok (.getfield 16, 3) := by decide +kernel
theorem d_M_sign_18 : decode b_M_sign 18 = .ok (.iload_n 1, 1) := by decide +kernel
theorem d_M_sign_19 : decode b_M_sign 19 = .ok (.iaload, 1) := by decide +kernel
theorem d_M_sign_20 : decode b_M_sign 20 = .ok (.if_icmp .lt 6, 3) := by decide +kernel
theorem d_M_sign_23 : decode b_M_sign 23 = .ok (.bipush (-2), 2) := by decide +kernel
theorem d_M_sign_25 : decode b_M_sign 25 = .ok (.ireturn, 1) := by decide +kernel
theorem d_M_sign_26 : decode b_M_sign 26 = .ok (.iload_n 2, 1) := by decide +kernel
theorem d_M_sign_27 : decode b_M_sign 27 = .ok (.iconst (-1), 1) := by decide +kernel
theorem d_M_sign_28 : decode b_M_sign 28 = .ok (.if_icmp .ne 12, 3) := by decide +kernel
theorem d_M_sign_31 : decode b_M_sign 31 = .ok (.aload_n 0, 1) := by decide +kernel
theorem d_M_sign_32 : decode b_M_sign 32 = .ok (.getfield 16, 3) := by decide +kernel
theorem d_M_sign_35 : decode b_M_sign 35 = .ok (.iload_n 1, 1) := by decide +kernel
theorem d_M_sign_36 : decode b_M_sign 36 = .ok (.iaload, 1) := by decide +kernel
theorem d_M_sign_37 : decode b_M_sign 37 = .ok (.goto 14, 3) := by decide +kernel
theorem d_M_sign_40 : decode b_M_sign 40 = .ok (.aload_n 0, 1) := by decide +kernel
theorem d_M_sign_41 : decode b_M_sign 41 = .ok (.getfield 13, 3) := by decide +kernel
theorem d_M_sign_44 : decode b_M_sign 44 = .ok (.bipush 24, 2) := by decide +kernel
theorem d_M_sign_46 : decode b_M_sign 46 = .ok (.iload_n 1, 1) := by decide +kernel
theorem d_M_sign_47 : decode b_M_sign 47 = .ok (.imul, 1) := by decide +kernel
theorem d_M_sign_48 : decode b_M_sign 48 = .ok (.iload_n 2, 1) := by decide +kernel
theorem d_M_sign_49 : decode b_M_sign 49 = .ok (.iadd, 1) := by decide +kernel
theorem d_M_sign_50 : decode b_M_sign 50 = .ok (.baload, 1) := by decide +kernel
theorem d_M_sign_51 : decode b_M_sign 51 = .ok (.ireturn, 1) := by decide +kernel
theorem d_M_order_0 : decode b_M_order 0 = .ok (.iconst 0, 1) := by decide +kernel
theorem d_M_order_1 : decode b_M_order 1 = .ok (.istore_n 3, 1) := by decide +kernel
theorem d_M_order_2 : decode b_M_order 2 = .ok (.iload_n 3, 1) := by decide +kernel
theorem d_M_order_3 : decode b_M_order 3 = .ok (.aload_n 0, 1) := by decide +kernel
theorem d_M_order_4 : decode b_M_order 4 = .ok (.getfield 16, 3) := by decide +kernel
theorem d_M_order_7 : decode b_M_order 7 = .ok (.iload_n 1, 1) := by decide +kernel
theorem d_M_order_8 : decode b_M_order 8 = .ok (.iaload, 1) := by decide +kernel
theorem d_M_order_9 : decode b_M_order 9 = .ok (.if_icmp .ge 75, 3) := by decide +kernel
theorem d_M_order_12 : decode b_M_order 12 = .ok (.iload_n 3, 1) := by decide +kernel
theorem d_M_order_13 : decode b_M_order 13 = .ok (.aload_n 0, 1) := by decide +kernel
theorem d_M_order_14 : decode b_M_order 14 = .ok (.getfield 16, 3) := by decide +kernel
theorem d_M_order_17 : decode b_M_order 17 = .ok (.iload_n 2, 1) := by decide +kernel
theorem d_M_order_18 : decode b_M_order 18 = .ok (.iaload, 1) := by decide +kernel
theorem d_M_order_19 : decode b_M_order 19 = .ok (.if_icmp .ge 65, 3) := by decide +kernel
theorem d_M_order_22 : decode b_M_order 22 = .ok (.aload_n 0, 1) := by decide +kernel
theorem d_M_order_23 : decode b_M_order 23 = .ok (.getfield 13, 3) := by decide +kernel
theorem d_M_order_26 : decode b_M_order 26 = .ok (.bipush 24, 2) := by decide +kernel
theorem d_M_order_28 : decode b_M_order 28 = .ok (.iload_n 1, 1) := by decide +kernel
theorem d_M_order_29 : decode b_M_order 29 = .ok (.imul, 1) := by decide +kernel
theorem d_M_order_30 : decode b_M_order 30 = .ok (.iload_n 3, 1) := by decide +kernel
theorem d_M_order_31 : decode b_M_order 31 = .ok (.iadd, 1) := by decide +kernel
theorem d_M_order_32 : decode b_M_order 32 = .ok (.baload, 1) := by decide +kernel
theorem d_M_order_33 : decode b_M_order 33 = .ok (.aload_n 0, 1) := by decide +kernel
theorem d_M_order_34 : decode b_M_order 34 = .ok (.getfield 13, 3) := by decide +kernel
theorem d_M_order_37 : decode b_M_order 37 = .ok (.bipush 24, 2) := by decide +kernel
theorem d_M_order_39 : decode b_M_order 39 = .ok (.iload_n 2, 1) := by decide +kernel
theorem d_M_order_40 : decode b_M_order 40 = .ok (.imul, 1) := by decide +kernel
theorem d_M_order_41 : decode b_M_order 41 = .ok (.iload_n 3, 1) := by decide +kernel
theorem d_M_order_42 : decode b_M_order 42 = .ok (.iadd, 1) := by decide +kernel
theorem d_M_order_43 : decode b_M_order 43 = .ok (.baload, 1) := by decide +kernel
theorem d_M_order_44 : decode b_M_order 44 = .ok (.if_icmp .eq 34, 3) := by decide +kernel
theorem d_M_order_47 : decode b_M_order 47 = .ok (.aload_n 0, 1) := by decide +kernel
theorem d_M_order_48 : decode b_M_order 48 = .ok (.getfield 13, 3) := by decide +kernel
theorem d_M_order_51 : decode b_M_order 51 = .ok (.bipush 24, 2) := by decide +kernel
theorem d_M_order_53 : decode b_M_order 53 = .ok (.iload_n 1, 1) := by decide +kernel
theorem d_M_order_54 : decode b_M_order 54 = .ok (.imul, 1) := by decide +kernel
theorem d_M_order_55 : decode b_M_order 55 = .ok (.iload_n 3, 1) := by decide +kernel
theorem d_M_order_56 : decode b_M_order 56 = .ok (.iadd, 1) := by decide +kernel
theorem d_M_order_57 : decode b_M_order 57 = .ok (.baload, 1) := by decide +kernel
theorem d_M_order_58 : decode b_M_order 58 = .ok (.aload_n 0, 1) := by decide +kernel
theorem d_M_order_59 : decode b_M_order 59 = .ok (.getfield 13, 3) := by decide +kernel
theorem d_M_order_62 : decode b_M_order 62 = .ok (.bipush 24, 2) := by decide +kernel
theorem d_M_order_64 : decode b_M_order 64 = .ok (.iload_n 2, 1) := by decide +kernel
theorem d_M_order_65 : decode b_M_order 65 = .ok (.imul, 1) := by decide +kernel
theorem d_M_order_66 : decode b_M_order 66 = .ok (.iload_n 3, 1) := by decide +kernel
theorem d_M_order_67 : decode b_M_order 67 = .ok (.iadd, 1) := by decide +kernel
theorem d_M_order_68 : decode b_M_order 68 = .ok (.baload, 1) := by decide +kernel
theorem d_M_order_69 : decode b_M_order 69 = .ok (.if_icmp .ge 7, 3) := by decide +kernel
theorem d_M_order_72 : decode b_M_order 72 = .ok (.iconst (-1), 1) := by decide +kernel
theorem d_M_order_73 : decode b_M_order 73 = .ok (.goto 4, 3) := by decide +kernel
theorem d_M_order_76 : decode b_M_order 76 = .ok (.iconst 1, 1) := by decide +kernel
theorem d_M_order_77 : decode b_M_order 77 = .ok (.ireturn, 1) := by decide +kernel
theorem d_M_order_78 : decode b_M_order 78 = .ok (.iinc 3 1, 3) := by decide +kernel
theorem d_M_order_81 : decode b_M_order 81 = .ok (.goto (-79), 3) := by decide +kernel
theorem d_M_order_84 : decode b_M_order 84 = .ok (.aload_n 0, 1) := by decide +kernel
theorem d_M_order_85 : decode b_M_order 85 = .ok (.getfield 16, 3) := by decide +kernel
theorem d_M_order_88 : decode b_M_order 88 = .ok (.iload_n 1, 1) := by decide +kernel
theorem d_M_order_89 : decode b_M_order 89 = .ok (.iaload, 1) := by decide +kernel
theorem d_M_order_90 : decode b_M_order 90 = .ok (.aload_n 0, 1) := by decide +kernel
theorem d_M_order_91 : decode b_M_order 91 = .ok (.getfield 16, 3) := by decide +kernel
theorem d_M_order_94 : decode b_M_order 94 = .ok (.iload_n 2, 1) := by decide +kernel
theorem d_M_order_95 : decode b_M_order 95 = .ok (.iaload, 1) := by decide +kernel
theorem d_M_order_96 : decode b_M_order 96 = .ok (.if_icmp .ge 7, 3) := by decide +kernel
theorem d_M_order_99 : decode b_M_order 99 = .ok (.iconst (-1), 1) := by decide +kernel
theorem d_M_order_100 : decode b_M_order 100 = .ok (.goto 23, 3) := by decide +kernel
theorem d_M_order_103 : decode b_M_order 103 = .ok (.aload_n 0, 1) := by decide +kernel
theorem d_M_order_104 : decode b_M_order 104 = .ok (.getfield 16, 3) := by decide +kernel
theorem d_M_order_107 : decode b_M_order 107 = .ok (.iload_n 1, 1) := by decide +kernel
theorem d_M_order_108 : decode b_M_order 108 = .ok (.iaload, 1) := by decide +kernel
theorem d_M_order_109 : decode b_M_order 109 = .ok (.aload_n 0, 1) := by decide +kernel
theorem d_M_order_110 : decode b_M_order 110 = .ok (.getfield 16, 3) := by decide +kernel
theorem d_M_order_113 : decode b_M_order 113 = .ok (.iload_n 2, 1) := by decide +kernel
theorem d_M_order_114 : decode b_M_order 114 = .ok (.iaload, 1) := by decide +kernel
theorem d_M_order_115 : decode b_M_order 115 = .ok (.if_icmp .le 7, 3) := by decide +kernel
theorem d_M_order_118 : decode b_M_order 118 = .ok (.iconst 1, 1) := by decide +kernel
theorem d_M_order_119 : decode b_M_order 119 = .ok (.goto 4, 3) := by decide +kernel
theorem d_M_order_122 : decode b_M_order 122 = .ok (.iconst 0, 1) := by decide +kernel
theorem d_M_order_123 : decode b_M_order 123 = .ok (.ireturn, 1) := by decide +kernel
theorem d_M_first_0 : decode b_M_first 0 = .ok (.aload_n 0, 1) := by decide +kernel
theorem d_M_first_1 : decode b_M_first 1 = .ok (.iload_n 1, 1) := by decide +kernel
theorem d_M_first_2 : decode b_M_first 2 = .ok (.invokevirtual 55, 3) := by decide +kernel
theorem d_M_first_5 : decode b_M_first 5 = .ok (.ifCond .ne 6, 3) := by decide +kernel
theorem d_M_first_8 : decode b_M_first 8 = .ok (.bipush (-2), 2) := by decide +kernel
theorem d_M_first_10 : decode b_M_first 10 = .ok (.ireturn, 1) := by decide +kernel
theorem d_M_first_11 : decode b_M_first 11 = .ok (.iconst 0, 1) := by decide +kernel
theorem d_M_first_12 : decode b_M_first 12 = .ok (.istore_n 2, 1) := by decide +kernel
theorem d_M_first_13 : decode b_M_first 13 = .ok (.aload_n 0, 1) := by decide +kernel
theorem d_M_first_14 : decode b_M_first 14 = .ok (.iload_n 2, 1) := by decide +kernel
theorem d_M_first_15 : decode b_M_first 15 = .ok (.iload_n 1, 1) := by decide +kernel
theorem d_M_first_16 : decode b_M_first 16 = .ok (.invokevirtual 58, 3) := by decide +kernel
theorem d_M_first_19 : decode b_M_first 19 = .ok (.ifCond .eq 9, 3) := by decide +kernel
theorem d_M_first_22 : decode b_M_first 22 = .ok (.iinc 2 1, 3) := by decide +kernel
theorem d_M_first_25 : decode b_M_first 25 = .ok (.goto (-12), 3) := by decide +kernel
theorem d_M_first_28 : decode b_M_first 28 = .ok (.iload_n 2, 1) := by decide +kernel
theorem d_M_first_29 : decode b_M_first 29 = .ok (.ireturn, 1) := by decide +kernel
theorem d_M_different_0 : decode b_M_different 0 = .ok (.iconst 0, 1) := by decide +kernel
theorem d_M_different_1 : decode b_M_different 1 = .ok (.istore_n 1, 1) := by decide +kernel
theorem d_M_different_2 : decode b_M_different 2 = .ok (.iconst 0, 1) := by decide +kernel
theorem d_M_different_3 : decode b_M_different 3 = .ok (.istore_n 2, 1) := by decide +kernel
theorem d_M_different_4 : decode b_M_different 4 = .ok (.iload_n 2, 1) := by decide +kernel
theorem d_M_different_5 : decode b_M_different 5 = .ok (.aload_n 0, 1) := by decide +kernel
theorem d_M_different_6 : decode b_M_different 6 = .ok (.getfield 48, 3) := by decide +kernel
theorem d_M_different_9 : decode b_M_different 9 = .ok (.if_icmp .ge 26, 3) := by decide +kernel
theorem d_M_different_12 : decode b_M_different 12 = .ok (.iload_n 1, 1) := by decide +kernel
theorem d_M_different_13 : decode b_M_different 13 = .ok (.aload_n 0, 1) := by decide +kernel
theorem d_M_different_14 : decode b_M_different 14 = .ok (.iload_n 2, 1) := by decide +kernel
theorem d_M_different_15 : decode b_M_different 15 = .ok (.invokevirtual 62, 3) := by decide +kernel
theorem d_M_different_18 : decode b_M_different 18 = .ok (.iload_n 2, 1) := by decide +kernel
theorem d_M_different_19 : decode b_M_different 19 = .ok (.if_icmp .ne 7, 3) := by decide +kernel
theorem d_M_different_22 : decode b_M_different 22 = .ok (.iconst 1, 1) := by decide +kernel
theorem d_M_different_23 : decode b_M_different 23 = .ok (.goto 4, 3) := by decide +kernel
theorem d_M_different_26 : decode b_M_different 26 = .ok (.iconst 0, 1) := by decide +kernel
theorem d_M_different_27 : decode b_M_different 27 = .ok (.iadd, 1) := by decide +kernel
theorem d_M_different_28 : decode b_M_different 28 = .ok (.istore_n 1, 1) := by decide +kernel
theorem d_M_different_29 : decode b_M_different 29 = .ok (.iinc 2 1, 3) := by decide +kernel
theorem d_M_different_32 : decode b_M_different 32 = .ok (.goto (-28), 3) := by decide +kernel
theorem d_M_different_35 : decode b_M_different 35 = .ok (.iload_n 1, 1) := by decide +kernel
theorem d_M_different_36 : decode b_M_different 36 = .ok (.ireturn, 1) := by decide +kernel
theorem d_M_compare_0 : decode b_M_compare 0 = .ok (.aload_n 0, 1) := by decide +kernel
theorem d_M_compare_1 : decode b_M_compare 1 = .ok (.iload_n 1, 1) := by decide +kernel
theorem d_M_compare_2 : decode b_M_compare 2 = .ok (.invokevirtual 55, 3) := by decide +kernel
theorem d_M_compare_5 : decode b_M_compare 5 = .ok (.ifCond .eq 20, 3) := by decide +kernel
theorem d_M_compare_8 : decode b_M_compare 8 = .ok (.aload_n 0, 1) := by decide +kernel
theorem d_M_compare_9 : decode b_M_compare 9 = .ok (.iload_n 2, 1) := by decide +kernel
theorem d_M_compare_10 : decode b_M_compare 10 = .ok (.invokevirtual 55, 3) := by decide +kernel
theorem d_M_compare_13 : decode b_M_compare 13 = .ok (.ifCond .eq 12, 3) := by decide +kernel
theorem d_M_compare_16 : decode b_M_compare 16 = .ok (.aload_n 0, 1) := by decide +kernel
theorem d_M_compare_17 : decode b_M_compare 17 = .ok (.iload_n 1, 1) := by decide +kernel
theorem d_M_compare_18 : decode b_M_compare 18 = .ok (.iload_n 2, 1) := by decide +kernel
theorem d_M_compare_19 : decode b_M_compare 19 = .ok (.invokevirtual 58, 3) := by decide +kernel
theorem d_M_compare_22 : decode b_M_compare 22 = .ok (.goto 5, 3) := by decide +kernel
theorem d_M_compare_25 : decode b_M_compare 25 = .ok (.bipush (-2), 2) := by decide +kernel
theorem d_M_compare_27 : decode b_M_compare 27 = .ok (.ireturn, 1) := by decide +kernel
theorem d_M_distance_0 : decode b_M_distance 0 = .ok (.bipush 25, 2) := by decide +kernel
theorem d_M_distance_2 : decode b_M_distance 2 = .ok (.istore_n 3, 1) := by decide +kernel
theorem d_M_distance_3 : decode b_M_distance 3 = .ok (.iconst 0, 1) := by decide +kernel
theorem d_M_distance_4 : decode b_M_distance 4 = .ok (.istore 4, 2) := by decide +kernel
theorem d_M_distance_6 : decode b_M_distance 6 = .ok (.iload 4, 2) := by decide +kernel
theorem d_M_distance_8 : decode b_M_distance 8 = .ok (.aload_n 0, 1) := by decide +kernel
theorem d_M_distance_9 : decode b_M_distance 9 = .ok (.getfield 16, 3) := by decide +kernel
theorem d_M_distance_12 : decode b_M_distance 12 = .ok (.iload_n 1, 1) := by decide +kernel
theorem d_M_distance_13 : decode b_M_distance 13 = .ok (.iaload, 1) := by decide +kernel
theorem d_M_distance_14 : decode b_M_distance 14 = .ok (.if_icmp .gt 211, 3) := by decide +kernel
theorem d_M_distance_17 : decode b_M_distance 17 = .ok (.iconst 0, 1) := by decide +kernel
theorem d_M_distance_18 : decode b_M_distance 18 = .ok (.istore 5, 2) := by decide +kernel
theorem d_M_distance_20 : decode b_M_distance 20 = .ok (.iload 5, 2) := by decide +kernel
theorem d_M_distance_22 : decode b_M_distance 22 = .ok (.aload_n 0, 1) := by decide +kernel
theorem d_M_distance_23 : decode b_M_distance 23 = .ok (.getfield 16, 3) := by decide +kernel
theorem d_M_distance_26 : decode b_M_distance 26 = .ok (.iload_n 2, 1) := by decide +kernel
theorem d_M_distance_27 : decode b_M_distance 27 = .ok (.iaload, 1) := by decide +kernel
theorem d_M_distance_28 : decode b_M_distance 28 = .ok (.if_icmp .gt 191, 3) := by decide +kernel
theorem d_M_distance_31 : decode b_M_distance 31 = .ok (.iload 4, 2) := by decide +kernel
theorem d_M_distance_33 : decode b_M_distance 33 = .ok (.ifCond .ne 8, 3) := by decide +kernel
theorem d_M_distance_36 : decode b_M_distance 36 = .ok (.iload 5, 2) := by decide +kernel
theorem d_M_distance_38 : decode b_M_distance 38 = .ok (.goto 16, 3) := by decide +kernel
theorem d_M_distance_41 : decode b_M_distance 41 = .ok (.iload 5, 2) := by decide +kernel
theorem d_M_distance_43 : decode b_M_distance 43 = .ok (.ifCond .ne 8, 3) := by decide +kernel
theorem d_M_distance_46 : decode b_M_distance 46 = .ok (.iload 4, 2) := by decide +kernel
theorem d_M_distance_48 : decode b_M_distance 48 = .ok (.goto 6, 3) := by decide +kernel
theorem d_M_distance_51 : decode b_M_distance 51 = .ok (.sipush 1000, 3) := by decide +kernel
theorem d_M_distance_54 : decode b_M_distance 54 = .ok (.istore 6, 2) := by decide +kernel
theorem d_M_distance_56 : decode b_M_distance 56 = .ok (.iload 4, 2) := by decide +kernel
theorem d_M_distance_58 : decode b_M_distance 58 = .ok (.ifCond .le 141, 3) := by decide +kernel
theorem d_M_distance_61 : decode b_M_distance 61 = .ok (.iload 5, 2) := by decide +kernel
theorem d_M_distance_63 : decode b_M_distance 63 = .ok (.ifCond .le 136, 3) := by decide +kernel
theorem d_M_distance_66 : decode b_M_distance 66 = .ok (.aload_n 0, 1) := by decide +kernel
theorem d_M_distance_67 : decode b_M_distance 67 = .ok (.getfield 23, 3) := by decide +kernel
theorem d_M_distance_70 : decode b_M_distance 70 = .ok (.iload_n 3, 1) := by decide +kernel
theorem d_M_distance_71 : decode b_M_distance 71 = .ok (.iload 4, 2) := by decide +kernel
theorem d_M_distance_73 : decode b_M_distance 73 = .ok (.iconst 1, 1) := by decide +kernel
theorem d_M_distance_74 : decode b_M_distance 74 = .ok (.isub, 1) := by decide +kernel
theorem d_M_distance_75 : decode b_M_distance 75 = .ok (.imul, 1) := by decide +kernel
theorem d_M_distance_76 : decode b_M_distance 76 = .ok (.iload 5, 2) := by decide +kernel
theorem d_M_distance_78 : decode b_M_distance 78 = .ok (.iadd, 1) := by decide +kernel
theorem d_M_distance_79 : decode b_M_distance 79 = .ok (.iconst 1, 1) := by decide +kernel
theorem d_M_distance_80 : decode b_M_distance 80 = .ok (.isub, 1) := by decide +kernel
theorem d_M_distance_81 : decode b_M_distance 81 = .ok (.iaload, 1) := by decide +kernel
theorem d_M_distance_82 : decode b_M_distance 82 = .ok (.aload_n 0, 1) := by decide +kernel
theorem d_M_distance_83 : decode b_M_distance 83 = .ok (.getfield 13, 3) := by decide +kernel
theorem d_M_distance_86 : decode b_M_distance 86 = .ok (.bipush 24, 2) := by decide +kernel
theorem d_M_distance_88 : decode b_M_distance 88 = .ok (.iload_n 1, 1) := by decide +kernel
theorem d_M_distance_89 : decode b_M_distance 89 = .ok (.imul, 1) := by decide +kernel
theorem d_M_distance_90 : decode b_M_distance 90 = .ok (.iload 4, 2) := by decide +kernel
theorem d_M_distance_92 : decode b_M_distance 92 = .ok (.iadd, 1) := by decide +kernel
theorem d_M_distance_93 : decode b_M_distance 93 = .ok (.iconst 1, 1) := by decide +kernel
theorem d_M_distance_94 : decode b_M_distance 94 = .ok (.isub, 1) := by decide +kernel
theorem d_M_distance_95 : decode b_M_distance 95 = .ok (.baload, 1) := by decide +kernel
theorem d_M_distance_96 : decode b_M_distance 96 = .ok (.aload_n 0, 1) := by decide +kernel
theorem d_M_distance_97 : decode b_M_distance 97 = .ok (.getfield 13, 3) := by decide +kernel
theorem d_M_distance_100 : decode b_M_distance 100 = .ok (.bipush 24, 2) := by decide +kernel
theorem d_M_distance_102 : decode b_M_distance 102 = .ok (.iload_n 2, 1) := by decide +kernel
theorem d_M_distance_103 : decode b_M_distance 103 = .ok (.imul, 1) := by decide +kernel
theorem d_M_distance_104 : decode b_M_distance 104 = .ok (.iload 5, 2) := by decide +kernel
theorem d_M_distance_106 : decode b_M_distance 106 = .ok (.iadd, 1) := by decide +kernel
theorem d_M_distance_107 : decode b_M_distance 107 = .ok (.iconst 1, 1) := by decide +kernel
theorem d_M_distance_108 : decode b_M_distance 108 = .ok (.isub, 1) := by decide +kernel
theorem d_M_distance_109 : decode b_M_distance 109 = .ok (.baload, 1) := by decide +kernel
theorem d_M_distance_110 : decode b_M_distance 110 = .ok (.if_icmp .ne 7, 3) := by decide +kernel
theorem d_M_distance_113 : decode b_M_distance 113 = .ok (.iconst 0, 1) := by decide +kernel
theorem d_M_distance_114 : decode b_M_distance 114 = .ok (.goto 4, 3) := by decide +kernel
theorem d_M_distance_117 : decode b_M_distance 117 = .ok (.iconst 1, 1) := by decide +kernel
theorem d_M_distance_118 : decode b_M_distance 118 = .ok (.iadd, 1) := by decide +kernel
theorem d_M_distance_119 : decode b_M_distance 119 = .ok (.istore 6, 2) := by decide +kernel
theorem d_M_distance_121 : decode b_M_distance 121 = .ok (.aload_n 0, 1) := by decide +kernel
theorem d_M_distance_122 : decode b_M_distance 122 = .ok (.getfield 23, 3) := by decide +kernel
theorem d_M_distance_125 : decode b_M_distance 125 = .ok (.iload_n 3, 1) := by decide +kernel
theorem d_M_distance_126 : decode b_M_distance 126 = .ok (.iload 4, 2) := by decide +kernel
theorem d_M_distance_128 : decode b_M_distance 128 = .ok (.iconst 1, 1) := by decide +kernel
theorem d_M_distance_129 : decode b_M_distance 129 = .ok (.isub, 1) := by decide +kernel
theorem d_M_distance_130 : decode b_M_distance 130 = .ok (.imul, 1) := by decide +kernel
theorem d_M_distance_131 : decode b_M_distance 131 = .ok (.iload 5, 2) := by decide +kernel
theorem d_M_distance_133 : decode b_M_distance 133 = .ok (.iadd, 1) := by decide +kernel
theorem d_M_distance_134 : decode b_M_distance 134 = .ok (.iaload, 1) := by decide +kernel
theorem d_M_distance_135 : decode b_M_distance 135 = .ok (.iconst 1, 1) := by decide +kernel
theorem d_M_distance_136 : decode b_M_distance 136 = .ok (.iadd, 1) := by decide +kernel
theorem d_M_distance_137 : decode b_M_distance 137 = .ok (.iload 6, 2) := by decide +kernel
theorem d_M_distance_139 : decode b_M_distance 139 = .ok (.if_icmp .ge 21, 3) := by decide +kernel
theorem d_M_distance_142 : decode b_M_distance 142 = .ok (.aload_n 0, 1) := by decide +kernel
theorem d_M_distance_143 : decode b_M_distance 143 = .ok (.getfield 23, 3) := by decide +kernel
theorem d_M_distance_146 : decode b_M_distance 146 = .ok (.iload_n 3, 1) := by decide +kernel
theorem d_M_distance_147 : decode b_M_distance 147 = .ok (.iload 4, 2) := by decide +kernel
theorem d_M_distance_149 : decode b_M_distance 149 = .ok (.iconst 1, 1) := by decide +kernel
theorem d_M_distance_150 : decode b_M_distance 150 = .ok (.isub, 1) := by decide +kernel
theorem d_M_distance_151 : decode b_M_distance 151 = .ok (.imul, 1) := by decide +kernel
theorem d_M_distance_152 : decode b_M_distance 152 = .ok (.iload 5, 2) := by decide +kernel
theorem d_M_distance_154 : decode b_M_distance 154 = .ok (.iadd, 1) := by decide +kernel
theorem d_M_distance_155 : decode b_M_distance 155 = .ok (.iaload, 1) := by decide +kernel
theorem d_M_distance_156 : decode b_M_distance 156 = .ok (.iconst 1, 1) := by decide +kernel
theorem d_M_distance_157 : decode b_M_distance 157 = .ok (.iadd, 1) := by decide +kernel
theorem d_M_distance_158 : decode b_M_distance 158 = .ok (.istore 6, 2) := by decide +kernel
theorem d_M_distance_160 : decode b_M_distance 160 = .ok (.aload_n 0, 1) := by decide +kernel
theorem d_M_distance_161 : decode b_M_distance 161 = .ok (.getfield 23, 3) := by decide +kernel
theorem d_M_distance_164 : decode b_M_distance 164 = .ok (.iload_n 3, 1) := by decide +kernel
theorem d_M_distance_165 : decode b_M_distance 165 = .ok (.iload 4, 2) := by decide +kernel
theorem d_M_distance_167 : decode b_M_distance 167 = .ok (.imul, 1) := by decide +kernel
theorem d_M_distance_168 : decode b_M_distance 168 = .ok (.iload 5, 2) := by decide +kernel
theorem d_M_distance_170 : decode b_M_distance 170 = .ok (.iadd, 1) := by decide +kernel
theorem d_M_distance_171 : decode b_M_distance 171 = .ok (.iconst 1, 1) := by decide +kernel
theorem d_M_distance_172 : decode b_M_distance 172 = .ok (.isub, 1) := by decide +kernel
theorem d_M_distance_173 : decode b_M_distance 173 = .ok (.iaload, 1) := by decide +kernel
theorem d_M_distance_174 : decode b_M_distance 174 = .ok (.iconst 1, 1) := by decide +kernel
theorem d_M_distance_175 : decode b_M_distance 175 = .ok (.iadd, 1) := by decide +kernel
theorem d_M_distance_176 : decode b_M_distance 176 = .ok (.iload 6, 2) := by decide +kernel
theorem d_M_distance_178 : decode b_M_distance 178 = .ok (.if_icmp .ge 21, 3) := by decide +kernel
theorem d_M_distance_181 : decode b_M_distance 181 = .ok (.aload_n 0, 1) := by decide +kernel
theorem d_M_distance_182 : decode b_M_distance 182 = .ok (.getfield 23, 3) := by decide +kernel
theorem d_M_distance_185 : decode b_M_distance 185 = .ok (.iload_n 3, 1) := by decide +kernel
theorem d_M_distance_186 : decode b_M_distance 186 = .ok (.iload 4, 2) := by decide +kernel
theorem d_M_distance_188 : decode b_M_distance 188 = .ok (.imul, 1) := by decide +kernel
theorem d_M_distance_189 : decode b_M_distance 189 = .ok (.iload 5, 2) := by decide +kernel
theorem d_M_distance_191 : decode b_M_distance 191 = .ok (.iadd, 1) := by decide +kernel
theorem d_M_distance_192 : decode b_M_distance 192 = .ok (.iconst 1, 1) := by decide +kernel
theorem d_M_distance_193 : decode b_M_distance 193 = .ok (.isub, 1) := by decide +kernel
theorem d_M_distance_194 : decode b_M_distance 194 = .ok (.iaload, 1) := by decide +kernel
theorem d_M_distance_195 : decode b_M_distance 195 = .ok (.iconst 1, 1) := by decide +kernel
theorem d_M_distance_196 : decode b_M_distance 196 = .ok (.iadd, 1) := by decide +kernel
theorem d_M_distance_197 : decode b_M_distance 197 = .ok (.istore 6, 2) := by decide +kernel
theorem d_M_distance_199 : decode b_M_distance 199 = .ok (.aload_n 0, 1) := by decide +kernel
theorem d_M_distance_200 : decode b_M_distance 200 = .ok (.getfield 23, 3) := by decide +kernel
theorem d_M_distance_203 : decode b_M_distance 203 = .ok (.iload_n 3, 1) := by decide +kernel
theorem d_M_distance_204 : decode b_M_distance 204 = .ok (.iload 4, 2) := by decide +kernel
theorem d_M_distance_206 : decode b_M_distance 206 = .ok (.imul, 1) := by decide +kernel
theorem d_M_distance_207 : decode b_M_distance 207 = .ok (.iload 5, 2) := by decide +kernel
theorem d_M_distance_209 : decode b_M_distance 209 = .ok (.iadd, 1) := by decide +kernel
theorem d_M_distance_210 : decode b_M_distance 210 = .ok (.iload 6, 2) := by decide +kernel
theorem d_M_distance_212 : decode b_M_distance 212 = .ok (.iastore, 1) := by decide +kernel
theorem d_M_distance_213 : decode b_M_distance 213 = .ok (.iinc 5 1, 3) := by decide +kernel
theorem d_M_distance_216 : decode b_M_distance 216 = .ok (.goto (-196), 3) := by decide +kernel
theorem d_M_distance_219 : decode b_M_distance 219 = .ok (.iinc 4 1, 3) := by decide +kernel
theorem d_M_distance_222 : decode b_M_distance 222 = .ok (.goto (-216), 3) := by decide +kernel
theorem d_M_distance_225 : decode b_M_distance 225 = .ok (.aload_n 0, 1) := by decide +kernel
theorem d_M_distance_226 : decode b_M_distance 226 = .ok (.getfield 23, 3) := by decide +kernel
theorem d_M_distance_229 : decode b_M_distance 229 = .ok (.iload_n 3, 1) := by decide +kernel
theorem d_M_distance_230 : decode b_M_distance 230 = .ok (.aload_n 0, 1) := by decide +kernel
theorem d_M_distance_231 : decode b_M_distance 231 = .ok (.getfield 16, 3) := by decide +kernel
theorem d_M_distance_234 : decode b_M_distance 234 = .ok (.iload_n 1, 1) := by decide +kernel
theorem d_M_distance_235 : decode b_M_distance 235 = .ok (.iaload, 1) := by decide +kernel
theorem d_M_distance_236 : decode b_M_distance 236 = .ok (.imul, 1) := by decide +kernel
theorem d_M_distance_237 : decode b_M_distance 237 = .ok (.aload_n 0, 1) := by decide +kernel
theorem d_M_distance_238 : decode b_M_distance 238 = .ok (.getfield 16, 3) := by decide +kernel
theorem d_M_distance_241 : decode b_M_distance 241 = .ok (.iload_n 2, 1) := by decide +kernel
theorem d_M_distance_242 : decode b_M_distance 242 = .ok (.iaload, 1) := by decide +kernel
theorem d_M_distance_243 : decode b_M_distance 243 = .ok (.iadd, 1) := by decide +kernel
theorem d_M_distance_244 : decode b_M_distance 244 = .ok (.iaload, 1) := by decide +kernel
theorem d_M_distance_245 : decode b_M_distance 245 = .ok (.ireturn, 1) := by decide +kernel
theorem d_M_apart_0 : decode b_M_apart 0 = .ok (.aload_n 0, 1) := by decide +kernel
theorem d_M_apart_1 : decode b_M_apart 1 = .ok (.iload_n 1, 1) := by decide +kernel
theorem d_M_apart_2 : decode b_M_apart 2 = .ok (.invokevirtual 55, 3) := by decide +kernel
theorem d_M_apart_5 : decode b_M_apart 5 = .ok (.ifCond .ne 6, 3) := by decide +kernel
theorem d_M_apart_8 : decode b_M_apart 8 = .ok (.bipush (-2), 2) := by decide +kernel
theorem d_M_apart_10 : decode b_M_apart 10 = .ok (.ireturn, 1) := by decide +kernel
theorem d_M_apart_11 : decode b_M_apart 11 = .ok (.aload_n 0, 1) := by decide +kernel
theorem d_M_apart_12 : decode b_M_apart 12 = .ok (.invokevirtual 65, 3) := by decide +kernel
theorem d_M_apart_15 : decode b_M_apart 15 = .ok (.ifCond .ne 5, 3) := by decide +kernel
theorem d_M_apart_18 : decode b_M_apart 18 = .ok (.iconst (-1), 1) := by decide +kernel
theorem d_M_apart_19 : decode b_M_apart 19 = .ok (.ireturn, 1) := by decide +kernel
theorem d_M_apart_20 : decode b_M_apart 20 = .ok (.aload_n 0, 1) := by decide +kernel
theorem d_M_apart_21 : decode b_M_apart 21 = .ok (.sipush 150, 3) := by decide +kernel
theorem d_M_apart_24 : decode b_M_apart 24 = .ok (.iconst 1, 1) := by decide +kernel
theorem d_M_apart_25 : decode b_M_apart 25 = .ok (.invokevirtual 51, 3) := by decide +kernel
theorem d_M_apart_28 : decode b_M_apart 28 = .ok (.aload_n 0, 1) := by decide +kernel
theorem d_M_apart_29 : decode b_M_apart 29 = .ok (.iload_n 1, 1) := by decide +kernel
theorem d_M_apart_30 : decode b_M_apart 30 = .ok (.sipush 150, 3) := by decide +kernel
theorem d_M_apart_33 : decode b_M_apart 33 = .ok (.invokevirtual 69, 3) := by decide +kernel
theorem d_M_apart_36 : decode b_M_apart 36 = .ok (.ireturn, 1) := by decide +kernel
theorem d_M_nearest_0 : decode b_M_nearest 0 = .ok (.aload_n 0, 1) := by decide +kernel
theorem d_M_nearest_1 : decode b_M_nearest 1 = .ok (.invokevirtual 65, 3) := by decide +kernel
theorem d_M_nearest_4 : decode b_M_nearest 4 = .ok (.ifCond .ne 5, 3) := by decide +kernel
theorem d_M_nearest_7 : decode b_M_nearest 7 = .ok (.iconst (-1), 1) := by decide +kernel
theorem d_M_nearest_8 : decode b_M_nearest 8 = .ok (.ireturn, 1) := by decide +kernel
theorem d_M_nearest_9 : decode b_M_nearest 9 = .ok (.aload_n 0, 1) := by decide +kernel
theorem d_M_nearest_10 : decode b_M_nearest 10 = .ok (.sipush 150, 3) := by decide +kernel
theorem d_M_nearest_13 : decode b_M_nearest 13 = .ok (.iconst 1, 1) := by decide +kernel
theorem d_M_nearest_14 : decode b_M_nearest 14 = .ok (.invokevirtual 51, 3) := by decide +kernel
theorem d_M_nearest_17 : decode b_M_nearest 17 = .ok (.bipush (-2), 2) := by decide +kernel
theorem d_M_nearest_19 : decode b_M_nearest 19 = .ok (.istore_n 1, 1) := by decide +kernel
theorem d_M_nearest_20 : decode b_M_nearest 20 = .ok (.bipush 100, 2) := by decide +kernel
theorem d_M_nearest_22 : decode b_M_nearest 22 = .ok (.istore_n 2, 1) := by decide +kernel
theorem d_M_nearest_23 : decode b_M_nearest 23 = .ok (.iconst 0, 1) := by decide +kernel
theorem d_M_nearest_24 : decode b_M_nearest 24 = .ok (.istore_n 3, 1) := by decide +kernel
theorem d_M_nearest_25 : decode b_M_nearest 25 = .ok (.iload_n 3, 1) := by decide +kernel
theorem d_M_nearest_26 : decode b_M_nearest 26 = .ok (.aload_n 0, 1) := by decide +kernel
theorem d_M_nearest_27 : decode b_M_nearest 27 = .ok (.getfield 48, 3) := by decide +kernel
theorem d_M_nearest_30 : decode b_M_nearest 30 = .ok (.if_icmp .ge 33, 3) := by decide +kernel
theorem d_M_nearest_33 : decode b_M_nearest 33 = .ok (.aload_n 0, 1) := by decide +kernel
theorem d_M_nearest_34 : decode b_M_nearest 34 = .ok (.iload_n 3, 1) := by decide +kernel
theorem d_M_nearest_35 : decode b_M_nearest 35 = .ok (.sipush 150, 3) := by decide +kernel
theorem d_M_nearest_38 : decode b_M_nearest 38 = .ok (.invokevirtual 69, 3) := by decide +kernel
theorem d_M_nearest_41 : decode b_M_nearest 41 = .ok (.istore 4, 2) := by decide +kernel
theorem d_M_nearest_43 : decode b_M_nearest 43 = .ok (.iload 4, 2) := by decide +kernel
theorem d_M_nearest_45 : decode b_M_nearest 45 = .ok (.iload_n 2, 1) := by decide +kernel
theorem d_M_nearest_46 : decode b_M_nearest 46 = .ok (.if_icmp .lt 6, 3) := by decide +kernel
theorem d_M_nearest_49 : decode b_M_nearest 49 = .ok (.goto 8, 3) := by decide +kernel
theorem d_M_nearest_52 : decode b_M_nearest 52 = .ok (.iload_n 3, 1) := by decide +kernel
theorem d_M_nearest_53 : decode b_M_nearest 53 = .ok (.istore_n 1, 1) := by decide +kernel
theorem d_M_nearest_54 : decode b_M_nearest 54 = .ok (.iload 4, 2) := by decide +kernel
theorem d_M_nearest_56 : decode b_M_nearest 56 = .ok (.istore_n 2, 1) := by decide +kernel
theorem d_M_nearest_57 : decode b_M_nearest 57 = .ok (.iinc 3 1, 3) := by decide +kernel
theorem d_M_nearest_60 : decode b_M_nearest 60 = .ok (.goto (-35), 3) := by decide +kernel
theorem d_M_nearest_63 : decode b_M_nearest 63 = .ok (.iload_n 1, 1) := by decide +kernel
theorem d_M_nearest_64 : decode b_M_nearest 64 = .ok (.ireturn, 1) := by decide +kernel
theorem d_M_plain_0 : decode b_M_plain 0 = .ok (.aload_n 0, 1) := by decide +kernel
theorem d_M_plain_1 : decode b_M_plain 1 = .ok (.invokevirtual 65, 3) := by decide +kernel
theorem d_M_plain_4 : decode b_M_plain 4 = .ok (.ifCond .eq 13, 3) := by decide +kernel
theorem d_M_plain_7 : decode b_M_plain 7 = .ok (.aload_n 0, 1) := by decide +kernel
theorem d_M_plain_8 : decode b_M_plain 8 = .ok (.getfield 48, 3) := by decide +kernel
theorem d_M_plain_11 : decode b_M_plain 11 = .ok (.sipush 150, 3) := by decide +kernel
theorem d_M_plain_14 : decode b_M_plain 14 = .ok (.if_icmp .ne 5, 3) := by decide +kernel
theorem d_M_plain_17 : decode b_M_plain 17 = .ok (.iconst (-1), 1) := by decide +kernel
theorem d_M_plain_18 : decode b_M_plain 18 = .ok (.ireturn, 1) := by decide +kernel
theorem d_M_plain_19 : decode b_M_plain 19 = .ok (.aload_n 0, 1) := by decide +kernel
theorem d_M_plain_20 : decode b_M_plain 20 = .ok (.aload_n 0, 1) := by decide +kernel
theorem d_M_plain_21 : decode b_M_plain 21 = .ok (.getfield 48, 3) := by decide +kernel
theorem d_M_plain_24 : decode b_M_plain 24 = .ok (.iconst 0, 1) := by decide +kernel
theorem d_M_plain_25 : decode b_M_plain 25 = .ok (.invokevirtual 51, 3) := by decide +kernel
theorem d_M_plain_28 : decode b_M_plain 28 = .ok (.aload_n 0, 1) := by decide +kernel
theorem d_M_plain_29 : decode b_M_plain 29 = .ok (.dup, 1) := by decide +kernel
theorem d_M_plain_30 : decode b_M_plain 30 = .ok (.getfield 48, 3) := by decide +kernel
theorem d_M_plain_33 : decode b_M_plain 33 = .ok (.iconst 1, 1) := by decide +kernel
theorem d_M_plain_34 : decode b_M_plain 34 = .ok (.iadd, 1) := by decide +kernel
theorem d_M_plain_35 : decode b_M_plain 35 = .ok (.putfield 48, 3) := by decide +kernel
theorem d_M_plain_38 : decode b_M_plain 38 = .ok (.aload_n 0, 1) := by decide +kernel
theorem d_M_plain_39 : decode b_M_plain 39 = .ok (.getfield 48, 3) := by decide +kernel
theorem d_M_plain_42 : decode b_M_plain 42 = .ok (.ireturn, 1) := by decide +kernel
theorem d_L_law_0 : decode code 0 = .ok (.new 7, 3) := by decide +kernel
theorem d_L_law_3 : decode code 3 = .ok (.dup, 1) := by decide +kernel
theorem d_L_law_4 : decode code 4 = .ok (.invokespecial 9, 3) := by decide +kernel
theorem d_L_law_7 : decode code 7 = .ok (.astore_n 1, 1) := by decide +kernel
theorem d_L_law_8 : decode code 8 = .ok (.new 10, 3) := by decide +kernel
theorem d_L_law_11 : decode code 11 = .ok (.dup, 1) := by decide +kernel
theorem d_L_law_12 : decode code 12 = .ok (.invokespecial 12, 3) := by decide +kernel
theorem d_L_law_15 : decode code 15 = .ok (.astore_n 2, 1) := by decide +kernel
theorem d_L_law_16 : decode code 16 = .ok (.iconst 0, 1) := by decide +kernel
theorem d_L_law_17 : decode code 17 = .ok (.istore_n 3, 1) := by decide +kernel
theorem d_L_law_18 : decode code 18 = .ok (.iload_n 3, 1) := by decide +kernel
theorem d_L_law_19 : decode code 19 = .ok (.aload_n 0, 1) := by decide +kernel
theorem d_L_law_20 : decode code 20 = .ok (.arraylength, 1) := by decide +kernel
theorem d_L_law_21 : decode code 21 = .ok (.bipush 6, 2) := by decide +kernel
theorem d_L_law_23 : decode code 23 = .ok (.isub, 1) := by decide +kernel
theorem d_L_law_24 : decode code 24 = .ok (.if_icmp .gt 320, 3) := by decide +kernel
theorem d_L_law_27 : decode code 27 = .ok (.aload_n 0, 1) := by decide +kernel
theorem d_L_law_28 : decode code 28 = .ok (.iload_n 3, 1) := by decide +kernel
theorem d_L_law_29 : decode code 29 = .ok (.iaload, 1) := by decide +kernel
theorem d_L_law_30 : decode code 30 = .ok (.bipush 15, 2) := by decide +kernel
theorem d_L_law_32 : decode code 32 = .ok (.iand, 1) := by decide +kernel
theorem d_L_law_33 : decode code 33 = .ok (.tableswitch 305 0 9 #[55, 118, 141, 154, 187, 200, 223, 256, 279, 292], 55) := by decide +kernel
theorem d_L_law_88 : decode code 88 = .ok (.aload_n 1, 1) := by decide +kernel
theorem d_L_law_89 : decode code 89 = .ok (.aload_n 0, 1) := by decide +kernel
theorem d_L_law_90 : decode code 90 = .ok (.iload_n 3, 1) := by decide +kernel
theorem d_L_law_91 : decode code 91 = .ok (.iconst 1, 1) := by decide +kernel
theorem d_L_law_92 : decode code 92 = .ok (.iadd, 1) := by decide +kernel
theorem d_L_law_93 : decode code 93 = .ok (.iaload, 1) := by decide +kernel
theorem d_L_law_94 : decode code 94 = .ok (.aload_n 0, 1) := by decide +kernel
theorem d_L_law_95 : decode code 95 = .ok (.iload_n 3, 1) := by decide +kernel
theorem d_L_law_96 : decode code 96 = .ok (.iconst 2, 1) := by decide +kernel
theorem d_L_law_97 : decode code 97 = .ok (.iadd, 1) := by decide +kernel
theorem d_L_law_98 : decode code 98 = .ok (.iaload, 1) := by decide +kernel
theorem d_L_law_99 : decode code 99 = .ok (.aload_n 0, 1) := by decide +kernel
theorem d_L_law_100 : decode code 100 = .ok (.iload_n 3, 1) := by decide +kernel
theorem d_L_law_101 : decode code 101 = .ok (.iconst 3, 1) := by decide +kernel
theorem d_L_law_102 : decode code 102 = .ok (.iadd, 1) := by decide +kernel
theorem d_L_law_103 : decode code 103 = .ok (.iaload, 1) := by decide +kernel
theorem d_L_law_104 : decode code 104 = .ok (.aload_n 0, 1) := by decide +kernel
theorem d_L_law_105 : decode code 105 = .ok (.iload_n 3, 1) := by decide +kernel
theorem d_L_law_106 : decode code 106 = .ok (.iconst 4, 1) := by decide +kernel
theorem d_L_law_107 : decode code 107 = .ok (.iadd, 1) := by decide +kernel
theorem d_L_law_108 : decode code 108 = .ok (.iaload, 1) := by decide +kernel
theorem d_L_law_109 : decode code 109 = .ok (.aload_n 0, 1) := by decide +kernel
theorem d_L_law_110 : decode code 110 = .ok (.iload_n 3, 1) := by decide +kernel
theorem d_L_law_111 : decode code 111 = .ok (.iconst 5, 1) := by decide +kernel
theorem d_L_law_112 : decode code 112 = .ok (.iadd, 1) := by decide +kernel
theorem d_L_law_113 : decode code 113 = .ok (.iaload, 1) := by decide +kernel
theorem d_L_law_114 : decode code 114 = .ok (.invokevirtual 13, 3) := by decide +kernel
theorem d_L_law_117 : decode code 117 = .ok (.aload_n 2, 1) := by decide +kernel
theorem d_L_law_118 : decode code 118 = .ok (.aload_n 0, 1) := by decide +kernel
theorem d_L_law_119 : decode code 119 = .ok (.iload_n 3, 1) := by decide +kernel
theorem d_L_law_120 : decode code 120 = .ok (.iconst 1, 1) := by decide +kernel
theorem d_L_law_121 : decode code 121 = .ok (.iadd, 1) := by decide +kernel
theorem d_L_law_122 : decode code 122 = .ok (.iaload, 1) := by decide +kernel
theorem d_L_law_123 : decode code 123 = .ok (.aload_n 0, 1) := by decide +kernel
theorem d_L_law_124 : decode code 124 = .ok (.iload_n 3, 1) := by decide +kernel
theorem d_L_law_125 : decode code 125 = .ok (.iconst 2, 1) := by decide +kernel
theorem d_L_law_126 : decode code 126 = .ok (.iadd, 1) := by decide +kernel
theorem d_L_law_127 : decode code 127 = .ok (.iaload, 1) := by decide +kernel
theorem d_L_law_128 : decode code 128 = .ok (.aload_n 0, 1) := by decide +kernel
theorem d_L_law_129 : decode code 129 = .ok (.iload_n 3, 1) := by decide +kernel
theorem d_L_law_130 : decode code 130 = .ok (.iconst 3, 1) := by decide +kernel
theorem d_L_law_131 : decode code 131 = .ok (.iadd, 1) := by decide +kernel
theorem d_L_law_132 : decode code 132 = .ok (.iaload, 1) := by decide +kernel
theorem d_L_law_133 : decode code 133 = .ok (.aload_n 0, 1) := by decide +kernel
theorem d_L_law_134 : decode code 134 = .ok (.iload_n 3, 1) := by decide +kernel
theorem d_L_law_135 : decode code 135 = .ok (.iconst 4, 1) := by decide +kernel
theorem d_L_law_136 : decode code 136 = .ok (.iadd, 1) := by decide +kernel
theorem d_L_law_137 : decode code 137 = .ok (.iaload, 1) := by decide +kernel
theorem d_L_law_138 : decode code 138 = .ok (.aload_n 0, 1) := by decide +kernel
theorem d_L_law_139 : decode code 139 = .ok (.iload_n 3, 1) := by decide +kernel
theorem d_L_law_140 : decode code 140 = .ok (.iconst 5, 1) := by decide +kernel
theorem d_L_law_141 : decode code 141 = .ok (.iadd, 1) := by decide +kernel
theorem d_L_law_142 : decode code 142 = .ok (.iaload, 1) := by decide +kernel
theorem d_L_law_143 : decode code 143 = .ok (.invokevirtual 17, 3) := by decide +kernel
theorem d_L_law_146 : decode code 146 = .ok (.if_icmp .eq 192, 3) := by decide +kernel
theorem d_L_law_149 : decode code 149 = .ok (.iconst 0, 1) := by decide +kernel
theorem d_L_law_150 : decode code 150 = .ok (.ireturn, 1) := by decide +kernel
theorem d_L_law_151 : decode code 151 = .ok (.aload_n 1, 1) := by decide +kernel
theorem d_L_law_152 : decode code 152 = .ok (.aload_n 0, 1) := by decide +kernel
theorem d_L_law_153 : decode code 153 = .ok (.iload_n 3, 1) := by decide +kernel
theorem d_L_law_154 : decode code 154 = .ok (.iconst 1, 1) := by decide +kernel
theorem d_L_law_155 : decode code 155 = .ok (.iadd, 1) := by decide +kernel
theorem d_L_law_156 : decode code 156 = .ok (.iaload, 1) := by decide +kernel
theorem d_L_law_157 : decode code 157 = .ok (.invokevirtual 18, 3) := by decide +kernel
theorem d_L_law_160 : decode code 160 = .ok (.aload_n 2, 1) := by decide +kernel
theorem d_L_law_161 : decode code 161 = .ok (.aload_n 0, 1) := by decide +kernel
theorem d_L_law_162 : decode code 162 = .ok (.iload_n 3, 1) := by decide +kernel
theorem d_L_law_163 : decode code 163 = .ok (.iconst 1, 1) := by decide +kernel
theorem d_L_law_164 : decode code 164 = .ok (.iadd, 1) := by decide +kernel
theorem d_L_law_165 : decode code 165 = .ok (.iaload, 1) := by decide +kernel
theorem d_L_law_166 : decode code 166 = .ok (.invokevirtual 22, 3) := by decide +kernel
theorem d_L_law_169 : decode code 169 = .ok (.if_icmp .eq 169, 3) := by decide +kernel
theorem d_L_law_172 : decode code 172 = .ok (.iconst 0, 1) := by decide +kernel
theorem d_L_law_173 : decode code 173 = .ok (.ireturn, 1) := by decide +kernel
theorem d_L_law_174 : decode code 174 = .ok (.aload_n 1, 1) := by decide +kernel
theorem d_L_law_175 : decode code 175 = .ok (.invokevirtual 23, 3) := by decide +kernel
theorem d_L_law_178 : decode code 178 = .ok (.aload_n 2, 1) := by decide +kernel
theorem d_L_law_179 : decode code 179 = .ok (.invokevirtual 27, 3) := by decide +kernel
theorem d_L_law_182 : decode code 182 = .ok (.if_icmp .eq 156, 3) := by decide +kernel
theorem d_L_law_185 : decode code 185 = .ok (.iconst 0, 1) := by decide +kernel
theorem d_L_law_186 : decode code 186 = .ok (.ireturn, 1) := by decide +kernel
theorem d_L_law_187 : decode code 187 = .ok (.aload_n 1, 1) := by decide +kernel
theorem d_L_law_188 : decode code 188 = .ok (.aload_n 0, 1) := by decide +kernel
theorem d_L_law_189 : decode code 189 = .ok (.iload_n 3, 1) := by decide +kernel
theorem d_L_law_190 : decode code 190 = .ok (.iconst 1, 1) := by decide +kernel
theorem d_L_law_191 : decode code 191 = .ok (.iadd, 1) := by decide +kernel
theorem d_L_law_192 : decode code 192 = .ok (.iaload, 1) := by decide +kernel
theorem d_L_law_193 : decode code 193 = .ok (.aload_n 0, 1) := by decide +kernel
theorem d_L_law_194 : decode code 194 = .ok (.iload_n 3, 1) := by decide +kernel
theorem d_L_law_195 : decode code 195 = .ok (.iconst 2, 1) := by decide +kernel
theorem d_L_law_196 : decode code 196 = .ok (.iadd, 1) := by decide +kernel
theorem d_L_law_197 : decode code 197 = .ok (.iaload, 1) := by decide +kernel
theorem d_L_law_198 : decode code 198 = .ok (.invokevirtual 28, 3) := by decide +kernel
theorem d_L_law_201 : decode code 201 = .ok (.aload_n 2, 1) := by decide +kernel
theorem d_L_law_202 : decode code 202 = .ok (.aload_n 0, 1) := by decide +kernel
theorem d_L_law_203 : decode code 203 = .ok (.iload_n 3, 1) := by decide +kernel
theorem d_L_law_204 : decode code 204 = .ok (.iconst 1, 1) := by decide +kernel
theorem d_L_law_205 : decode code 205 = .ok (.iadd, 1) := by decide +kernel
theorem d_L_law_206 : decode code 206 = .ok (.iaload, 1) := by decide +kernel
theorem d_L_law_207 : decode code 207 = .ok (.aload_n 0, 1) := by decide +kernel
theorem d_L_law_208 : decode code 208 = .ok (.iload_n 3, 1) := by decide +kernel
theorem d_L_law_209 : decode code 209 = .ok (.iconst 2, 1) := by decide +kernel
theorem d_L_law_210 : decode code 210 = .ok (.iadd, 1) := by decide +kernel
theorem d_L_law_211 : decode code 211 = .ok (.iaload, 1) := by decide +kernel
theorem d_L_law_212 : decode code 212 = .ok (.invokevirtual 32, 3) := by decide +kernel
theorem d_L_law_215 : decode code 215 = .ok (.if_icmp .eq 123, 3) := by decide +kernel
theorem d_L_law_218 : decode code 218 = .ok (.iconst 0, 1) := by decide +kernel
theorem d_L_law_219 : decode code 219 = .ok (.ireturn, 1) := by decide +kernel
theorem d_L_law_220 : decode code 220 = .ok (.aload_n 1, 1) := by decide +kernel
theorem d_L_law_221 : decode code 221 = .ok (.invokevirtual 33, 3) := by decide +kernel
theorem d_L_law_224 : decode code 224 = .ok (.aload_n 2, 1) := by decide +kernel
theorem d_L_law_225 : decode code 225 = .ok (.invokevirtual 36, 3) := by decide +kernel
theorem d_L_law_228 : decode code 228 = .ok (.if_icmp .eq 110, 3) := by decide +kernel
theorem d_L_law_231 : decode code 231 = .ok (.iconst 0, 1) := by decide +kernel
theorem d_L_law_232 : decode code 232 = .ok (.ireturn, 1) := by decide +kernel
theorem d_L_law_233 : decode code 233 = .ok (.aload_n 1, 1) := by decide +kernel
theorem d_L_law_234 : decode code 234 = .ok (.aload_n 0, 1) := by decide +kernel
theorem d_L_law_235 : decode code 235 = .ok (.iload_n 3, 1) := by decide +kernel
theorem d_L_law_236 : decode code 236 = .ok (.iconst 1, 1) := by decide +kernel
theorem d_L_law_237 : decode code 237 = .ok (.iadd, 1) := by decide +kernel
theorem d_L_law_238 : decode code 238 = .ok (.iaload, 1) := by decide +kernel
theorem d_L_law_239 : decode code 239 = .ok (.invokevirtual 37, 3) := by decide +kernel
theorem d_L_law_242 : decode code 242 = .ok (.aload_n 2, 1) := by decide +kernel
theorem d_L_law_243 : decode code 243 = .ok (.aload_n 0, 1) := by decide +kernel
theorem d_L_law_244 : decode code 244 = .ok (.iload_n 3, 1) := by decide +kernel
theorem d_L_law_245 : decode code 245 = .ok (.iconst 1, 1) := by decide +kernel
theorem d_L_law_246 : decode code 246 = .ok (.iadd, 1) := by decide +kernel
theorem d_L_law_247 : decode code 247 = .ok (.iaload, 1) := by decide +kernel
theorem d_L_law_248 : decode code 248 = .ok (.invokevirtual 40, 3) := by decide +kernel
theorem d_L_law_251 : decode code 251 = .ok (.if_icmp .eq 87, 3) := by decide +kernel
theorem d_L_law_254 : decode code 254 = .ok (.iconst 0, 1) := by decide +kernel
theorem d_L_law_255 : decode code 255 = .ok (.ireturn, 1) := by decide +kernel
theorem d_L_law_256 : decode code 256 = .ok (.aload_n 1, 1) := by decide +kernel
theorem d_L_law_257 : decode code 257 = .ok (.aload_n 0, 1) := by decide +kernel
theorem d_L_law_258 : decode code 258 = .ok (.iload_n 3, 1) := by decide +kernel
theorem d_L_law_259 : decode code 259 = .ok (.iconst 1, 1) := by decide +kernel
theorem d_L_law_260 : decode code 260 = .ok (.iadd, 1) := by decide +kernel
theorem d_L_law_261 : decode code 261 = .ok (.iaload, 1) := by decide +kernel
theorem d_L_law_262 : decode code 262 = .ok (.aload_n 0, 1) := by decide +kernel
theorem d_L_law_263 : decode code 263 = .ok (.iload_n 3, 1) := by decide +kernel
theorem d_L_law_264 : decode code 264 = .ok (.iconst 2, 1) := by decide +kernel
theorem d_L_law_265 : decode code 265 = .ok (.iadd, 1) := by decide +kernel
theorem d_L_law_266 : decode code 266 = .ok (.iaload, 1) := by decide +kernel
theorem d_L_law_267 : decode code 267 = .ok (.invokevirtual 41, 3) := by decide +kernel
theorem d_L_law_270 : decode code 270 = .ok (.aload_n 2, 1) := by decide +kernel
theorem d_L_law_271 : decode code 271 = .ok (.aload_n 0, 1) := by decide +kernel
theorem d_L_law_272 : decode code 272 = .ok (.iload_n 3, 1) := by decide +kernel
theorem d_L_law_273 : decode code 273 = .ok (.iconst 1, 1) := by decide +kernel
theorem d_L_law_274 : decode code 274 = .ok (.iadd, 1) := by decide +kernel
theorem d_L_law_275 : decode code 275 = .ok (.iaload, 1) := by decide +kernel
theorem d_L_law_276 : decode code 276 = .ok (.aload_n 0, 1) := by decide +kernel
theorem d_L_law_277 : decode code 277 = .ok (.iload_n 3, 1) := by decide +kernel
theorem d_L_law_278 : decode code 278 = .ok (.iconst 2, 1) := by decide +kernel
theorem d_L_law_279 : decode code 279 = .ok (.iadd, 1) := by decide +kernel
theorem d_L_law_280 : decode code 280 = .ok (.iaload, 1) := by decide +kernel
theorem d_L_law_281 : decode code 281 = .ok (.invokevirtual 44, 3) := by decide +kernel
theorem d_L_law_284 : decode code 284 = .ok (.if_icmp .eq 54, 3) := by decide +kernel
theorem d_L_law_287 : decode code 287 = .ok (.iconst 0, 1) := by decide +kernel
theorem d_L_law_288 : decode code 288 = .ok (.ireturn, 1) := by decide +kernel
theorem d_L_law_289 : decode code 289 = .ok (.aload_n 1, 1) := by decide +kernel
theorem d_L_law_290 : decode code 290 = .ok (.aload_n 0, 1) := by decide +kernel
theorem d_L_law_291 : decode code 291 = .ok (.iload_n 3, 1) := by decide +kernel
theorem d_L_law_292 : decode code 292 = .ok (.iconst 1, 1) := by decide +kernel
theorem d_L_law_293 : decode code 293 = .ok (.iadd, 1) := by decide +kernel
theorem d_L_law_294 : decode code 294 = .ok (.iaload, 1) := by decide +kernel
theorem d_L_law_295 : decode code 295 = .ok (.invokevirtual 45, 3) := by decide +kernel
theorem d_L_law_298 : decode code 298 = .ok (.aload_n 2, 1) := by decide +kernel
theorem d_L_law_299 : decode code 299 = .ok (.aload_n 0, 1) := by decide +kernel
theorem d_L_law_300 : decode code 300 = .ok (.iload_n 3, 1) := by decide +kernel
theorem d_L_law_301 : decode code 301 = .ok (.iconst 1, 1) := by decide +kernel
theorem d_L_law_302 : decode code 302 = .ok (.iadd, 1) := by decide +kernel
theorem d_L_law_303 : decode code 303 = .ok (.iaload, 1) := by decide +kernel
theorem d_L_law_304 : decode code 304 = .ok (.invokevirtual 48, 3) := by decide +kernel
theorem d_L_law_307 : decode code 307 = .ok (.if_icmp .eq 31, 3) := by decide +kernel
theorem d_L_law_310 : decode code 310 = .ok (.iconst 0, 1) := by decide +kernel
theorem d_L_law_311 : decode code 311 = .ok (.ireturn, 1) := by decide +kernel
theorem d_L_law_312 : decode code 312 = .ok (.aload_n 1, 1) := by decide +kernel
theorem d_L_law_313 : decode code 313 = .ok (.invokevirtual 49, 3) := by decide +kernel
theorem d_L_law_316 : decode code 316 = .ok (.aload_n 2, 1) := by decide +kernel
theorem d_L_law_317 : decode code 317 = .ok (.invokevirtual 52, 3) := by decide +kernel
theorem d_L_law_320 : decode code 320 = .ok (.if_icmp .eq 18, 3) := by decide +kernel
theorem d_L_law_323 : decode code 323 = .ok (.iconst 0, 1) := by decide +kernel
theorem d_L_law_324 : decode code 324 = .ok (.ireturn, 1) := by decide +kernel
theorem d_L_law_325 : decode code 325 = .ok (.aload_n 1, 1) := by decide +kernel
theorem d_L_law_326 : decode code 326 = .ok (.invokevirtual 53, 3) := by decide +kernel
theorem d_L_law_329 : decode code 329 = .ok (.aload_n 2, 1) := by decide +kernel
theorem d_L_law_330 : decode code 330 = .ok (.invokevirtual 56, 3) := by decide +kernel
theorem d_L_law_333 : decode code 333 = .ok (.if_icmp .eq 5, 3) := by decide +kernel
theorem d_L_law_336 : decode code 336 = .ok (.iconst 0, 1) := by decide +kernel
theorem d_L_law_337 : decode code 337 = .ok (.ireturn, 1) := by decide +kernel
theorem d_L_law_338 : decode code 338 = .ok (.iinc 3 6, 3) := by decide +kernel
theorem d_L_law_341 : decode code 341 = .ok (.goto (-323), 3) := by decide +kernel
theorem d_L_law_344 : decode code 344 = .ok (.iconst 1, 1) := by decide +kernel
theorem d_L_law_345 : decode code 345 = .ok (.ireturn, 1) := by decide +kernel
