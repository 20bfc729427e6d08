theorem dX0_init_0 : decode cX0_init 0 = .ok (.aload_n 0, 1) := by decide +kernel
theorem dX0_init_1 : decode cX0_init 1 = .ok (.invokespecial 3, 3) := by decide +kernel
theorem dX0_init_4 : decode cX0_init 4 = .ok (.aload_n 0, 1) := by decide +kernel
theorem dX0_init_5 : decode cX0_init 5 = .ok (.new 9, 3) := by decide +kernel
theorem dX0_init_8 : decode cX0_init 8 = .ok (.dup, 1) := by decide +kernel
theorem dX0_init_9 : decode cX0_init 9 = .ok (.invokespecial 11, 3) := by decide +kernel
theorem dX0_init_12 : decode cX0_init 12 = .ok (.putfield 12, 3) := by decide +kernel
theorem dX0_init_15 : decode cX0_init 15 = .ok (.aload_n 0, 1) := by decide +kernel
theorem dX0_init_16 : decode cX0_init 16 = .ok (.new 9, 3) := by decide +kernel
theorem dX0_init_19 : decode cX0_init 19 = .ok (.dup, 1) := by decide +kernel
theorem dX0_init_20 : decode cX0_init 20 = .ok (.invokespecial 11, 3) := by decide +kernel
theorem dX0_init_23 : decode cX0_init 23 = .ok (.putfield 18, 3) := by decide +kernel
theorem dX0_init_26 : decode cX0_init 26 = .ok (.aload_n 0, 1) := by decide +kernel
theorem dX0_init_27 : decode cX0_init 27 = .ok (.iconst (-1), 1) := by decide +kernel
theorem dX0_init_28 : decode cX0_init 28 = .ok (.putfield 21, 3) := by decide +kernel
theorem dX0_init_31 : decode cX0_init 31 = .ok (.return_, 1) := by decide +kernel
theorem dX0_learn_0 : decode cX0_learn 0 = .ok (.aload_n 0, 1) := by decide +kernel
theorem dX0_learn_1 : decode cX0_learn 1 = .ok (.getfield 12, 3) := by decide +kernel
theorem dX0_learn_4 : decode cX0_learn 4 = .ok (.aload_n 1, 1) := by decide +kernel
theorem dX0_learn_5 : decode cX0_learn 5 = .ok (.invokevirtual 25, 3) := by decide +kernel
theorem dX0_learn_8 : decode cX0_learn 8 = .ok (.aload_n 0, 1) := by decide +kernel
theorem dX0_learn_9 : decode cX0_learn 9 = .ok (.iconst 0, 1) := by decide +kernel
theorem dX0_learn_10 : decode cX0_learn 10 = .ok (.putfield 29, 3) := by decide +kernel
theorem dX0_learn_13 : decode cX0_learn 13 = .ok (.iconst 0, 1) := by decide +kernel
theorem dX0_learn_14 : decode cX0_learn 14 = .ok (.istore 4, 2) := by decide +kernel
theorem dX0_learn_16 : decode cX0_learn 16 = .ok (.iload_n 3, 1) := by decide +kernel
theorem dX0_learn_17 : decode cX0_learn 17 = .ok (.iconst 1, 1) := by decide +kernel
theorem dX0_learn_18 : decode cX0_learn 18 = .ok (.isub, 1) := by decide +kernel
theorem dX0_learn_19 : decode cX0_learn 19 = .ok (.istore 5, 2) := by decide +kernel
theorem dX0_learn_21 : decode cX0_learn 21 = .ok (.iload 5, 2) := by decide +kernel
theorem dX0_learn_23 : decode cX0_learn 23 = .ok (.iload_n 2, 1) := by decide +kernel
theorem dX0_learn_24 : decode cX0_learn 24 = .ok (.if_icmp .le 56, 3) := by decide +kernel
theorem dX0_learn_27 : decode cX0_learn 27 = .ok (.iload 4, 2) := by decide +kernel
theorem dX0_learn_29 : decode cX0_learn 29 = .ok (.iconst 3, 1) := by decide +kernel
theorem dX0_learn_30 : decode cX0_learn 30 = .ok (.if_icmp .ge 50, 3) := by decide +kernel
theorem dX0_learn_33 : decode cX0_learn 33 = .ok (.aload_n 0, 1) := by decide +kernel
theorem dX0_learn_34 : decode cX0_learn 34 = .ok (.getfield 12, 3) := by decide +kernel
theorem dX0_learn_37 : decode cX0_learn 37 = .ok (.invokevirtual 32, 3) := by decide +kernel
theorem dX0_learn_40 : decode cX0_learn 40 = .ok (.ifCond .ne 40, 3) := by decide +kernel
theorem dX0_learn_43 : decode cX0_learn 43 = .ok (.aload_n 0, 1) := by decide +kernel
theorem dX0_learn_44 : decode cX0_learn 44 = .ok (.getfield 12, 3) := by decide +kernel
theorem dX0_learn_47 : decode cX0_learn 47 = .ok (.iload 5, 2) := by decide +kernel
theorem dX0_learn_49 : decode cX0_learn 49 = .ok (.invokevirtual 36, 3) := by decide +kernel
theorem dX0_learn_52 : decode cX0_learn 52 = .ok (.ifCond .eq 22, 3) := by decide +kernel
theorem dX0_learn_55 : decode cX0_learn 55 = .ok (.iinc 4 1, 3) := by decide +kernel
theorem dX0_learn_58 : decode cX0_learn 58 = .ok (.aload_n 0, 1) := by decide +kernel
theorem dX0_learn_59 : decode cX0_learn 59 = .ok (.iload 4, 2) := by decide +kernel
theorem dX0_learn_61 : decode cX0_learn 61 = .ok (.iconst 3, 1) := by decide +kernel
theorem dX0_learn_62 : decode cX0_learn 62 = .ok (.if_icmp .ne 8, 3) := by decide +kernel
theorem dX0_learn_65 : decode cX0_learn 65 = .ok (.iload 5, 2) := by decide +kernel
theorem dX0_learn_67 : decode cX0_learn 67 = .ok (.goto 4, 3) := by decide +kernel
theorem dX0_learn_70 : decode cX0_learn 70 = .ok (.iconst 0, 1) := by decide +kernel
theorem dX0_learn_71 : decode cX0_learn 71 = .ok (.putfield 29, 3) := by decide +kernel
theorem dX0_learn_74 : decode cX0_learn 74 = .ok (.iinc 5 (-1), 3) := by decide +kernel
theorem dX0_learn_77 : decode cX0_learn 77 = .ok (.goto (-56), 3) := by decide +kernel
theorem dX0_learn_80 : decode cX0_learn 80 = .ok (.return_, 1) := by decide +kernel
theorem dX0_forget_0 : decode cX0_forget 0 = .ok (.aload_n 0, 1) := by decide +kernel
theorem dX0_forget_1 : decode cX0_forget 1 = .ok (.getfield 12, 3) := by decide +kernel
theorem dX0_forget_4 : decode cX0_forget 4 = .ok (.invokevirtual 40, 3) := by decide +kernel
theorem dX0_forget_7 : decode cX0_forget 7 = .ok (.aload_n 0, 1) := by decide +kernel
theorem dX0_forget_8 : decode cX0_forget 8 = .ok (.iconst 0, 1) := by decide +kernel
theorem dX0_forget_9 : decode cX0_forget 9 = .ok (.putfield 29, 3) := by decide +kernel
theorem dX0_forget_12 : decode cX0_forget 12 = .ok (.return_, 1) := by decide +kernel
theorem dX0_beginRecovery_0 : decode cX0_beginRecovery 0 = .ok (.aload_n 0, 1) := by decide +kernel
theorem dX0_beginRecovery_1 : decode cX0_beginRecovery 1 = .ok (.getfield 18, 3) := by decide +kernel
theorem dX0_beginRecovery_4 : decode cX0_beginRecovery 4 = .ok (.invokevirtual 40, 3) := by decide +kernel
theorem dX0_beginRecovery_7 : decode cX0_beginRecovery 7 = .ok (.aload_n 0, 1) := by decide +kernel
theorem dX0_beginRecovery_8 : decode cX0_beginRecovery 8 = .ok (.iload_n 1, 1) := by decide +kernel
theorem dX0_beginRecovery_9 : decode cX0_beginRecovery 9 = .ok (.putfield 21, 3) := by decide +kernel
theorem dX0_beginRecovery_12 : decode cX0_beginRecovery 12 = .ok (.return_, 1) := by decide +kernel
theorem dX0_goOn_0 : decode cX0_goOn 0 = .ok (.iload_n 1, 1) := by decide +kernel
theorem dX0_goOn_1 : decode cX0_goOn 1 = .ok (.istore_n 3, 1) := by decide +kernel
theorem dX0_goOn_2 : decode cX0_goOn 2 = .ok (.iload_n 3, 1) := by decide +kernel
theorem dX0_goOn_3 : decode cX0_goOn 3 = .ok (.iload_n 2, 1) := by decide +kernel
theorem dX0_goOn_4 : decode cX0_goOn 4 = .ok (.if_icmp .ge 17, 3) := by decide +kernel
theorem dX0_goOn_7 : decode cX0_goOn 7 = .ok (.aload_n 0, 1) := by decide +kernel
theorem dX0_goOn_8 : decode cX0_goOn 8 = .ok (.getfield 18, 3) := by decide +kernel
theorem dX0_goOn_11 : decode cX0_goOn 11 = .ok (.iload_n 3, 1) := by decide +kernel
theorem dX0_goOn_12 : decode cX0_goOn 12 = .ok (.invokevirtual 43, 3) := by decide +kernel
theorem dX0_goOn_15 : decode cX0_goOn 15 = .ok (.iinc 3 1, 3) := by decide +kernel
theorem dX0_goOn_18 : decode cX0_goOn 18 = .ok (.goto (-16), 3) := by decide +kernel
theorem dX0_goOn_21 : decode cX0_goOn 21 = .ok (.return_, 1) := by decide +kernel
theorem dX0_leastLost_0 : decode cX0_leastLost 0 = .ok (.iload_n 1, 1) := by decide +kernel
theorem dX0_leastLost_1 : decode cX0_leastLost 1 = .ok (.istore_n 3, 1) := by decide +kernel
theorem dX0_leastLost_2 : decode cX0_leastLost 2 = .ok (.iload_n 3, 1) := by decide +kernel
theorem dX0_leastLost_3 : decode cX0_leastLost 3 = .ok (.iload_n 2, 1) := by decide +kernel
theorem dX0_leastLost_4 : decode cX0_leastLost 4 = .ok (.if_icmp .ge 30, 3) := by decide +kernel
theorem dX0_leastLost_7 : decode cX0_leastLost 7 = .ok (.aload_n 0, 1) := by decide +kernel
theorem dX0_leastLost_8 : decode cX0_leastLost 8 = .ok (.iload_n 3, 1) := by decide +kernel
theorem dX0_leastLost_9 : decode cX0_leastLost 9 = .ok (.invokevirtual 47, 3) := by decide +kernel
theorem dX0_leastLost_12 : decode cX0_leastLost 12 = .ok (.ifCond .eq 16, 3) := by decide +kernel
theorem dX0_leastLost_15 : decode cX0_leastLost 15 = .ok (.aload_n 0, 1) := by decide +kernel
theorem dX0_leastLost_16 : decode cX0_leastLost 16 = .ok (.getfield 18, 3) := by decide +kernel
theorem dX0_leastLost_19 : decode cX0_leastLost 19 = .ok (.iload_n 3, 1) := by decide +kernel
theorem dX0_leastLost_20 : decode cX0_leastLost 20 = .ok (.invokevirtual 36, 3) := by decide +kernel
theorem dX0_leastLost_23 : decode cX0_leastLost 23 = .ok (.ifCond .ne 5, 3) := by decide +kernel
theorem dX0_leastLost_26 : decode cX0_leastLost 26 = .ok (.iload_n 3, 1) := by decide +kernel
theorem dX0_leastLost_27 : decode cX0_leastLost 27 = .ok (.ireturn, 1) := by decide +kernel
theorem dX0_leastLost_28 : decode cX0_leastLost 28 = .ok (.iinc 3 1, 3) := by decide +kernel
theorem dX0_leastLost_31 : decode cX0_leastLost 31 = .ok (.goto (-29), 3) := by decide +kernel
theorem dX0_leastLost_34 : decode cX0_leastLost 34 = .ok (.iconst (-1), 1) := by decide +kernel
theorem dX0_leastLost_35 : decode cX0_leastLost 35 = .ok (.ireturn, 1) := by decide +kernel
theorem dX0_pipe_0 : decode cX0_pipe 0 = .ok (.iconst 0, 1) := by decide +kernel
theorem dX0_pipe_1 : decode cX0_pipe 1 = .ok (.istore 4, 2) := by decide +kernel
theorem dX0_pipe_3 : decode cX0_pipe 3 = .ok (.iload_n 1, 1) := by decide +kernel
theorem dX0_pipe_4 : decode cX0_pipe 4 = .ok (.istore 5, 2) := by decide +kernel
theorem dX0_pipe_6 : decode cX0_pipe 6 = .ok (.iload 5, 2) := by decide +kernel
theorem dX0_pipe_8 : decode cX0_pipe 8 = .ok (.iload_n 3, 1) := by decide +kernel
theorem dX0_pipe_9 : decode cX0_pipe 9 = .ok (.if_icmp .ge 66, 3) := by decide +kernel
theorem dX0_pipe_12 : decode cX0_pipe 12 = .ok (.iload 5, 2) := by decide +kernel
theorem dX0_pipe_14 : decode cX0_pipe 14 = .ok (.iload_n 2, 1) := by decide +kernel
theorem dX0_pipe_15 : decode cX0_pipe 15 = .ok (.if_icmp .ge 27, 3) := by decide +kernel
theorem dX0_pipe_18 : decode cX0_pipe 18 = .ok (.aload_n 0, 1) := by decide +kernel
theorem dX0_pipe_19 : decode cX0_pipe 19 = .ok (.getfield 12, 3) := by decide +kernel
theorem dX0_pipe_22 : decode cX0_pipe 22 = .ok (.iload 5, 2) := by decide +kernel
theorem dX0_pipe_24 : decode cX0_pipe 24 = .ok (.invokevirtual 36, 3) := by decide +kernel
theorem dX0_pipe_27 : decode cX0_pipe 27 = .ok (.ifCond .ne 15, 3) := by decide +kernel
theorem dX0_pipe_30 : decode cX0_pipe 30 = .ok (.aload_n 0, 1) := by decide +kernel
theorem dX0_pipe_31 : decode cX0_pipe 31 = .ok (.iload 5, 2) := by decide +kernel
theorem dX0_pipe_33 : decode cX0_pipe 33 = .ok (.invokevirtual 47, 3) := by decide +kernel
theorem dX0_pipe_36 : decode cX0_pipe 36 = .ok (.ifCond .ne 6, 3) := by decide +kernel
theorem dX0_pipe_39 : decode cX0_pipe 39 = .ok (.iinc 4 1, 3) := by decide +kernel
theorem dX0_pipe_42 : decode cX0_pipe 42 = .ok (.aload_n 0, 1) := by decide +kernel
theorem dX0_pipe_43 : decode cX0_pipe 43 = .ok (.getfield 18, 3) := by decide +kernel
theorem dX0_pipe_46 : decode cX0_pipe 46 = .ok (.iload 5, 2) := by decide +kernel
theorem dX0_pipe_48 : decode cX0_pipe 48 = .ok (.invokevirtual 36, 3) := by decide +kernel
theorem dX0_pipe_51 : decode cX0_pipe 51 = .ok (.ifCond .eq 18, 3) := by decide +kernel
theorem dX0_pipe_54 : decode cX0_pipe 54 = .ok (.aload_n 0, 1) := by decide +kernel
theorem dX0_pipe_55 : decode cX0_pipe 55 = .ok (.getfield 12, 3) := by decide +kernel
theorem dX0_pipe_58 : decode cX0_pipe 58 = .ok (.iload 5, 2) := by decide +kernel
theorem dX0_pipe_60 : decode cX0_pipe 60 = .ok (.invokevirtual 36, 3) := by decide +kernel
theorem dX0_pipe_63 : decode cX0_pipe 63 = .ok (.ifCond .ne 6, 3) := by decide +kernel
theorem dX0_pipe_66 : decode cX0_pipe 66 = .ok (.iinc 4 1, 3) := by decide +kernel
theorem dX0_pipe_69 : decode cX0_pipe 69 = .ok (.iinc 5 1, 3) := by decide +kernel
theorem dX0_pipe_72 : decode cX0_pipe 72 = .ok (.goto (-66), 3) := by decide +kernel
theorem dX0_pipe_75 : decode cX0_pipe 75 = .ok (.iload 4, 2) := by decide +kernel
theorem dX0_pipe_77 : decode cX0_pipe 77 = .ok (.ireturn, 1) := by decide +kernel
theorem dX0_isLost_0 : decode cX0_isLost 0 = .ok (.iload_n 1, 1) := by decide +kernel
theorem dX0_isLost_1 : decode cX0_isLost 1 = .ok (.aload_n 0, 1) := by decide +kernel
theorem dX0_isLost_2 : decode cX0_isLost 2 = .ok (.getfield 21, 3) := by decide +kernel
theorem dX0_isLost_5 : decode cX0_isLost 5 = .ok (.if_icmp .eq 22, 3) := by decide +kernel
theorem dX0_isLost_8 : decode cX0_isLost 8 = .ok (.iload_n 1, 1) := by decide +kernel
theorem dX0_isLost_9 : decode cX0_isLost 9 = .ok (.aload_n 0, 1) := by decide +kernel
theorem dX0_isLost_10 : decode cX0_isLost 10 = .ok (.getfield 29, 3) := by decide +kernel
theorem dX0_isLost_13 : decode cX0_isLost 13 = .ok (.if_icmp .ge 18, 3) := by decide +kernel
theorem dX0_isLost_16 : decode cX0_isLost 16 = .ok (.aload_n 0, 1) := by decide +kernel
theorem dX0_isLost_17 : decode cX0_isLost 17 = .ok (.getfield 12, 3) := by decide +kernel
theorem dX0_isLost_20 : decode cX0_isLost 20 = .ok (.iload_n 1, 1) := by decide +kernel
theorem dX0_isLost_21 : decode cX0_isLost 21 = .ok (.invokevirtual 36, 3) := by decide +kernel
theorem dX0_isLost_24 : decode cX0_isLost 24 = .ok (.ifCond .ne 7, 3) := by decide +kernel
theorem dX0_isLost_27 : decode cX0_isLost 27 = .ok (.iconst 1, 1) := by decide +kernel
theorem dX0_isLost_28 : decode cX0_isLost 28 = .ok (.goto 4, 3) := by decide +kernel
theorem dX0_isLost_31 : decode cX0_isLost 31 = .ok (.iconst 0, 1) := by decide +kernel
theorem dX0_isLost_32 : decode cX0_isLost 32 = .ok (.ireturn, 1) := by decide +kernel
theorem dX1_init_0 : decode cX1_init 0 = .ok (.aload_n 0, 1) := by decide +kernel
theorem dX1_init_1 : decode cX1_init 1 = .ok (.invokespecial 3, 3) := by decide +kernel
theorem dX1_init_4 : decode cX1_init 4 = .ok (.return_, 1) := by decide +kernel
theorem dX1_append_0 : decode cX1_append 0 = .ok (.aload_n 1, 1) := by decide +kernel
theorem dX1_append_1 : decode cX1_append 1 = .ok (.aconst_null, 1) := by decide +kernel
theorem dX1_append_2 : decode cX1_append 2 = .ok (.putfield 9, 3) := by decide +kernel
theorem dX1_append_5 : decode cX1_append 5 = .ok (.aload_n 0, 1) := by decide +kernel
theorem dX1_append_6 : decode cX1_append 6 = .ok (.getfield 15, 3) := by decide +kernel
theorem dX1_append_9 : decode cX1_append 9 = .ok (.ifnonnull 11, 3) := by decide +kernel
theorem dX1_append_12 : decode cX1_append 12 = .ok (.aload_n 0, 1) := by decide +kernel
theorem dX1_append_13 : decode cX1_append 13 = .ok (.aload_n 1, 1) := by decide +kernel
theorem dX1_append_14 : decode cX1_append 14 = .ok (.putfield 20, 3) := by decide +kernel
theorem dX1_append_17 : decode cX1_append 17 = .ok (.goto 11, 3) := by decide +kernel
theorem dX1_append_20 : decode cX1_append 20 = .ok (.aload_n 0, 1) := by decide +kernel
theorem dX1_append_21 : decode cX1_append 21 = .ok (.getfield 15, 3) := by decide +kernel
theorem dX1_append_24 : decode cX1_append 24 = .ok (.aload_n 1, 1) := by decide +kernel
theorem dX1_append_25 : decode cX1_append 25 = .ok (.putfield 9, 3) := by decide +kernel
theorem dX1_append_28 : decode cX1_append 28 = .ok (.aload_n 0, 1) := by decide +kernel
theorem dX1_append_29 : decode cX1_append 29 = .ok (.aload_n 1, 1) := by decide +kernel
theorem dX1_append_30 : decode cX1_append 30 = .ok (.putfield 15, 3) := by decide +kernel
theorem dX1_append_33 : decode cX1_append 33 = .ok (.aload_n 0, 1) := by decide +kernel
theorem dX1_append_34 : decode cX1_append 34 = .ok (.dup, 1) := by decide +kernel
theorem dX1_append_35 : decode cX1_append 35 = .ok (.getfield 23, 3) := by decide +kernel
theorem dX1_append_38 : decode cX1_append 38 = .ok (.iconst 1, 1) := by decide +kernel
theorem dX1_append_39 : decode cX1_append 39 = .ok (.iadd, 1) := by decide +kernel
theorem dX1_append_40 : decode cX1_append 40 = .ok (.putfield 23, 3) := by decide +kernel
theorem dX1_append_43 : decode cX1_append 43 = .ok (.return_, 1) := by decide +kernel
theorem dX1_putByDue_0 : decode cX1_putByDue 0 = .ok (.aload_n 0, 1) := by decide +kernel
theorem dX1_putByDue_1 : decode cX1_putByDue 1 = .ok (.getfield 20, 3) := by decide +kernel
theorem dX1_putByDue_4 : decode cX1_putByDue 4 = .ok (.ifnull 24, 3) := by decide +kernel
theorem dX1_putByDue_7 : decode cX1_putByDue 7 = .ok (.aload_n 0, 1) := by decide +kernel
theorem dX1_putByDue_8 : decode cX1_putByDue 8 = .ok (.getfield 15, 3) := by decide +kernel
theorem dX1_putByDue_11 : decode cX1_putByDue 11 = .ok (.ifnull 17, 3) := by decide +kernel
theorem dX1_putByDue_14 : decode cX1_putByDue 14 = .ok (.aload_n 0, 1) := by decide +kernel
theorem dX1_putByDue_15 : decode cX1_putByDue 15 = .ok (.getfield 15, 3) := by decide +kernel
theorem dX1_putByDue_18 : decode cX1_putByDue 18 = .ok (.getfield 27, 3) := by decide +kernel
theorem dX1_putByDue_21 : decode cX1_putByDue 21 = .ok (.aload_n 1, 1) := by decide +kernel
theorem dX1_putByDue_22 : decode cX1_putByDue 22 = .ok (.getfield 27, 3) := by decide +kernel
theorem dX1_putByDue_25 : decode cX1_putByDue 25 = .ok (.if_icmp .gt 9, 3) := by decide +kernel
theorem dX1_putByDue_28 : decode cX1_putByDue 28 = .ok (.aload_n 0, 1) := by decide +kernel
theorem dX1_putByDue_29 : decode cX1_putByDue 29 = .ok (.aload_n 1, 1) := by decide +kernel
theorem dX1_putByDue_30 : decode cX1_putByDue 30 = .ok (.invokevirtual 30, 3) := by decide +kernel
theorem dX1_putByDue_33 : decode cX1_putByDue 33 = .ok (.return_, 1) := by decide +kernel
theorem dX1_putByDue_34 : decode cX1_putByDue 34 = .ok (.aload_n 0, 1) := by decide +kernel
theorem dX1_putByDue_35 : decode cX1_putByDue 35 = .ok (.dup, 1) := by decide +kernel
theorem dX1_putByDue_36 : decode cX1_putByDue 36 = .ok (.getfield 23, 3) := by decide +kernel
theorem dX1_putByDue_39 : decode cX1_putByDue 39 = .ok (.iconst 1, 1) := by decide +kernel
theorem dX1_putByDue_40 : decode cX1_putByDue 40 = .ok (.iadd, 1) := by decide +kernel
theorem dX1_putByDue_41 : decode cX1_putByDue 41 = .ok (.putfield 23, 3) := by decide +kernel
theorem dX1_putByDue_44 : decode cX1_putByDue 44 = .ok (.aload_n 0, 1) := by decide +kernel
theorem dX1_putByDue_45 : decode cX1_putByDue 45 = .ok (.getfield 20, 3) := by decide +kernel
theorem dX1_putByDue_48 : decode cX1_putByDue 48 = .ok (.getfield 27, 3) := by decide +kernel
theorem dX1_putByDue_51 : decode cX1_putByDue 51 = .ok (.aload_n 1, 1) := by decide +kernel
theorem dX1_putByDue_52 : decode cX1_putByDue 52 = .ok (.getfield 27, 3) := by decide +kernel
theorem dX1_putByDue_55 : decode cX1_putByDue 55 = .ok (.if_icmp .le 17, 3) := by decide +kernel
theorem dX1_putByDue_58 : decode cX1_putByDue 58 = .ok (.aload_n 1, 1) := by decide +kernel
theorem dX1_putByDue_59 : decode cX1_putByDue 59 = .ok (.aload_n 0, 1) := by decide +kernel
theorem dX1_putByDue_60 : decode cX1_putByDue 60 = .ok (.getfield 20, 3) := by decide +kernel
theorem dX1_putByDue_63 : decode cX1_putByDue 63 = .ok (.putfield 9, 3) := by decide +kernel
theorem dX1_putByDue_66 : decode cX1_putByDue 66 = .ok (.aload_n 0, 1) := by decide +kernel
theorem dX1_putByDue_67 : decode cX1_putByDue 67 = .ok (.aload_n 1, 1) := by decide +kernel
theorem dX1_putByDue_68 : decode cX1_putByDue 68 = .ok (.putfield 20, 3) := by decide +kernel
theorem dX1_putByDue_71 : decode cX1_putByDue 71 = .ok (.return_, 1) := by decide +kernel
theorem dX1_putByDue_72 : decode cX1_putByDue 72 = .ok (.aload_n 0, 1) := by decide +kernel
theorem dX1_putByDue_73 : decode cX1_putByDue 73 = .ok (.getfield 20, 3) := by decide +kernel
theorem dX1_putByDue_76 : decode cX1_putByDue 76 = .ok (.astore_n 2, 1) := by decide +kernel
theorem dX1_putByDue_77 : decode cX1_putByDue 77 = .ok (.aload_n 2, 1) := by decide +kernel
theorem dX1_putByDue_78 : decode cX1_putByDue 78 = .ok (.getfield 9, 3) := by decide +kernel
theorem dX1_putByDue_81 : decode cX1_putByDue 81 = .ok (.ifnull 25, 3) := by decide +kernel
theorem dX1_putByDue_84 : decode cX1_putByDue 84 = .ok (.aload_n 2, 1) := by decide +kernel
theorem dX1_putByDue_85 : decode cX1_putByDue 85 = .ok (.getfield 9, 3) := by decide +kernel
theorem dX1_putByDue_88 : decode cX1_putByDue 88 = .ok (.getfield 27, 3) := by decide +kernel
theorem dX1_putByDue_91 : decode cX1_putByDue 91 = .ok (.aload_n 1, 1) := by decide +kernel
theorem dX1_putByDue_92 : decode cX1_putByDue 92 = .ok (.getfield 27, 3) := by decide +kernel
theorem dX1_putByDue_95 : decode cX1_putByDue 95 = .ok (.if_icmp .gt 11, 3) := by decide +kernel
theorem dX1_putByDue_98 : decode cX1_putByDue 98 = .ok (.aload_n 2, 1) := by decide +kernel
theorem dX1_putByDue_99 : decode cX1_putByDue 99 = .ok (.getfield 9, 3) := by decide +kernel
theorem dX1_putByDue_102 : decode cX1_putByDue 102 = .ok (.astore_n 2, 1) := by decide +kernel
theorem dX1_putByDue_103 : decode cX1_putByDue 103 = .ok (.goto (-26), 3) := by decide +kernel
theorem dX1_putByDue_106 : decode cX1_putByDue 106 = .ok (.aload_n 1, 1) := by decide +kernel
theorem dX1_putByDue_107 : decode cX1_putByDue 107 = .ok (.aload_n 2, 1) := by decide +kernel
theorem dX1_putByDue_108 : decode cX1_putByDue 108 = .ok (.getfield 9, 3) := by decide +kernel
theorem dX1_putByDue_111 : decode cX1_putByDue 111 = .ok (.putfield 9, 3) := by decide +kernel
theorem dX1_putByDue_114 : decode cX1_putByDue 114 = .ok (.aload_n 2, 1) := by decide +kernel
theorem dX1_putByDue_115 : decode cX1_putByDue 115 = .ok (.aload_n 1, 1) := by decide +kernel
theorem dX1_putByDue_116 : decode cX1_putByDue 116 = .ok (.putfield 9, 3) := by decide +kernel
theorem dX1_putByDue_119 : decode cX1_putByDue 119 = .ok (.return_, 1) := by decide +kernel
theorem dX1_takeFirst_0 : decode cX1_takeFirst 0 = .ok (.aload_n 0, 1) := by decide +kernel
theorem dX1_takeFirst_1 : decode cX1_takeFirst 1 = .ok (.getfield 20, 3) := by decide +kernel
theorem dX1_takeFirst_4 : decode cX1_takeFirst 4 = .ok (.astore_n 1, 1) := by decide +kernel
theorem dX1_takeFirst_5 : decode cX1_takeFirst 5 = .ok (.aload_n 1, 1) := by decide +kernel
theorem dX1_takeFirst_6 : decode cX1_takeFirst 6 = .ok (.ifnull 26, 3) := by decide +kernel
theorem dX1_takeFirst_9 : decode cX1_takeFirst 9 = .ok (.aload_n 0, 1) := by decide +kernel
theorem dX1_takeFirst_10 : decode cX1_takeFirst 10 = .ok (.aload_n 1, 1) := by decide +kernel
theorem dX1_takeFirst_11 : decode cX1_takeFirst 11 = .ok (.getfield 9, 3) := by decide +kernel
theorem dX1_takeFirst_14 : decode cX1_takeFirst 14 = .ok (.putfield 20, 3) := by decide +kernel
theorem dX1_takeFirst_17 : decode cX1_takeFirst 17 = .ok (.aload_n 1, 1) := by decide +kernel
theorem dX1_takeFirst_18 : decode cX1_takeFirst 18 = .ok (.aconst_null, 1) := by decide +kernel
theorem dX1_takeFirst_19 : decode cX1_takeFirst 19 = .ok (.putfield 9, 3) := by decide +kernel
theorem dX1_takeFirst_22 : decode cX1_takeFirst 22 = .ok (.aload_n 0, 1) := by decide +kernel
theorem dX1_takeFirst_23 : decode cX1_takeFirst 23 = .ok (.dup, 1) := by decide +kernel
theorem dX1_takeFirst_24 : decode cX1_takeFirst 24 = .ok (.getfield 23, 3) := by decide +kernel
theorem dX1_takeFirst_27 : decode cX1_takeFirst 27 = .ok (.iconst 1, 1) := by decide +kernel
theorem dX1_takeFirst_28 : decode cX1_takeFirst 28 = .ok (.isub, 1) := by decide +kernel
theorem dX1_takeFirst_29 : decode cX1_takeFirst 29 = .ok (.putfield 23, 3) := by decide +kernel
theorem dX1_takeFirst_32 : decode cX1_takeFirst 32 = .ok (.aload_n 0, 1) := by decide +kernel
theorem dX1_takeFirst_33 : decode cX1_takeFirst 33 = .ok (.getfield 20, 3) := by decide +kernel
theorem dX1_takeFirst_36 : decode cX1_takeFirst 36 = .ok (.ifnonnull 8, 3) := by decide +kernel
theorem dX1_takeFirst_39 : decode cX1_takeFirst 39 = .ok (.aload_n 0, 1) := by decide +kernel
theorem dX1_takeFirst_40 : decode cX1_takeFirst 40 = .ok (.aconst_null, 1) := by decide +kernel
theorem dX1_takeFirst_41 : decode cX1_takeFirst 41 = .ok (.putfield 15, 3) := by decide +kernel
theorem dX1_takeFirst_44 : decode cX1_takeFirst 44 = .ok (.aload_n 1, 1) := by decide +kernel
theorem dX1_takeFirst_45 : decode cX1_takeFirst 45 = .ok (.areturn, 1) := by decide +kernel
theorem dX1_takeDue_0 : decode cX1_takeDue 0 = .ok (.aload_n 0, 1) := by decide +kernel
theorem dX1_takeDue_1 : decode cX1_takeDue 1 = .ok (.invokevirtual 34, 3) := by decide +kernel
theorem dX1_takeDue_4 : decode cX1_takeDue 4 = .ok (.iload_n 1, 1) := by decide +kernel
theorem dX1_takeDue_5 : decode cX1_takeDue 5 = .ok (.if_icmp .gt 10, 3) := by decide +kernel
theorem dX1_takeDue_8 : decode cX1_takeDue 8 = .ok (.aload_n 0, 1) := by decide +kernel
theorem dX1_takeDue_9 : decode cX1_takeDue 9 = .ok (.invokevirtual 38, 3) := by decide +kernel
theorem dX1_takeDue_12 : decode cX1_takeDue 12 = .ok (.goto 4, 3) := by decide +kernel
theorem dX1_takeDue_15 : decode cX1_takeDue 15 = .ok (.aconst_null, 1) := by decide +kernel
theorem dX1_takeDue_16 : decode cX1_takeDue 16 = .ok (.areturn, 1) := by decide +kernel
theorem dX1_firstDue_0 : decode cX1_firstDue 0 = .ok (.aload_n 0, 1) := by decide +kernel
theorem dX1_firstDue_1 : decode cX1_firstDue 1 = .ok (.getfield 20, 3) := by decide +kernel
theorem dX1_firstDue_4 : decode cX1_firstDue 4 = .ok (.ifnonnull 8, 3) := by decide +kernel
theorem dX1_firstDue_7 : decode cX1_firstDue 7 = .ok (.ldc 42, 2) := by decide +kernel
theorem dX1_firstDue_9 : decode cX1_firstDue 9 = .ok (.goto 10, 3) := by decide +kernel
theorem dX1_firstDue_12 : decode cX1_firstDue 12 = .ok (.aload_n 0, 1) := by decide +kernel
theorem dX1_firstDue_13 : decode cX1_firstDue 13 = .ok (.getfield 20, 3) := by decide +kernel
theorem dX1_firstDue_16 : decode cX1_firstDue 16 = .ok (.getfield 27, 3) := by decide +kernel
theorem dX1_firstDue_19 : decode cX1_firstDue 19 = .ok (.ireturn, 1) := by decide +kernel
theorem dX2_init_0 : decode cX2_init 0 = .ok (.aload_n 0, 1) := by decide +kernel
theorem dX2_init_1 : decode cX2_init 1 = .ok (.invokespecial 3, 3) := by decide +kernel
theorem dX2_init_4 : decode cX2_init 4 = .ok (.aload_n 0, 1) := by decide +kernel
theorem dX2_init_5 : decode cX2_init 5 = .ok (.iconst (-1), 1) := by decide +kernel
theorem dX2_init_6 : decode cX2_init 6 = .ok (.putfield 9, 3) := by decide +kernel
theorem dX2_init_9 : decode cX2_init 9 = .ok (.return_, 1) := by decide +kernel
theorem dX2_noteLoss_0 : decode cX2_noteLoss 0 = .ok (.aload_n 0, 1) := by decide +kernel
theorem dX2_noteLoss_1 : decode cX2_noteLoss 1 = .ok (.iload_n 1, 1) := by decide +kernel
theorem dX2_noteLoss_2 : decode cX2_noteLoss 2 = .ok (.aload_n 0, 1) := by decide +kernel
theorem dX2_noteLoss_3 : decode cX2_noteLoss 3 = .ok (.getfield 15, 3) := by decide +kernel
theorem dX2_noteLoss_6 : decode cX2_noteLoss 6 = .ok (.if_icmp .ge 13, 3) := by decide +kernel
theorem dX2_noteLoss_9 : decode cX2_noteLoss 9 = .ok (.iload_n 1, 1) := by decide +kernel
theorem dX2_noteLoss_10 : decode cX2_noteLoss 10 = .ok (.bipush 85, 2) := by decide +kernel
theorem dX2_noteLoss_12 : decode cX2_noteLoss 12 = .ok (.imul, 1) := by decide +kernel
theorem dX2_noteLoss_13 : decode cX2_noteLoss 13 = .ok (.bipush 100, 2) := by decide +kernel
theorem dX2_noteLoss_15 : decode cX2_noteLoss 15 = .ok (.idiv, 1) := by decide +kernel
theorem dX2_noteLoss_16 : decode cX2_noteLoss 16 = .ok (.goto 4, 3) := by decide +kernel
theorem dX2_noteLoss_19 : decode cX2_noteLoss 19 = .ok (.iload_n 1, 1) := by decide +kernel
theorem dX2_noteLoss_20 : decode cX2_noteLoss 20 = .ok (.putfield 15, 3) := by decide +kernel
theorem dX2_noteLoss_23 : decode cX2_noteLoss 23 = .ok (.aload_n 0, 1) := by decide +kernel
theorem dX2_noteLoss_24 : decode cX2_noteLoss 24 = .ok (.iconst (-1), 1) := by decide +kernel
theorem dX2_noteLoss_25 : decode cX2_noteLoss 25 = .ok (.putfield 9, 3) := by decide +kernel
theorem dX2_noteLoss_28 : decode cX2_noteLoss 28 = .ok (.sipush 2048, 3) := by decide +kernel
theorem dX2_noteLoss_31 : decode cX2_noteLoss 31 = .ok (.iload_n 1, 1) := by decide +kernel
theorem dX2_noteLoss_32 : decode cX2_noteLoss 32 = .ok (.bipush 7, 2) := by decide +kernel
theorem dX2_noteLoss_34 : decode cX2_noteLoss 34 = .ok (.imul, 1) := by decide +kernel
theorem dX2_noteLoss_35 : decode cX2_noteLoss 35 = .ok (.bipush 10, 2) := by decide +kernel
theorem dX2_noteLoss_37 : decode cX2_noteLoss 37 = .ok (.idiv, 1) := by decide +kernel
theorem dX2_noteLoss_38 : decode cX2_noteLoss 38 = .ok (.invokestatic 18, 3) := by decide +kernel
theorem dX2_noteLoss_41 : decode cX2_noteLoss 41 = .ok (.ireturn, 1) := by decide +kernel
theorem dX2_grow_0 : decode cX2_grow 0 = .ok (.aload_n 0, 1) := by decide +kernel
theorem dX2_grow_1 : decode cX2_grow 1 = .ok (.getfield 9, 3) := by decide +kernel
theorem dX2_grow_4 : decode cX2_grow 4 = .ok (.iconst (-1), 1) := by decide +kernel
theorem dX2_grow_5 : decode cX2_grow 5 = .ok (.if_icmp .ne 9, 3) := by decide +kernel
theorem dX2_grow_8 : decode cX2_grow 8 = .ok (.aload_n 0, 1) := by decide +kernel
theorem dX2_grow_9 : decode cX2_grow 9 = .ok (.iload_n 1, 1) := by decide +kernel
theorem dX2_grow_10 : decode cX2_grow 10 = .ok (.iload_n 3, 1) := by decide +kernel
theorem dX2_grow_11 : decode cX2_grow 11 = .ok (.invokevirtual 24, 3) := by decide +kernel
theorem dX2_grow_14 : decode cX2_grow 14 = .ok (.ldc 28, 2) := by decide +kernel
theorem dX2_grow_16 : decode cX2_grow 16 = .ok (.ldc 29, 2) := by decide +kernel
theorem dX2_grow_18 : decode cX2_grow 18 = .ok (.iload_n 3, 1) := by decide +kernel
theorem dX2_grow_19 : decode cX2_grow 19 = .ok (.aload_n 0, 1) := by decide +kernel
theorem dX2_grow_20 : decode cX2_grow 20 = .ok (.getfield 9, 3) := by decide +kernel
theorem dX2_grow_23 : decode cX2_grow 23 = .ok (.isub, 1) := by decide +kernel
theorem dX2_grow_24 : decode cX2_grow 24 = .ok (.iload_n 2, 1) := by decide +kernel
theorem dX2_grow_25 : decode cX2_grow 25 = .ok (.bipush 8, 2) := by decide +kernel
theorem dX2_grow_27 : decode cX2_grow 27 = .ok (.idiv, 1) := by decide +kernel
theorem dX2_grow_28 : decode cX2_grow 28 = .ok (.iadd, 1) := by decide +kernel
theorem dX2_grow_29 : decode cX2_grow 29 = .ok (.aload_n 0, 1) := by decide +kernel
theorem dX2_grow_30 : decode cX2_grow 30 = .ok (.getfield 30, 3) := by decide +kernel
theorem dX2_grow_33 : decode cX2_grow 33 = .ok (.isub, 1) := by decide +kernel
theorem dX2_grow_34 : decode cX2_grow 34 = .ok (.invokestatic 33, 3) := by decide +kernel
theorem dX2_grow_37 : decode cX2_grow 37 = .ok (.invokestatic 18, 3) := by decide +kernel
theorem dX2_grow_40 : decode cX2_grow 40 = .ok (.i2l, 1) := by decide +kernel
theorem dX2_grow_41 : decode cX2_grow 41 = .ok (.lstore 4, 2) := by decide +kernel
theorem dX2_grow_43 : decode cX2_grow 43 = .ok (.aload_n 0, 1) := by decide +kernel
theorem dX2_grow_44 : decode cX2_grow 44 = .ok (.getfield 36, 3) := by decide +kernel
theorem dX2_grow_47 : decode cX2_grow 47 = .ok (.i2l, 1) := by decide +kernel
theorem dX2_grow_48 : decode cX2_grow 48 = .ok (.lload 4, 2) := by decide +kernel
theorem dX2_grow_50 : decode cX2_grow 50 = .ok (.lload 4, 2) := by decide +kernel
theorem dX2_grow_52 : decode cX2_grow 52 = .ok (.lmul, 1) := by decide +kernel
theorem dX2_grow_53 : decode cX2_grow 53 = .ok (.lload 4, 2) := by decide +kernel
theorem dX2_grow_55 : decode cX2_grow 55 = .ok (.lmul, 1) := by decide +kernel
theorem dX2_grow_56 : decode cX2_grow 56 = .ok (.ldc2_w 39, 3) := by decide +kernel
theorem dX2_grow_59 : decode cX2_grow 59 = .ok (.lmul, 1) := by decide +kernel
theorem dX2_grow_60 : decode cX2_grow 60 = .ok (.ldc2_w 41, 3) := by decide +kernel
theorem dX2_grow_63 : decode cX2_grow 63 = .ok (.ldiv, 1) := by decide +kernel
theorem dX2_grow_64 : decode cX2_grow 64 = .ok (.ladd, 1) := by decide +kernel
theorem dX2_grow_65 : decode cX2_grow 65 = .ok (.lstore 6, 2) := by decide +kernel
theorem dX2_grow_67 : decode cX2_grow 67 = .ok (.iload_n 1, 1) := by decide +kernel
theorem dX2_grow_68 : decode cX2_grow 68 = .ok (.i2l, 1) := by decide +kernel
theorem dX2_grow_69 : decode cX2_grow 69 = .ok (.lload 6, 2) := by decide +kernel
theorem dX2_grow_71 : decode cX2_grow 71 = .ok (.iload_n 1, 1) := by decide +kernel
theorem dX2_grow_72 : decode cX2_grow 72 = .ok (.iconst 3, 1) := by decide +kernel
theorem dX2_grow_73 : decode cX2_grow 73 = .ok (.imul, 1) := by decide +kernel
theorem dX2_grow_74 : decode cX2_grow 74 = .ok (.iconst 2, 1) := by decide +kernel
theorem dX2_grow_75 : decode cX2_grow 75 = .ok (.idiv, 1) := by decide +kernel
theorem dX2_grow_76 : decode cX2_grow 76 = .ok (.i2l, 1) := by decide +kernel
theorem dX2_grow_77 : decode cX2_grow 77 = .ok (.invokestatic 43, 3) := by decide +kernel
theorem dX2_grow_80 : decode cX2_grow 80 = .ok (.invokestatic 46, 3) := by decide +kernel
theorem dX2_grow_83 : decode cX2_grow 83 = .ok (.lstore 8, 2) := by decide +kernel
theorem dX2_grow_85 : decode cX2_grow 85 = .ok (.iconst 1, 1) := by decide +kernel
theorem dX2_grow_86 : decode cX2_grow 86 = .ok (.iload_n 1, 1) := by decide +kernel
theorem dX2_grow_87 : decode cX2_grow 87 = .ok (.invokestatic 18, 3) := by decide +kernel
theorem dX2_grow_90 : decode cX2_grow 90 = .ok (.i2l, 1) := by decide +kernel
theorem dX2_grow_91 : decode cX2_grow 91 = .ok (.lstore 10, 2) := by decide +kernel
theorem dX2_grow_93 : decode cX2_grow 93 = .ok (.aload_n 0, 1) := by decide +kernel
theorem dX2_grow_94 : decode cX2_grow 94 = .ok (.dup, 1) := by decide +kernel
theorem dX2_grow_95 : decode cX2_grow 95 = .ok (.getfield 48, 3) := by decide +kernel
theorem dX2_grow_98 : decode cX2_grow 98 = .ok (.ldc2_w 51, 3) := by decide +kernel
theorem dX2_grow_101 : decode cX2_grow 101 = .ok (.lload 10, 2) := by decide +kernel
theorem dX2_grow_103 : decode cX2_grow 103 = .ok (.ldiv, 1) := by decide +kernel
theorem dX2_grow_104 : decode cX2_grow 104 = .ok (.l2i, 1) := by decide +kernel
theorem dX2_grow_105 : decode cX2_grow 105 = .ok (.iadd, 1) := by decide +kernel
theorem dX2_grow_106 : decode cX2_grow 106 = .ok (.putfield 48, 3) := by decide +kernel
theorem dX2_grow_109 : decode cX2_grow 109 = .ok (.iload_n 1, 1) := by decide +kernel
theorem dX2_grow_110 : decode cX2_grow 110 = .ok (.lconst 1, 1) := by decide +kernel
theorem dX2_grow_111 : decode cX2_grow 111 = .ok (.lload 8, 2) := by decide +kernel
theorem dX2_grow_113 : decode cX2_grow 113 = .ok (.iload_n 1, 1) := by decide +kernel
theorem dX2_grow_114 : decode cX2_grow 114 = .ok (.i2l, 1) := by decide +kernel
theorem dX2_grow_115 : decode cX2_grow 115 = .ok (.lsub, 1) := by decide +kernel
theorem dX2_grow_116 : decode cX2_grow 116 = .ok (.ldc2_w 53, 3) := by decide +kernel
theorem dX2_grow_119 : decode cX2_grow 119 = .ok (.lmul, 1) := by decide +kernel
theorem dX2_grow_120 : decode cX2_grow 120 = .ok (.lload 10, 2) := by decide +kernel
theorem dX2_grow_122 : decode cX2_grow 122 = .ok (.ldiv, 1) := by decide +kernel
theorem dX2_grow_123 : decode cX2_grow 123 = .ok (.invokestatic 46, 3) := by decide +kernel
theorem dX2_grow_126 : decode cX2_grow 126 = .ok (.l2i, 1) := by decide +kernel
theorem dX2_grow_127 : decode cX2_grow 127 = .ok (.iadd, 1) := by decide +kernel
theorem dX2_grow_128 : decode cX2_grow 128 = .ok (.istore 12, 2) := by decide +kernel
theorem dX2_grow_130 : decode cX2_grow 130 = .ok (.iload 12, 2) := by decide +kernel
theorem dX2_grow_132 : decode cX2_grow 132 = .ok (.aload_n 0, 1) := by decide +kernel
theorem dX2_grow_133 : decode cX2_grow 133 = .ok (.getfield 48, 3) := by decide +kernel
theorem dX2_grow_136 : decode cX2_grow 136 = .ok (.invokestatic 18, 3) := by decide +kernel
theorem dX2_grow_139 : decode cX2_grow 139 = .ok (.ireturn, 1) := by decide +kernel
theorem dX2_begin_0 : decode cX2_begin 0 = .ok (.aload_n 0, 1) := by decide +kernel
theorem dX2_begin_1 : decode cX2_begin 1 = .ok (.iload_n 2, 1) := by decide +kernel
theorem dX2_begin_2 : decode cX2_begin 2 = .ok (.putfield 9, 3) := by decide +kernel
theorem dX2_begin_5 : decode cX2_begin 5 = .ok (.aload_n 0, 1) := by decide +kernel
theorem dX2_begin_6 : decode cX2_begin 6 = .ok (.iload_n 1, 1) := by decide +kernel
theorem dX2_begin_7 : decode cX2_begin 7 = .ok (.aload_n 0, 1) := by decide +kernel
theorem dX2_begin_8 : decode cX2_begin 8 = .ok (.getfield 15, 3) := by decide +kernel
theorem dX2_begin_11 : decode cX2_begin 11 = .ok (.if_icmp .ge 24, 3) := by decide +kernel
theorem dX2_begin_14 : decode cX2_begin 14 = .ok (.aload_n 0, 1) := by decide +kernel
theorem dX2_begin_15 : decode cX2_begin 15 = .ok (.getfield 15, 3) := by decide +kernel
theorem dX2_begin_18 : decode cX2_begin 18 = .ok (.iload_n 1, 1) := by decide +kernel
theorem dX2_begin_19 : decode cX2_begin 19 = .ok (.isub, 1) := by decide +kernel
theorem dX2_begin_20 : decode cX2_begin 20 = .ok (.i2l, 1) := by decide +kernel
theorem dX2_begin_21 : decode cX2_begin 21 = .ok (.ldc2_w 55, 3) := by decide +kernel
theorem dX2_begin_24 : decode cX2_begin 24 = .ok (.lmul, 1) := by decide +kernel
theorem dX2_begin_25 : decode cX2_begin 25 = .ok (.ldc2_w 53, 3) := by decide +kernel
theorem dX2_begin_28 : decode cX2_begin 28 = .ok (.ldiv, 1) := by decide +kernel
theorem dX2_begin_29 : decode cX2_begin 29 = .ok (.invokestatic 57, 3) := by decide +kernel
theorem dX2_begin_32 : decode cX2_begin 32 = .ok (.goto 4, 3) := by decide +kernel
theorem dX2_begin_35 : decode cX2_begin 35 = .ok (.iconst 0, 1) := by decide +kernel
theorem dX2_begin_36 : decode cX2_begin 36 = .ok (.putfield 30, 3) := by decide +kernel
theorem dX2_begin_39 : decode cX2_begin 39 = .ok (.aload_n 0, 1) := by decide +kernel
theorem dX2_begin_40 : decode cX2_begin 40 = .ok (.aload_n 0, 1) := by decide +kernel
theorem dX2_begin_41 : decode cX2_begin 41 = .ok (.getfield 15, 3) := by decide +kernel
theorem dX2_begin_44 : decode cX2_begin 44 = .ok (.iload_n 1, 1) := by decide +kernel
theorem dX2_begin_45 : decode cX2_begin 45 = .ok (.invokestatic 18, 3) := by decide +kernel
theorem dX2_begin_48 : decode cX2_begin 48 = .ok (.putfield 36, 3) := by decide +kernel
theorem dX2_begin_51 : decode cX2_begin 51 = .ok (.aload_n 0, 1) := by decide +kernel
theorem dX2_begin_52 : decode cX2_begin 52 = .ok (.iload_n 1, 1) := by decide +kernel
theorem dX2_begin_53 : decode cX2_begin 53 = .ok (.putfield 48, 3) := by decide +kernel
theorem dX2_begin_56 : decode cX2_begin 56 = .ok (.return_, 1) := by decide +kernel
theorem dX2_cubeRoot_0 : decode cX2_cubeRoot 0 = .ok (.lconst 0, 1) := by decide +kernel
theorem dX2_cubeRoot_1 : decode cX2_cubeRoot 1 = .ok (.lstore_n 2, 1) := by decide +kernel
theorem dX2_cubeRoot_2 : decode cX2_cubeRoot 2 = .ok (.ldc2_w 61, 3) := by decide +kernel
theorem dX2_cubeRoot_5 : decode cX2_cubeRoot 5 = .ok (.lstore 4, 2) := by decide +kernel
theorem dX2_cubeRoot_7 : decode cX2_cubeRoot 7 = .ok (.lload 4, 2) := by decide +kernel
theorem dX2_cubeRoot_9 : decode cX2_cubeRoot 9 = .ok (.lconst 0, 1) := by decide +kernel
theorem dX2_cubeRoot_10 : decode cX2_cubeRoot 10 = .ok (.lcmp, 1) := by decide +kernel
theorem dX2_cubeRoot_11 : decode cX2_cubeRoot 11 = .ok (.ifCond .le 36, 3) := by decide +kernel
theorem dX2_cubeRoot_14 : decode cX2_cubeRoot 14 = .ok (.lload_n 2, 1) := by decide +kernel
theorem dX2_cubeRoot_15 : decode cX2_cubeRoot 15 = .ok (.lload 4, 2) := by decide +kernel
theorem dX2_cubeRoot_17 : decode cX2_cubeRoot 17 = .ok (.ladd, 1) := by decide +kernel
theorem dX2_cubeRoot_18 : decode cX2_cubeRoot 18 = .ok (.lstore 6, 2) := by decide +kernel
theorem dX2_cubeRoot_20 : decode cX2_cubeRoot 20 = .ok (.lload 6, 2) := by decide +kernel
theorem dX2_cubeRoot_22 : decode cX2_cubeRoot 22 = .ok (.lload 6, 2) := by decide +kernel
theorem dX2_cubeRoot_24 : decode cX2_cubeRoot 24 = .ok (.lmul, 1) := by decide +kernel
theorem dX2_cubeRoot_25 : decode cX2_cubeRoot 25 = .ok (.lload 6, 2) := by decide +kernel
theorem dX2_cubeRoot_27 : decode cX2_cubeRoot 27 = .ok (.lmul, 1) := by decide +kernel
theorem dX2_cubeRoot_28 : decode cX2_cubeRoot 28 = .ok (.lload_n 0, 1) := by decide +kernel
theorem dX2_cubeRoot_29 : decode cX2_cubeRoot 29 = .ok (.lcmp, 1) := by decide +kernel
theorem dX2_cubeRoot_30 : decode cX2_cubeRoot 30 = .ok (.ifCond .gt 6, 3) := by decide +kernel
theorem dX2_cubeRoot_33 : decode cX2_cubeRoot 33 = .ok (.lload 6, 2) := by decide +kernel
theorem dX2_cubeRoot_35 : decode cX2_cubeRoot 35 = .ok (.lstore_n 2, 1) := by decide +kernel
theorem dX2_cubeRoot_36 : decode cX2_cubeRoot 36 = .ok (.lload 4, 2) := by decide +kernel
theorem dX2_cubeRoot_38 : decode cX2_cubeRoot 38 = .ok (.ldc2_w 63, 3) := by decide +kernel
theorem dX2_cubeRoot_41 : decode cX2_cubeRoot 41 = .ok (.ldiv, 1) := by decide +kernel
theorem dX2_cubeRoot_42 : decode cX2_cubeRoot 42 = .ok (.lstore 4, 2) := by decide +kernel
theorem dX2_cubeRoot_44 : decode cX2_cubeRoot 44 = .ok (.goto (-37), 3) := by decide +kernel
theorem dX2_cubeRoot_47 : decode cX2_cubeRoot 47 = .ok (.lload_n 2, 1) := by decide +kernel
theorem dX2_cubeRoot_48 : decode cX2_cubeRoot 48 = .ok (.l2i, 1) := by decide +kernel
theorem dX2_cubeRoot_49 : decode cX2_cubeRoot 49 = .ok (.ireturn, 1) := by decide +kernel
theorem dX3_init_0 : decode cX3_init 0 = .ok (.aload_n 0, 1) := by decide +kernel
theorem dX3_init_1 : decode cX3_init 1 = .ok (.invokespecial 1, 3) := by decide +kernel
theorem dX3_init_4 : decode cX3_init 4 = .ok (.aload_n 0, 1) := by decide +kernel
theorem dX3_init_5 : decode cX3_init 5 = .ok (.new 7, 3) := by decide +kernel
theorem dX3_init_8 : decode cX3_init 8 = .ok (.dup, 1) := by decide +kernel
theorem dX3_init_9 : decode cX3_init 9 = .ok (.iload_n 1, 1) := by decide +kernel
theorem dX3_init_10 : decode cX3_init 10 = .ok (.iload_n 2, 1) := by decide +kernel
theorem dX3_init_11 : decode cX3_init 11 = .ok (.invokespecial 9, 3) := by decide +kernel
theorem dX3_init_14 : decode cX3_init 14 = .ok (.putfield 12, 3) := by decide +kernel
theorem dX3_init_17 : decode cX3_init 17 = .ok (.aload_n 0, 1) := by decide +kernel
theorem dX3_init_18 : decode cX3_init 18 = .ok (.new 18, 3) := by decide +kernel
theorem dX3_init_21 : decode cX3_init 21 = .ok (.dup, 1) := by decide +kernel
theorem dX3_init_22 : decode cX3_init 22 = .ok (.iload_n 1, 1) := by decide +kernel
theorem dX3_init_23 : decode cX3_init 23 = .ok (.iload_n 3, 1) := by decide +kernel
theorem dX3_init_24 : decode cX3_init 24 = .ok (.invokespecial 20, 3) := by decide +kernel
theorem dX3_init_27 : decode cX3_init 27 = .ok (.putfield 23, 3) := by decide +kernel
theorem dX3_init_30 : decode cX3_init 30 = .ok (.return_, 1) := by decide +kernel
theorem dX4_init_0 : decode cX4_init 0 = .ok (.aload_n 0, 1) := by decide +kernel
theorem dX4_init_1 : decode cX4_init 1 = .ok (.invokespecial 1, 3) := by decide +kernel
theorem dX4_init_4 : decode cX4_init 4 = .ok (.aload_n 0, 1) := by decide +kernel
theorem dX4_init_5 : decode cX4_init 5 = .ok (.iconst 4, 1) := by decide +kernel
theorem dX4_init_6 : decode cX4_init 6 = .ok (.newarray .long, 2) := by decide +kernel
theorem dX4_init_8 : decode cX4_init 8 = .ok (.putfield 7, 3) := by decide +kernel
theorem dX4_init_11 : decode cX4_init 11 = .ok (.return_, 1) := by decide +kernel
theorem dX4_has_0 : decode cX4_has 0 = .ok (.aload_n 0, 1) := by decide +kernel
theorem dX4_has_1 : decode cX4_has 1 = .ok (.getfield 7, 3) := by decide +kernel
theorem dX4_has_4 : decode cX4_has 4 = .ok (.iload_n 1, 1) := by decide +kernel
theorem dX4_has_5 : decode cX4_has 5 = .ok (.bipush 6, 2) := by decide +kernel
theorem dX4_has_7 : decode cX4_has 7 = .ok (.ishr, 1) := by decide +kernel
theorem dX4_has_8 : decode cX4_has 8 = .ok (.iconst 3, 1) := by decide +kernel
theorem dX4_has_9 : decode cX4_has 9 = .ok (.iand, 1) := by decide +kernel
theorem dX4_has_10 : decode cX4_has 10 = .ok (.laload, 1) := by decide +kernel
theorem dX4_has_11 : decode cX4_has 11 = .ok (.iload_n 1, 1) := by decide +kernel
theorem dX4_has_12 : decode cX4_has 12 = .ok (.bipush 63, 2) := by decide +kernel
theorem dX4_has_14 : decode cX4_has 14 = .ok (.iand, 1) := by decide +kernel
theorem dX4_has_15 : decode cX4_has 15 = .ok (.lushr, 1) := by decide +kernel
theorem dX4_has_16 : decode cX4_has 16 = .ok (.lconst 1, 1) := by decide +kernel
theorem dX4_has_17 : decode cX4_has 17 = .ok (.land, 1) := by decide +kernel
theorem dX4_has_18 : decode cX4_has 18 = .ok (.lconst 0, 1) := by decide +kernel
theorem dX4_has_19 : decode cX4_has 19 = .ok (.lcmp, 1) := by decide +kernel
theorem dX4_has_20 : decode cX4_has 20 = .ok (.ifCond .eq 7, 3) := by decide +kernel
theorem dX4_has_23 : decode cX4_has 23 = .ok (.iconst 1, 1) := by decide +kernel
theorem dX4_has_24 : decode cX4_has 24 = .ok (.goto 4, 3) := by decide +kernel
theorem dX4_has_27 : decode cX4_has 27 = .ok (.iconst 0, 1) := by decide +kernel
theorem dX4_has_28 : decode cX4_has 28 = .ok (.ireturn, 1) := by decide +kernel
theorem dX4_put_0 : decode cX4_put 0 = .ok (.aload_n 0, 1) := by decide +kernel
theorem dX4_put_1 : decode cX4_put 1 = .ok (.getfield 7, 3) := by decide +kernel
theorem dX4_put_4 : decode cX4_put 4 = .ok (.iload_n 1, 1) := by decide +kernel
theorem dX4_put_5 : decode cX4_put 5 = .ok (.bipush 6, 2) := by decide +kernel
theorem dX4_put_7 : decode cX4_put 7 = .ok (.ishr, 1) := by decide +kernel
theorem dX4_put_8 : decode cX4_put 8 = .ok (.iconst 3, 1) := by decide +kernel
theorem dX4_put_9 : decode cX4_put 9 = .ok (.iand, 1) := by decide +kernel
theorem dX4_put_10 : decode cX4_put 10 = .ok (.dup2, 1) := by decide +kernel
theorem dX4_put_11 : decode cX4_put 11 = .ok (.laload, 1) := by decide +kernel
theorem dX4_put_12 : decode cX4_put 12 = .ok (.lconst 1, 1) := by decide +kernel
theorem dX4_put_13 : decode cX4_put 13 = .ok (.iload_n 1, 1) := by decide +kernel
theorem dX4_put_14 : decode cX4_put 14 = .ok (.bipush 63, 2) := by decide +kernel
theorem dX4_put_16 : decode cX4_put 16 = .ok (.iand, 1) := by decide +kernel
theorem dX4_put_17 : decode cX4_put 17 = .ok (.lshl, 1) := by decide +kernel
theorem dX4_put_18 : decode cX4_put 18 = .ok (.lor, 1) := by decide +kernel
theorem dX4_put_19 : decode cX4_put 19 = .ok (.lastore, 1) := by decide +kernel
theorem dX4_put_20 : decode cX4_put 20 = .ok (.return_, 1) := by decide +kernel
theorem dX4_drop_0 : decode cX4_drop 0 = .ok (.aload_n 0, 1) := by decide +kernel
theorem dX4_drop_1 : decode cX4_drop 1 = .ok (.getfield 7, 3) := by decide +kernel
theorem dX4_drop_4 : decode cX4_drop 4 = .ok (.iload_n 1, 1) := by decide +kernel
theorem dX4_drop_5 : decode cX4_drop 5 = .ok (.bipush 6, 2) := by decide +kernel
theorem dX4_drop_7 : decode cX4_drop 7 = .ok (.ishr, 1) := by decide +kernel
theorem dX4_drop_8 : decode cX4_drop 8 = .ok (.iconst 3, 1) := by decide +kernel
theorem dX4_drop_9 : decode cX4_drop 9 = .ok (.iand, 1) := by decide +kernel
theorem dX4_drop_10 : decode cX4_drop 10 = .ok (.dup2, 1) := by decide +kernel
theorem dX4_drop_11 : decode cX4_drop 11 = .ok (.laload, 1) := by decide +kernel
theorem dX4_drop_12 : decode cX4_drop 12 = .ok (.lconst 1, 1) := by decide +kernel
theorem dX4_drop_13 : decode cX4_drop 13 = .ok (.iload_n 1, 1) := by decide +kernel
theorem dX4_drop_14 : decode cX4_drop 14 = .ok (.bipush 63, 2) := by decide +kernel
theorem dX4_drop_16 : decode cX4_drop 16 = .ok (.iand, 1) := by decide +kernel
theorem dX4_drop_17 : decode cX4_drop 17 = .ok (.lshl, 1) := by decide +kernel
theorem dX4_drop_18 : decode cX4_drop 18 = .ok (.ldc2_w 13, 3) := by decide +kernel
theorem dX4_drop_21 : decode cX4_drop 21 = .ok (.lxor, 1) := by decide +kernel
theorem dX4_drop_22 : decode cX4_drop 22 = .ok (.land, 1) := by decide +kernel
theorem dX4_drop_23 : decode cX4_drop 23 = .ok (.lastore, 1) := by decide +kernel
theorem dX4_drop_24 : decode cX4_drop 24 = .ok (.return_, 1) := by decide +kernel
theorem dX4_clear_0 : decode cX4_clear 0 = .ok (.iconst 0, 1) := by decide +kernel
theorem dX4_clear_1 : decode cX4_clear 1 = .ok (.istore_n 1, 1) := by decide +kernel
theorem dX4_clear_2 : decode cX4_clear 2 = .ok (.iload_n 1, 1) := by decide +kernel
theorem dX4_clear_3 : decode cX4_clear 3 = .ok (.aload_n 0, 1) := by decide +kernel
theorem dX4_clear_4 : decode cX4_clear 4 = .ok (.getfield 7, 3) := by decide +kernel
theorem dX4_clear_7 : decode cX4_clear 7 = .ok (.arraylength, 1) := by decide +kernel
theorem dX4_clear_8 : decode cX4_clear 8 = .ok (.if_icmp .ge 16, 3) := by decide +kernel
theorem dX4_clear_11 : decode cX4_clear 11 = .ok (.aload_n 0, 1) := by decide +kernel
theorem dX4_clear_12 : decode cX4_clear 12 = .ok (.getfield 7, 3) := by decide +kernel
theorem dX4_clear_15 : decode cX4_clear 15 = .ok (.iload_n 1, 1) := by decide +kernel
theorem dX4_clear_16 : decode cX4_clear 16 = .ok (.lconst 0, 1) := by decide +kernel
theorem dX4_clear_17 : decode cX4_clear 17 = .ok (.lastore, 1) := by decide +kernel
theorem dX4_clear_18 : decode cX4_clear 18 = .ok (.iinc 1 1, 3) := by decide +kernel
theorem dX4_clear_21 : decode cX4_clear 21 = .ok (.goto (-19), 3) := by decide +kernel
theorem dX4_clear_24 : decode cX4_clear 24 = .ok (.return_, 1) := by decide +kernel
theorem dX4_isEmpty_0 : decode cX4_isEmpty 0 = .ok (.aload_n 0, 1) := by decide +kernel
theorem dX4_isEmpty_1 : decode cX4_isEmpty 1 = .ok (.getfield 7, 3) := by decide +kernel
theorem dX4_isEmpty_4 : decode cX4_isEmpty 4 = .ok (.iconst 0, 1) := by decide +kernel
theorem dX4_isEmpty_5 : decode cX4_isEmpty 5 = .ok (.laload, 1) := by decide +kernel
theorem dX4_isEmpty_6 : decode cX4_isEmpty 6 = .ok (.aload_n 0, 1) := by decide +kernel
theorem dX4_isEmpty_7 : decode cX4_isEmpty 7 = .ok (.getfield 7, 3) := by decide +kernel
theorem dX4_isEmpty_10 : decode cX4_isEmpty 10 = .ok (.iconst 1, 1) := by decide +kernel
theorem dX4_isEmpty_11 : decode cX4_isEmpty 11 = .ok (.laload, 1) := by decide +kernel
theorem dX4_isEmpty_12 : decode cX4_isEmpty 12 = .ok (.lor, 1) := by decide +kernel
theorem dX4_isEmpty_13 : decode cX4_isEmpty 13 = .ok (.aload_n 0, 1) := by decide +kernel
theorem dX4_isEmpty_14 : decode cX4_isEmpty 14 = .ok (.getfield 7, 3) := by decide +kernel
theorem dX4_isEmpty_17 : decode cX4_isEmpty 17 = .ok (.iconst 2, 1) := by decide +kernel
theorem dX4_isEmpty_18 : decode cX4_isEmpty 18 = .ok (.laload, 1) := by decide +kernel
theorem dX4_isEmpty_19 : decode cX4_isEmpty 19 = .ok (.lor, 1) := by decide +kernel
theorem dX4_isEmpty_20 : decode cX4_isEmpty 20 = .ok (.aload_n 0, 1) := by decide +kernel
theorem dX4_isEmpty_21 : decode cX4_isEmpty 21 = .ok (.getfield 7, 3) := by decide +kernel
theorem dX4_isEmpty_24 : decode cX4_isEmpty 24 = .ok (.iconst 3, 1) := by decide +kernel
theorem dX4_isEmpty_25 : decode cX4_isEmpty 25 = .ok (.laload, 1) := by decide +kernel
theorem dX4_isEmpty_26 : decode cX4_isEmpty 26 = .ok (.lor, 1) := by decide +kernel
theorem dX4_isEmpty_27 : decode cX4_isEmpty 27 = .ok (.lconst 0, 1) := by decide +kernel
theorem dX4_isEmpty_28 : decode cX4_isEmpty 28 = .ok (.lcmp, 1) := by decide +kernel
theorem dX4_isEmpty_29 : decode cX4_isEmpty 29 = .ok (.ifCond .ne 7, 3) := by decide +kernel
theorem dX4_isEmpty_32 : decode cX4_isEmpty 32 = .ok (.iconst 1, 1) := by decide +kernel
theorem dX4_isEmpty_33 : decode cX4_isEmpty 33 = .ok (.goto 4, 3) := by decide +kernel
theorem dX4_isEmpty_36 : decode cX4_isEmpty 36 = .ok (.iconst 0, 1) := by decide +kernel
theorem dX4_isEmpty_37 : decode cX4_isEmpty 37 = .ok (.ireturn, 1) := by decide +kernel
theorem dX4_writeTo_0 : decode cX4_writeTo 0 = .ok (.iconst 0, 1) := by decide +kernel
theorem dX4_writeTo_1 : decode cX4_writeTo 1 = .ok (.istore_n 2, 1) := by decide +kernel
theorem dX4_writeTo_2 : decode cX4_writeTo 2 = .ok (.iload_n 2, 1) := by decide +kernel
theorem dX4_writeTo_3 : decode cX4_writeTo 3 = .ok (.aload_n 0, 1) := by decide +kernel
theorem dX4_writeTo_4 : decode cX4_writeTo 4 = .ok (.getfield 7, 3) := by decide +kernel
theorem dX4_writeTo_7 : decode cX4_writeTo 7 = .ok (.arraylength, 1) := by decide +kernel
theorem dX4_writeTo_8 : decode cX4_writeTo 8 = .ok (.if_icmp .ge 24, 3) := by decide +kernel
theorem dX4_writeTo_11 : decode cX4_writeTo 11 = .ok (.iload_n 2, 1) := by decide +kernel
theorem dX4_writeTo_12 : decode cX4_writeTo 12 = .ok (.aload_n 1, 1) := by decide +kernel
theorem dX4_writeTo_13 : decode cX4_writeTo 13 = .ok (.arraylength, 1) := by decide +kernel
theorem dX4_writeTo_14 : decode cX4_writeTo 14 = .ok (.if_icmp .ge 18, 3) := by decide +kernel
theorem dX4_writeTo_17 : decode cX4_writeTo 17 = .ok (.aload_n 1, 1) := by decide +kernel
theorem dX4_writeTo_18 : decode cX4_writeTo 18 = .ok (.iload_n 2, 1) := by decide +kernel
theorem dX4_writeTo_19 : decode cX4_writeTo 19 = .ok (.aload_n 0, 1) := by decide +kernel
theorem dX4_writeTo_20 : decode cX4_writeTo 20 = .ok (.getfield 7, 3) := by decide +kernel
theorem dX4_writeTo_23 : decode cX4_writeTo 23 = .ok (.iload_n 2, 1) := by decide +kernel
theorem dX4_writeTo_24 : decode cX4_writeTo 24 = .ok (.laload, 1) := by decide +kernel
theorem dX4_writeTo_25 : decode cX4_writeTo 25 = .ok (.lastore, 1) := by decide +kernel
theorem dX4_writeTo_26 : decode cX4_writeTo 26 = .ok (.iinc 2 1, 3) := by decide +kernel
theorem dX4_writeTo_29 : decode cX4_writeTo 29 = .ok (.goto (-27), 3) := by decide +kernel
theorem dX4_writeTo_32 : decode cX4_writeTo 32 = .ok (.return_, 1) := by decide +kernel
theorem dX4_readFrom_0 : decode cX4_readFrom 0 = .ok (.iconst 0, 1) := by decide +kernel
theorem dX4_readFrom_1 : decode cX4_readFrom 1 = .ok (.istore_n 2, 1) := by decide +kernel
theorem dX4_readFrom_2 : decode cX4_readFrom 2 = .ok (.iload_n 2, 1) := by decide +kernel
theorem dX4_readFrom_3 : decode cX4_readFrom 3 = .ok (.aload_n 0, 1) := by decide +kernel
theorem dX4_readFrom_4 : decode cX4_readFrom 4 = .ok (.getfield 7, 3) := by decide +kernel
theorem dX4_readFrom_7 : decode cX4_readFrom 7 = .ok (.arraylength, 1) := by decide +kernel
theorem dX4_readFrom_8 : decode cX4_readFrom 8 = .ok (.if_icmp .ge 24, 3) := by decide +kernel
theorem dX4_readFrom_11 : decode cX4_readFrom 11 = .ok (.iload_n 2, 1) := by decide +kernel
theorem dX4_readFrom_12 : decode cX4_readFrom 12 = .ok (.aload_n 1, 1) := by decide +kernel
theorem dX4_readFrom_13 : decode cX4_readFrom 13 = .ok (.arraylength, 1) := by decide +kernel
theorem dX4_readFrom_14 : decode cX4_readFrom 14 = .ok (.if_icmp .ge 18, 3) := by decide +kernel
theorem dX4_readFrom_17 : decode cX4_readFrom 17 = .ok (.aload_n 0, 1) := by decide +kernel
theorem dX4_readFrom_18 : decode cX4_readFrom 18 = .ok (.getfield 7, 3) := by decide +kernel
theorem dX4_readFrom_21 : decode cX4_readFrom 21 = .ok (.iload_n 2, 1) := by decide +kernel
theorem dX4_readFrom_22 : decode cX4_readFrom 22 = .ok (.aload_n 1, 1) := by decide +kernel
theorem dX4_readFrom_23 : decode cX4_readFrom 23 = .ok (.iload_n 2, 1) := by decide +kernel
theorem dX4_readFrom_24 : decode cX4_readFrom 24 = .ok (.laload, 1) := by decide +kernel
theorem dX4_readFrom_25 : decode cX4_readFrom 25 = .ok (.lastore, 1) := by decide +kernel
theorem dX4_readFrom_26 : decode cX4_readFrom 26 = .ok (.iinc 2 1, 3) := by decide +kernel
theorem dX4_readFrom_29 : decode cX4_readFrom 29 = .ok (.goto (-27), 3) := by decide +kernel
theorem dX4_readFrom_32 : decode cX4_readFrom 32 = .ok (.return_, 1) := by decide +kernel
theorem dX5_init_0 : decode cX5_init 0 = .ok (.aload_n 0, 1) := by decide +kernel
theorem dX5_init_1 : decode cX5_init 1 = .ok (.invokespecial 1, 3) := by decide +kernel
theorem dX5_init_4 : decode cX5_init 4 = .ok (.aload_n 0, 1) := by decide +kernel
theorem dX5_init_5 : decode cX5_init 5 = .ok (.iconst 4, 1) := by decide +kernel
theorem dX5_init_6 : decode cX5_init 6 = .ok (.newarray .long, 2) := by decide +kernel
theorem dX5_init_8 : decode cX5_init 8 = .ok (.putfield 7, 3) := by decide +kernel
theorem dX5_init_11 : decode cX5_init 11 = .ok (.return_, 1) := by decide +kernel
theorem dX6_init_0 : decode cX6_init 0 = .ok (.aload_n 0, 1) := by decide +kernel
theorem dX6_init_1 : decode cX6_init 1 = .ok (.invokespecial 3, 3) := by decide +kernel
theorem dX6_init_4 : decode cX6_init 4 = .ok (.aload_n 0, 1) := by decide +kernel
theorem dX6_init_5 : decode cX6_init 5 = .ok (.bipush 40, 2) := by decide +kernel
theorem dX6_init_7 : decode cX6_init 7 = .ok (.putfield 9, 3) := by decide +kernel
theorem dX6_init_10 : decode cX6_init 10 = .ok (.aload_n 0, 1) := by decide +kernel
theorem dX6_init_11 : decode cX6_init 11 = .ok (.new 15, 3) := by decide +kernel
theorem dX6_init_14 : decode cX6_init 14 = .ok (.dup, 1) := by decide +kernel
theorem dX6_init_15 : decode cX6_init 15 = .ok (.invokespecial 17, 3) := by decide +kernel
theorem dX6_init_18 : decode cX6_init 18 = .ok (.putfield 18, 3) := by decide +kernel
theorem dX6_init_21 : decode cX6_init 21 = .ok (.aload_n 0, 1) := by decide +kernel
theorem dX6_init_22 : decode cX6_init 22 = .ok (.iconst (-1), 1) := by decide +kernel
theorem dX6_init_23 : decode cX6_init 23 = .ok (.putfield 22, 3) := by decide +kernel
theorem dX6_init_26 : decode cX6_init 26 = .ok (.aload_n 0, 1) := by decide +kernel
theorem dX6_init_27 : decode cX6_init 27 = .ok (.iload_n 1, 1) := by decide +kernel
theorem dX6_init_28 : decode cX6_init 28 = .ok (.putfield 25, 3) := by decide +kernel
theorem dX6_init_31 : decode cX6_init 31 = .ok (.aload_n 0, 1) := by decide +kernel
theorem dX6_init_32 : decode cX6_init 32 = .ok (.iload_n 2, 1) := by decide +kernel
theorem dX6_init_33 : decode cX6_init 33 = .ok (.putfield 28, 3) := by decide +kernel
theorem dX6_init_36 : decode cX6_init 36 = .ok (.return_, 1) := by decide +kernel
theorem dX6_changeWindow_0 : decode cX6_changeWindow 0 = .ok (.aload_n 0, 1) := by decide +kernel
theorem dX6_changeWindow_1 : decode cX6_changeWindow 1 = .ok (.getfield 9, 3) := by decide +kernel
theorem dX6_changeWindow_4 : decode cX6_changeWindow 4 = .ok (.istore_n 2, 1) := by decide +kernel
theorem dX6_changeWindow_5 : decode cX6_changeWindow 5 = .ok (.iload_n 1, 1) := by decide +kernel
theorem dX6_changeWindow_6 : decode cX6_changeWindow 6 = .ok (.iload_n 2, 1) := by decide +kernel
theorem dX6_changeWindow_7 : decode cX6_changeWindow 7 = .ok (.if_icmp .eq 13, 3) := by decide +kernel
theorem dX6_changeWindow_10 : decode cX6_changeWindow 10 = .ok (.aload_n 0, 1) := by decide +kernel
theorem dX6_changeWindow_11 : decode cX6_changeWindow 11 = .ok (.iload_n 1, 1) := by decide +kernel
theorem dX6_changeWindow_12 : decode cX6_changeWindow 12 = .ok (.putfield 9, 3) := by decide +kernel
theorem dX6_changeWindow_15 : decode cX6_changeWindow 15 = .ok (.aload_n 0, 1) := by decide +kernel
theorem dX6_changeWindow_16 : decode cX6_changeWindow 16 = .ok (.iconst 1, 1) := by decide +kernel
theorem dX6_changeWindow_17 : decode cX6_changeWindow 17 = .ok (.putfield 32, 3) := by decide +kernel
theorem dX6_changeWindow_20 : decode cX6_changeWindow 20 = .ok (.iload_n 2, 1) := by decide +kernel
theorem dX6_changeWindow_21 : decode cX6_changeWindow 21 = .ok (.ireturn, 1) := by decide +kernel
theorem dX6_take_0 : decode cX6_take 0 = .ok (.aload_n 1, 1) := by decide +kernel
theorem dX6_take_1 : decode cX6_take 1 = .ok (.getfield 35, 3) := by decide +kernel
theorem dX6_take_4 : decode cX6_take 4 = .ok (.istore 4, 2) := by decide +kernel
theorem dX6_take_6 : decode cX6_take 6 = .ok (.iload 4, 2) := by decide +kernel
theorem dX6_take_8 : decode cX6_take 8 = .ok (.aload_n 0, 1) := by decide +kernel
theorem dX6_take_9 : decode cX6_take 9 = .ok (.getfield 38, 3) := by decide +kernel
theorem dX6_take_12 : decode cX6_take 12 = .ok (.if_icmp .lt 21, 3) := by decide +kernel
theorem dX6_take_15 : decode cX6_take 15 = .ok (.iload 4, 2) := by decide +kernel
theorem dX6_take_17 : decode cX6_take 17 = .ok (.aload_n 0, 1) := by decide +kernel
theorem dX6_take_18 : decode cX6_take 18 = .ok (.getfield 38, 3) := by decide +kernel
theorem dX6_take_21 : decode cX6_take 21 = .ok (.aload_n 0, 1) := by decide +kernel
theorem dX6_take_22 : decode cX6_take 22 = .ok (.getfield 9, 3) := by decide +kernel
theorem dX6_take_25 : decode cX6_take 25 = .ok (.iadd, 1) := by decide +kernel
theorem dX6_take_26 : decode cX6_take 26 = .ok (.if_icmp .ge 7, 3) := by decide +kernel
theorem dX6_take_29 : decode cX6_take 29 = .ok (.iconst 1, 1) := by decide +kernel
theorem dX6_take_30 : decode cX6_take 30 = .ok (.goto 4, 3) := by decide +kernel
theorem dX6_take_33 : decode cX6_take 33 = .ok (.iconst 0, 1) := by decide +kernel
theorem dX6_take_34 : decode cX6_take 34 = .ok (.istore 5, 2) := by decide +kernel
theorem dX6_take_36 : decode cX6_take 36 = .ok (.iload 5, 2) := by decide +kernel
theorem dX6_take_38 : decode cX6_take 38 = .ok (.ifCond .eq 16, 3) := by decide +kernel
theorem dX6_take_41 : decode cX6_take 41 = .ok (.iload 4, 2) := by decide +kernel
theorem dX6_take_43 : decode cX6_take 43 = .ok (.aload_n 0, 1) := by decide +kernel
theorem dX6_take_44 : decode cX6_take 44 = .ok (.getfield 38, 3) := by decide +kernel
theorem dX6_take_47 : decode cX6_take 47 = .ok (.if_icmp .ne 7, 3) := by decide +kernel
theorem dX6_take_50 : decode cX6_take 50 = .ok (.iconst 1, 1) := by decide +kernel
theorem dX6_take_51 : decode cX6_take 51 = .ok (.goto 4, 3) := by decide +kernel
theorem dX6_take_54 : decode cX6_take 54 = .ok (.iconst 0, 1) := by decide +kernel
theorem dX6_take_55 : decode cX6_take 55 = .ok (.istore 6, 2) := by decide +kernel
theorem dX6_take_57 : decode cX6_take 57 = .ok (.aload_n 0, 1) := by decide +kernel
theorem dX6_take_58 : decode cX6_take 58 = .ok (.getfield 28, 3) := by decide +kernel
theorem dX6_take_61 : decode cX6_take 61 = .ok (.ifCond .eq 27, 3) := by decide +kernel
theorem dX6_take_64 : decode cX6_take 64 = .ok (.iload 6, 2) := by decide +kernel
theorem dX6_take_66 : decode cX6_take 66 = .ok (.ifCond .eq 22, 3) := by decide +kernel
theorem dX6_take_69 : decode cX6_take 69 = .ok (.aload_n 0, 1) := by decide +kernel
theorem dX6_take_70 : decode cX6_take 70 = .ok (.getfield 41, 3) := by decide +kernel
theorem dX6_take_73 : decode cX6_take 73 = .ok (.ifCond .ne 15, 3) := by decide +kernel
theorem dX6_take_76 : decode cX6_take 76 = .ok (.aload_n 0, 1) := by decide +kernel
theorem dX6_take_77 : decode cX6_take 77 = .ok (.getfield 22, 3) := by decide +kernel
theorem dX6_take_80 : decode cX6_take 80 = .ok (.iconst (-1), 1) := by decide +kernel
theorem dX6_take_81 : decode cX6_take 81 = .ok (.if_icmp .ne 7, 3) := by decide +kernel
theorem dX6_take_84 : decode cX6_take 84 = .ok (.iconst 1, 1) := by decide +kernel
theorem dX6_take_85 : decode cX6_take 85 = .ok (.goto 4, 3) := by decide +kernel
theorem dX6_take_88 : decode cX6_take 88 = .ok (.iconst 0, 1) := by decide +kernel
theorem dX6_take_89 : decode cX6_take 89 = .ok (.istore 7, 2) := by decide +kernel
theorem dX6_take_91 : decode cX6_take 91 = .ok (.aload_n 0, 1) := by decide +kernel
theorem dX6_take_92 : decode cX6_take 92 = .ok (.dup, 1) := by decide +kernel
theorem dX6_take_93 : decode cX6_take 93 = .ok (.getfield 44, 3) := by decide +kernel
theorem dX6_take_96 : decode cX6_take 96 = .ok (.iconst 1, 1) := by decide +kernel
theorem dX6_take_97 : decode cX6_take 97 = .ok (.iadd, 1) := by decide +kernel
theorem dX6_take_98 : decode cX6_take 98 = .ok (.putfield 44, 3) := by decide +kernel
theorem dX6_take_101 : decode cX6_take 101 = .ok (.iload 6, 2) := by decide +kernel
theorem dX6_take_103 : decode cX6_take 103 = .ok (.ifCond .eq 10, 3) := by decide +kernel
theorem dX6_take_106 : decode cX6_take 106 = .ok (.aload_n 0, 1) := by decide +kernel
theorem dX6_take_107 : decode cX6_take 107 = .ok (.invokevirtual 47, 3) := by decide +kernel
theorem dX6_take_110 : decode cX6_take 110 = .ok (.goto 52, 3) := by decide +kernel
theorem dX6_take_113 : decode cX6_take 113 = .ok (.iload 5, 2) := by decide +kernel
theorem dX6_take_115 : decode cX6_take 115 = .ok (.ifCond .eq 37, 3) := by decide +kernel
theorem dX6_take_118 : decode cX6_take 118 = .ok (.aload_n 0, 1) := by decide +kernel
theorem dX6_take_119 : decode cX6_take 119 = .ok (.getfield 18, 3) := by decide +kernel
theorem dX6_take_122 : decode cX6_take 122 = .ok (.iload 4, 2) := by decide +kernel
theorem dX6_take_124 : decode cX6_take 124 = .ok (.invokevirtual 50, 3) := by decide +kernel
theorem dX6_take_127 : decode cX6_take 127 = .ok (.ifCond .ne 25, 3) := by decide +kernel
theorem dX6_take_130 : decode cX6_take 130 = .ok (.aload_n 0, 1) := by decide +kernel
theorem dX6_take_131 : decode cX6_take 131 = .ok (.getfield 18, 3) := by decide +kernel
theorem dX6_take_134 : decode cX6_take 134 = .ok (.iload 4, 2) := by decide +kernel
theorem dX6_take_136 : decode cX6_take 136 = .ok (.invokevirtual 54, 3) := by decide +kernel
theorem dX6_take_139 : decode cX6_take 139 = .ok (.aload_n 0, 1) := by decide +kernel
theorem dX6_take_140 : decode cX6_take 140 = .ok (.dup, 1) := by decide +kernel
theorem dX6_take_141 : decode cX6_take 141 = .ok (.getfield 41, 3) := by decide +kernel
theorem dX6_take_144 : decode cX6_take 144 = .ok (.iconst 1, 1) := by decide +kernel
theorem dX6_take_145 : decode cX6_take 145 = .ok (.iadd, 1) := by decide +kernel
theorem dX6_take_146 : decode cX6_take 146 = .ok (.putfield 41, 3) := by decide +kernel
theorem dX6_take_149 : decode cX6_take 149 = .ok (.goto 13, 3) := by decide +kernel
theorem dX6_take_152 : decode cX6_take 152 = .ok (.aload_n 0, 1) := by decide +kernel
theorem dX6_take_153 : decode cX6_take 153 = .ok (.dup, 1) := by decide +kernel
theorem dX6_take_154 : decode cX6_take 154 = .ok (.getfield 58, 3) := by decide +kernel
theorem dX6_take_157 : decode cX6_take 157 = .ok (.iconst 1, 1) := by decide +kernel
theorem dX6_take_158 : decode cX6_take 158 = .ok (.iadd, 1) := by decide +kernel
theorem dX6_take_159 : decode cX6_take 159 = .ok (.putfield 58, 3) := by decide +kernel
theorem dX6_take_162 : decode cX6_take 162 = .ok (.iload 7, 2) := by decide +kernel
theorem dX6_take_164 : decode cX6_take 164 = .ok (.ifCond .eq 14, 3) := by decide +kernel
theorem dX6_take_167 : decode cX6_take 167 = .ok (.aload_n 0, 1) := by decide +kernel
theorem dX6_take_168 : decode cX6_take 168 = .ok (.iload_n 3, 1) := by decide +kernel
theorem dX6_take_169 : decode cX6_take 169 = .ok (.bipush 100, 2) := by decide +kernel
theorem dX6_take_171 : decode cX6_take 171 = .ok (.iadd, 1) := by decide +kernel
theorem dX6_take_172 : decode cX6_take 172 = .ok (.putfield 22, 3) := by decide +kernel
theorem dX6_take_175 : decode cX6_take 175 = .ok (.goto 13, 3) := by decide +kernel
theorem dX6_take_178 : decode cX6_take 178 = .ok (.aload_n 0, 1) := by decide +kernel
theorem dX6_take_179 : decode cX6_take 179 = .ok (.aload_n 2, 1) := by decide +kernel
theorem dX6_take_180 : decode cX6_take 180 = .ok (.aload_n 1, 1) := by decide +kernel
theorem dX6_take_181 : decode cX6_take 181 = .ok (.getfield 61, 3) := by decide +kernel
theorem dX6_take_184 : decode cX6_take 184 = .ok (.iload_n 3, 1) := by decide +kernel
theorem dX6_take_185 : decode cX6_take 185 = .ok (.invokevirtual 64, 3) := by decide +kernel
theorem dX6_take_188 : decode cX6_take 188 = .ok (.return_, 1) := by decide +kernel
theorem dX6_tellWindow_0 : decode cX6_tellWindow 0 = .ok (.aload_n 0, 1) := by decide +kernel
theorem dX6_tellWindow_1 : decode cX6_tellWindow 1 = .ok (.getfield 32, 3) := by decide +kernel
theorem dX6_tellWindow_4 : decode cX6_tellWindow 4 = .ok (.ifCond .eq 15, 3) := by decide +kernel
theorem dX6_tellWindow_7 : decode cX6_tellWindow 7 = .ok (.aload_n 0, 1) := by decide +kernel
theorem dX6_tellWindow_8 : decode cX6_tellWindow 8 = .ok (.iconst 0, 1) := by decide +kernel
theorem dX6_tellWindow_9 : decode cX6_tellWindow 9 = .ok (.putfield 32, 3) := by decide +kernel
theorem dX6_tellWindow_12 : decode cX6_tellWindow 12 = .ok (.aload_n 0, 1) := by decide +kernel
theorem dX6_tellWindow_13 : decode cX6_tellWindow 13 = .ok (.aload_n 1, 1) := by decide +kernel
theorem dX6_tellWindow_14 : decode cX6_tellWindow 14 = .ok (.iconst 1, 1) := by decide +kernel
theorem dX6_tellWindow_15 : decode cX6_tellWindow 15 = .ok (.iload_n 2, 1) := by decide +kernel
theorem dX6_tellWindow_16 : decode cX6_tellWindow 16 = .ok (.invokevirtual 64, 3) := by decide +kernel
theorem dX6_tellWindow_19 : decode cX6_tellWindow 19 = .ok (.return_, 1) := by decide +kernel
theorem dX6_answerLate_0 : decode cX6_answerLate 0 = .ok (.aload_n 0, 1) := by decide +kernel
theorem dX6_answerLate_1 : decode cX6_answerLate 1 = .ok (.getfield 22, 3) := by decide +kernel
theorem dX6_answerLate_4 : decode cX6_answerLate 4 = .ok (.iload_n 2, 1) := by decide +kernel
theorem dX6_answerLate_5 : decode cX6_answerLate 5 = .ok (.if_icmp .ne 10, 3) := by decide +kernel
theorem dX6_answerLate_8 : decode cX6_answerLate 8 = .ok (.aload_n 0, 1) := by decide +kernel
theorem dX6_answerLate_9 : decode cX6_answerLate 9 = .ok (.aload_n 1, 1) := by decide +kernel
theorem dX6_answerLate_10 : decode cX6_answerLate 10 = .ok (.iconst 0, 1) := by decide +kernel
theorem dX6_answerLate_11 : decode cX6_answerLate 11 = .ok (.iload_n 2, 1) := by decide +kernel
theorem dX6_answerLate_12 : decode cX6_answerLate 12 = .ok (.invokevirtual 64, 3) := by decide +kernel
theorem dX6_answerLate_15 : decode cX6_answerLate 15 = .ok (.return_, 1) := by decide +kernel
theorem dX6_leastKept_0 : decode cX6_leastKept 0 = .ok (.iload_n 1, 1) := by decide +kernel
theorem dX6_leastKept_1 : decode cX6_leastKept 1 = .ok (.istore_n 2, 1) := by decide +kernel
theorem dX6_leastKept_2 : decode cX6_leastKept 2 = .ok (.aload_n 0, 1) := by decide +kernel
theorem dX6_leastKept_3 : decode cX6_leastKept 3 = .ok (.getfield 38, 3) := by decide +kernel
theorem dX6_leastKept_6 : decode cX6_leastKept 6 = .ok (.istore_n 3, 1) := by decide +kernel
theorem dX6_leastKept_7 : decode cX6_leastKept 7 = .ok (.iload_n 2, 1) := by decide +kernel
theorem dX6_leastKept_8 : decode cX6_leastKept 8 = .ok (.ifCond .lt 41, 3) := by decide +kernel
theorem dX6_leastKept_11 : decode cX6_leastKept 11 = .ok (.iload_n 3, 1) := by decide +kernel
theorem dX6_leastKept_12 : decode cX6_leastKept 12 = .ok (.aload_n 0, 1) := by decide +kernel
theorem dX6_leastKept_13 : decode cX6_leastKept 13 = .ok (.getfield 38, 3) := by decide +kernel
theorem dX6_leastKept_16 : decode cX6_leastKept 16 = .ok (.sipush 200, 3) := by decide +kernel
theorem dX6_leastKept_19 : decode cX6_leastKept 19 = .ok (.iadd, 1) := by decide +kernel
theorem dX6_leastKept_20 : decode cX6_leastKept 20 = .ok (.if_icmp .ge 29, 3) := by decide +kernel
theorem dX6_leastKept_23 : decode cX6_leastKept 23 = .ok (.aload_n 0, 1) := by decide +kernel
theorem dX6_leastKept_24 : decode cX6_leastKept 24 = .ok (.getfield 18, 3) := by decide +kernel
theorem dX6_leastKept_27 : decode cX6_leastKept 27 = .ok (.iload_n 3, 1) := by decide +kernel
theorem dX6_leastKept_28 : decode cX6_leastKept 28 = .ok (.invokevirtual 50, 3) := by decide +kernel
theorem dX6_leastKept_31 : decode cX6_leastKept 31 = .ok (.ifCond .eq 12, 3) := by decide +kernel
theorem dX6_leastKept_34 : decode cX6_leastKept 34 = .ok (.iload_n 2, 1) := by decide +kernel
theorem dX6_leastKept_35 : decode cX6_leastKept 35 = .ok (.ifCond .ne 5, 3) := by decide +kernel
theorem dX6_leastKept_38 : decode cX6_leastKept 38 = .ok (.iload_n 3, 1) := by decide +kernel
theorem dX6_leastKept_39 : decode cX6_leastKept 39 = .ok (.ireturn, 1) := by decide +kernel
theorem dX6_leastKept_40 : decode cX6_leastKept 40 = .ok (.iinc 2 (-1), 3) := by decide +kernel
theorem dX6_leastKept_43 : decode cX6_leastKept 43 = .ok (.iinc 3 1, 3) := by decide +kernel
theorem dX6_leastKept_46 : decode cX6_leastKept 46 = .ok (.goto (-39), 3) := by decide +kernel
theorem dX6_leastKept_49 : decode cX6_leastKept 49 = .ok (.iconst (-1), 1) := by decide +kernel
theorem dX6_leastKept_50 : decode cX6_leastKept 50 = .ok (.ireturn, 1) := by decide +kernel
theorem dX6_tell_0 : decode cX6_tell 0 = .ok (.iload_n 1, 1) := by decide +kernel
theorem dX6_tell_1 : decode cX6_tell 1 = .ok (.tableswitch 78 0 6 #[43, 48, 53, 58, 63, 68, 73], 43) := by decide +kernel
theorem dX6_tell_44 : decode cX6_tell 44 = .ok (.aload_n 0, 1) := by decide +kernel
theorem dX6_tell_45 : decode cX6_tell 45 = .ok (.getfield 38, 3) := by decide +kernel
theorem dX6_tell_48 : decode cX6_tell 48 = .ok (.ireturn, 1) := by decide +kernel
theorem dX6_tell_49 : decode cX6_tell 49 = .ok (.aload_n 0, 1) := by decide +kernel
theorem dX6_tell_50 : decode cX6_tell 50 = .ok (.getfield 41, 3) := by decide +kernel
theorem dX6_tell_53 : decode cX6_tell 53 = .ok (.ireturn, 1) := by decide +kernel
theorem dX6_tell_54 : decode cX6_tell 54 = .ok (.aload_n 0, 1) := by decide +kernel
theorem dX6_tell_55 : decode cX6_tell 55 = .ok (.getfield 9, 3) := by decide +kernel
theorem dX6_tell_58 : decode cX6_tell 58 = .ok (.ireturn, 1) := by decide +kernel
theorem dX6_tell_59 : decode cX6_tell 59 = .ok (.aload_n 0, 1) := by decide +kernel
theorem dX6_tell_60 : decode cX6_tell 60 = .ok (.getfield 68, 3) := by decide +kernel
theorem dX6_tell_63 : decode cX6_tell 63 = .ok (.ireturn, 1) := by decide +kernel
theorem dX6_tell_64 : decode cX6_tell 64 = .ok (.aload_n 0, 1) := by decide +kernel
theorem dX6_tell_65 : decode cX6_tell 65 = .ok (.getfield 44, 3) := by decide +kernel
theorem dX6_tell_68 : decode cX6_tell 68 = .ok (.ireturn, 1) := by decide +kernel
theorem dX6_tell_69 : decode cX6_tell 69 = .ok (.aload_n 0, 1) := by decide +kernel
theorem dX6_tell_70 : decode cX6_tell 70 = .ok (.getfield 58, 3) := by decide +kernel
theorem dX6_tell_73 : decode cX6_tell 73 = .ok (.ireturn, 1) := by decide +kernel
theorem dX6_tell_74 : decode cX6_tell 74 = .ok (.aload_n 0, 1) := by decide +kernel
theorem dX6_tell_75 : decode cX6_tell 75 = .ok (.getfield 22, 3) := by decide +kernel
theorem dX6_tell_78 : decode cX6_tell 78 = .ok (.ireturn, 1) := by decide +kernel
theorem dX6_tell_79 : decode cX6_tell 79 = .ok (.iconst (-1), 1) := by decide +kernel
theorem dX6_tell_80 : decode cX6_tell 80 = .ok (.ireturn, 1) := by decide +kernel
theorem dX6_goOn_0 : decode cX6_goOn 0 = .ok (.aload_n 0, 1) := by decide +kernel
theorem dX6_goOn_1 : decode cX6_goOn 1 = .ok (.dup, 1) := by decide +kernel
theorem dX6_goOn_2 : decode cX6_goOn 2 = .ok (.getfield 38, 3) := by decide +kernel
theorem dX6_goOn_5 : decode cX6_goOn 5 = .ok (.iconst 1, 1) := by decide +kernel
theorem dX6_goOn_6 : decode cX6_goOn 6 = .ok (.iadd, 1) := by decide +kernel
theorem dX6_goOn_7 : decode cX6_goOn 7 = .ok (.putfield 38, 3) := by decide +kernel
theorem dX6_goOn_10 : decode cX6_goOn 10 = .ok (.aload_n 0, 1) := by decide +kernel
theorem dX6_goOn_11 : decode cX6_goOn 11 = .ok (.getfield 41, 3) := by decide +kernel
theorem dX6_goOn_14 : decode cX6_goOn 14 = .ok (.ifCond .le 51, 3) := by decide +kernel
theorem dX6_goOn_17 : decode cX6_goOn 17 = .ok (.aload_n 0, 1) := by decide +kernel
theorem dX6_goOn_18 : decode cX6_goOn 18 = .ok (.getfield 18, 3) := by decide +kernel
theorem dX6_goOn_21 : decode cX6_goOn 21 = .ok (.aload_n 0, 1) := by decide +kernel
theorem dX6_goOn_22 : decode cX6_goOn 22 = .ok (.getfield 38, 3) := by decide +kernel
theorem dX6_goOn_25 : decode cX6_goOn 25 = .ok (.invokevirtual 50, 3) := by decide +kernel
theorem dX6_goOn_28 : decode cX6_goOn 28 = .ok (.ifCond .eq 37, 3) := by decide +kernel
theorem dX6_goOn_31 : decode cX6_goOn 31 = .ok (.aload_n 0, 1) := by decide +kernel
theorem dX6_goOn_32 : decode cX6_goOn 32 = .ok (.getfield 18, 3) := by decide +kernel
theorem dX6_goOn_35 : decode cX6_goOn 35 = .ok (.aload_n 0, 1) := by decide +kernel
theorem dX6_goOn_36 : decode cX6_goOn 36 = .ok (.getfield 38, 3) := by decide +kernel
theorem dX6_goOn_39 : decode cX6_goOn 39 = .ok (.invokevirtual 71, 3) := by decide +kernel
theorem dX6_goOn_42 : decode cX6_goOn 42 = .ok (.aload_n 0, 1) := by decide +kernel
theorem dX6_goOn_43 : decode cX6_goOn 43 = .ok (.dup, 1) := by decide +kernel
theorem dX6_goOn_44 : decode cX6_goOn 44 = .ok (.getfield 38, 3) := by decide +kernel
theorem dX6_goOn_47 : decode cX6_goOn 47 = .ok (.iconst 1, 1) := by decide +kernel
theorem dX6_goOn_48 : decode cX6_goOn 48 = .ok (.iadd, 1) := by decide +kernel
theorem dX6_goOn_49 : decode cX6_goOn 49 = .ok (.putfield 38, 3) := by decide +kernel
theorem dX6_goOn_52 : decode cX6_goOn 52 = .ok (.aload_n 0, 1) := by decide +kernel
theorem dX6_goOn_53 : decode cX6_goOn 53 = .ok (.dup, 1) := by decide +kernel
theorem dX6_goOn_54 : decode cX6_goOn 54 = .ok (.getfield 41, 3) := by decide +kernel
theorem dX6_goOn_57 : decode cX6_goOn 57 = .ok (.iconst 1, 1) := by decide +kernel
theorem dX6_goOn_58 : decode cX6_goOn 58 = .ok (.isub, 1) := by decide +kernel
theorem dX6_goOn_59 : decode cX6_goOn 59 = .ok (.putfield 41, 3) := by decide +kernel
theorem dX6_goOn_62 : decode cX6_goOn 62 = .ok (.goto (-52), 3) := by decide +kernel
theorem dX6_goOn_65 : decode cX6_goOn 65 = .ok (.return_, 1) := by decide +kernel
theorem dX6_answer_0 : decode cX6_answer 0 = .ok (.aload_n 0, 1) := by decide +kernel
theorem dX6_answer_1 : decode cX6_answer 1 = .ok (.iconst (-1), 1) := by decide +kernel
theorem dX6_answer_2 : decode cX6_answer 2 = .ok (.putfield 22, 3) := by decide +kernel
theorem dX6_answer_5 : decode cX6_answer 5 = .ok (.aload_n 0, 1) := by decide +kernel
theorem dX6_answer_6 : decode cX6_answer 6 = .ok (.dup, 1) := by decide +kernel
theorem dX6_answer_7 : decode cX6_answer 7 = .ok (.getfield 68, 3) := by decide +kernel
theorem dX6_answer_10 : decode cX6_answer 10 = .ok (.iconst 1, 1) := by decide +kernel
theorem dX6_answer_11 : decode cX6_answer 11 = .ok (.iadd, 1) := by decide +kernel
theorem dX6_answer_12 : decode cX6_answer 12 = .ok (.putfield 68, 3) := by decide +kernel
theorem dX6_answer_15 : decode cX6_answer 15 = .ok (.aload_n 1, 1) := by decide +kernel
theorem dX6_answer_16 : decode cX6_answer 16 = .ok (.aload_n 0, 1) := by decide +kernel
theorem dX6_answer_17 : decode cX6_answer 17 = .ok (.iload_n 2, 1) := by decide +kernel
theorem dX6_answer_18 : decode cX6_answer 18 = .ok (.iload_n 3, 1) := by decide +kernel
theorem dX6_answer_19 : decode cX6_answer 19 = .ok (.invokevirtual 74, 3) := by decide +kernel
theorem dX6_answer_22 : decode cX6_answer 22 = .ok (.return_, 1) := by decide +kernel
theorem dX7_init_0 : decode cX7_init 0 = .ok (.aload_n 0, 1) := by decide +kernel
theorem dX7_init_1 : decode cX7_init 1 = .ok (.invokespecial 3, 3) := by decide +kernel
theorem dX7_init_4 : decode cX7_init 4 = .ok (.aload_n 0, 1) := by decide +kernel
theorem dX7_init_5 : decode cX7_init 5 = .ok (.bipush 10, 2) := by decide +kernel
theorem dX7_init_7 : decode cX7_init 7 = .ok (.putfield 9, 3) := by decide +kernel
theorem dX7_init_10 : decode cX7_init 10 = .ok (.aload_n 0, 1) := by decide +kernel
theorem dX7_init_11 : decode cX7_init 11 = .ok (.bipush 20, 2) := by decide +kernel
theorem dX7_init_13 : decode cX7_init 13 = .ok (.putfield 15, 3) := by decide +kernel
theorem dX7_init_16 : decode cX7_init 16 = .ok (.aload_n 0, 1) := by decide +kernel
theorem dX7_init_17 : decode cX7_init 17 = .ok (.bipush 20, 2) := by decide +kernel
theorem dX7_init_19 : decode cX7_init 19 = .ok (.putfield 18, 3) := by decide +kernel
theorem dX7_init_22 : decode cX7_init 22 = .ok (.aload_n 0, 1) := by decide +kernel
theorem dX7_init_23 : decode cX7_init 23 = .ok (.bipush 20, 2) := by decide +kernel
theorem dX7_init_25 : decode cX7_init 25 = .ok (.putfield 21, 3) := by decide +kernel
theorem dX7_init_28 : decode cX7_init 28 = .ok (.aload_n 0, 1) := by decide +kernel
theorem dX7_init_29 : decode cX7_init 29 = .ok (.new 24, 3) := by decide +kernel
theorem dX7_init_32 : decode cX7_init 32 = .ok (.dup, 1) := by decide +kernel
theorem dX7_init_33 : decode cX7_init 33 = .ok (.invokespecial 26, 3) := by decide +kernel
theorem dX7_init_36 : decode cX7_init 36 = .ok (.putfield 27, 3) := by decide +kernel
theorem dX7_init_39 : decode cX7_init 39 = .ok (.aload_n 0, 1) := by decide +kernel
theorem dX7_init_40 : decode cX7_init 40 = .ok (.new 24, 3) := by decide +kernel
theorem dX7_init_43 : decode cX7_init 43 = .ok (.dup, 1) := by decide +kernel
theorem dX7_init_44 : decode cX7_init 44 = .ok (.invokespecial 26, 3) := by decide +kernel
theorem dX7_init_47 : decode cX7_init 47 = .ok (.putfield 31, 3) := by decide +kernel
theorem dX7_init_50 : decode cX7_init 50 = .ok (.aload_n 0, 1) := by decide +kernel
theorem dX7_init_51 : decode cX7_init 51 = .ok (.new 24, 3) := by decide +kernel
theorem dX7_init_54 : decode cX7_init 54 = .ok (.dup, 1) := by decide +kernel
theorem dX7_init_55 : decode cX7_init 55 = .ok (.invokespecial 26, 3) := by decide +kernel
theorem dX7_init_58 : decode cX7_init 58 = .ok (.putfield 34, 3) := by decide +kernel
theorem dX7_init_61 : decode cX7_init 61 = .ok (.aload_n 0, 1) := by decide +kernel
theorem dX7_init_62 : decode cX7_init 62 = .ok (.new 24, 3) := by decide +kernel
theorem dX7_init_65 : decode cX7_init 65 = .ok (.dup, 1) := by decide +kernel
theorem dX7_init_66 : decode cX7_init 66 = .ok (.invokespecial 26, 3) := by decide +kernel
theorem dX7_init_69 : decode cX7_init 69 = .ok (.putfield 37, 3) := by decide +kernel
theorem dX7_init_72 : decode cX7_init 72 = .ok (.aload_n 0, 1) := by decide +kernel
theorem dX7_init_73 : decode cX7_init 73 = .ok (.bipush 64, 2) := by decide +kernel
theorem dX7_init_75 : decode cX7_init 75 = .ok (.newarray .int, 2) := by decide +kernel
theorem dX7_init_77 : decode cX7_init 77 = .ok (.putfield 40, 3) := by decide +kernel
theorem dX7_init_80 : decode cX7_init 80 = .ok (.return_, 1) := by decide +kernel
theorem dX7_set_0 : decode cX7_set 0 = .ok (.aload_n 0, 1) := by decide +kernel
theorem dX7_set_1 : decode cX7_set 1 = .ok (.iload_n 1, 1) := by decide +kernel
theorem dX7_set_2 : decode cX7_set 2 = .ok (.putfield 9, 3) := by decide +kernel
theorem dX7_set_5 : decode cX7_set 5 = .ok (.aload_n 0, 1) := by decide +kernel
theorem dX7_set_6 : decode cX7_set 6 = .ok (.iload_n 2, 1) := by decide +kernel
theorem dX7_set_7 : decode cX7_set 7 = .ok (.putfield 15, 3) := by decide +kernel
theorem dX7_set_10 : decode cX7_set 10 = .ok (.aload_n 0, 1) := by decide +kernel
theorem dX7_set_11 : decode cX7_set 11 = .ok (.iload_n 3, 1) := by decide +kernel
theorem dX7_set_12 : decode cX7_set 12 = .ok (.putfield 18, 3) := by decide +kernel
theorem dX7_set_15 : decode cX7_set 15 = .ok (.aload_n 0, 1) := by decide +kernel
theorem dX7_set_16 : decode cX7_set 16 = .ok (.iload 4, 2) := by decide +kernel
theorem dX7_set_18 : decode cX7_set 18 = .ok (.putfield 21, 3) := by decide +kernel
theorem dX7_set_21 : decode cX7_set 21 = .ok (.return_, 1) := by decide +kernel
theorem dX7_tellLost_0 : decode cX7_tellLost 0 = .ok (.iload_n 1, 1) := by decide +kernel
theorem dX7_tellLost_1 : decode cX7_tellLost 1 = .ok (.aload_n 0, 1) := by decide +kernel
theorem dX7_tellLost_2 : decode cX7_tellLost 2 = .ok (.getfield 44, 3) := by decide +kernel
theorem dX7_tellLost_5 : decode cX7_tellLost 5 = .ok (.if_icmp .lt 12, 3) := by decide +kernel
theorem dX7_tellLost_8 : decode cX7_tellLost 8 = .ok (.aload_n 0, 1) := by decide +kernel
theorem dX7_tellLost_9 : decode cX7_tellLost 9 = .ok (.getfield 47, 3) := by decide +kernel
theorem dX7_tellLost_12 : decode cX7_tellLost 12 = .ok (.bipush 64, 2) := by decide +kernel
theorem dX7_tellLost_14 : decode cX7_tellLost 14 = .ok (.if_icmp .lt 5, 3) := by decide +kernel
theorem dX7_tellLost_17 : decode cX7_tellLost 17 = .ok (.iconst 0, 1) := by decide +kernel
theorem dX7_tellLost_18 : decode cX7_tellLost 18 = .ok (.ireturn, 1) := by decide +kernel
theorem dX7_tellLost_19 : decode cX7_tellLost 19 = .ok (.aload_n 0, 1) := by decide +kernel
theorem dX7_tellLost_20 : decode cX7_tellLost 20 = .ok (.iload_n 1, 1) := by decide +kernel
theorem dX7_tellLost_21 : decode cX7_tellLost 21 = .ok (.invokevirtual 50, 3) := by decide +kernel
theorem dX7_tellLost_24 : decode cX7_tellLost 24 = .ok (.iconst (-1), 1) := by decide +kernel
theorem dX7_tellLost_25 : decode cX7_tellLost 25 = .ok (.if_icmp .ne 23, 3) := by decide +kernel
theorem dX7_tellLost_28 : decode cX7_tellLost 28 = .ok (.aload_n 0, 1) := by decide +kernel
theorem dX7_tellLost_29 : decode cX7_tellLost 29 = .ok (.getfield 40, 3) := by decide +kernel
theorem dX7_tellLost_32 : decode cX7_tellLost 32 = .ok (.aload_n 0, 1) := by decide +kernel
theorem dX7_tellLost_33 : decode cX7_tellLost 33 = .ok (.getfield 47, 3) := by decide +kernel
theorem dX7_tellLost_36 : decode cX7_tellLost 36 = .ok (.iload_n 1, 1) := by decide +kernel
theorem dX7_tellLost_37 : decode cX7_tellLost 37 = .ok (.iastore, 1) := by decide +kernel
theorem dX7_tellLost_38 : decode cX7_tellLost 38 = .ok (.aload_n 0, 1) := by decide +kernel
theorem dX7_tellLost_39 : decode cX7_tellLost 39 = .ok (.dup, 1) := by decide +kernel
theorem dX7_tellLost_40 : decode cX7_tellLost 40 = .ok (.getfield 47, 3) := by decide +kernel
theorem dX7_tellLost_43 : decode cX7_tellLost 43 = .ok (.iconst 1, 1) := by decide +kernel
theorem dX7_tellLost_44 : decode cX7_tellLost 44 = .ok (.iadd, 1) := by decide +kernel
theorem dX7_tellLost_45 : decode cX7_tellLost 45 = .ok (.putfield 47, 3) := by decide +kernel
theorem dX7_tellLost_48 : decode cX7_tellLost 48 = .ok (.iconst 1, 1) := by decide +kernel
theorem dX7_tellLost_49 : decode cX7_tellLost 49 = .ok (.ireturn, 1) := by decide +kernel
theorem dX7_moveLink_0 : decode cX7_moveLink 0 = .ok (.aload_n 0, 1) := by decide +kernel
theorem dX7_moveLink_1 : decode cX7_moveLink 1 = .ok (.getfield 54, 3) := by decide +kernel
theorem dX7_moveLink_4 : decode cX7_moveLink 4 = .ok (.astore_n 2, 1) := by decide +kernel
theorem dX7_moveLink_5 : decode cX7_moveLink 5 = .ok (.aload_n 2, 1) := by decide +kernel
theorem dX7_moveLink_6 : decode cX7_moveLink 6 = .ok (.ifnull 11, 3) := by decide +kernel
theorem dX7_moveLink_9 : decode cX7_moveLink 9 = .ok (.aload_n 2, 1) := by decide +kernel
theorem dX7_moveLink_10 : decode cX7_moveLink 10 = .ok (.getfield 58, 3) := by decide +kernel
theorem dX7_moveLink_13 : decode cX7_moveLink 13 = .ok (.iload_n 1, 1) := by decide +kernel
theorem dX7_moveLink_14 : decode cX7_moveLink 14 = .ok (.if_icmp .eq 4, 3) := by decide +kernel
theorem dX7_moveLink_17 : decode cX7_moveLink 17 = .ok (.return_, 1) := by decide +kernel
theorem dX7_moveLink_18 : decode cX7_moveLink 18 = .ok (.aload_n 2, 1) := by decide +kernel
theorem dX7_moveLink_19 : decode cX7_moveLink 19 = .ok (.iload_n 1, 1) := by decide +kernel
theorem dX7_moveLink_20 : decode cX7_moveLink 20 = .ok (.aload_n 0, 1) := by decide +kernel
theorem dX7_moveLink_21 : decode cX7_moveLink 21 = .ok (.getfield 18, 3) := by decide +kernel
theorem dX7_moveLink_24 : decode cX7_moveLink 24 = .ok (.iadd, 1) := by decide +kernel
theorem dX7_moveLink_25 : decode cX7_moveLink 25 = .ok (.putfield 58, 3) := by decide +kernel
theorem dX7_moveLink_28 : decode cX7_moveLink 28 = .ok (.aload_n 0, 1) := by decide +kernel
theorem dX7_moveLink_29 : decode cX7_moveLink 29 = .ok (.getfield 31, 3) := by decide +kernel
theorem dX7_moveLink_32 : decode cX7_moveLink 32 = .ok (.aload_n 2, 1) := by decide +kernel
theorem dX7_moveLink_33 : decode cX7_moveLink 33 = .ok (.invokevirtual 63, 3) := by decide +kernel
theorem dX7_moveLink_36 : decode cX7_moveLink 36 = .ok (.aload_n 0, 1) := by decide +kernel
theorem dX7_moveLink_37 : decode cX7_moveLink 37 = .ok (.getfield 27, 3) := by decide +kernel
theorem dX7_moveLink_40 : decode cX7_moveLink 40 = .ok (.invokevirtual 67, 3) := by decide +kernel
theorem dX7_moveLink_43 : decode cX7_moveLink 43 = .ok (.astore_n 3, 1) := by decide +kernel
theorem dX7_moveLink_44 : decode cX7_moveLink 44 = .ok (.aload_n 3, 1) := by decide +kernel
theorem dX7_moveLink_45 : decode cX7_moveLink 45 = .ok (.ifnull 13, 3) := by decide +kernel
theorem dX7_moveLink_48 : decode cX7_moveLink 48 = .ok (.aload_n 3, 1) := by decide +kernel
theorem dX7_moveLink_49 : decode cX7_moveLink 49 = .ok (.iload_n 1, 1) := by decide +kernel
theorem dX7_moveLink_50 : decode cX7_moveLink 50 = .ok (.aload_n 0, 1) := by decide +kernel
theorem dX7_moveLink_51 : decode cX7_moveLink 51 = .ok (.getfield 9, 3) := by decide +kernel
theorem dX7_moveLink_54 : decode cX7_moveLink 54 = .ok (.iadd, 1) := by decide +kernel
theorem dX7_moveLink_55 : decode cX7_moveLink 55 = .ok (.putfield 58, 3) := by decide +kernel
theorem dX7_moveLink_58 : decode cX7_moveLink 58 = .ok (.aload_n 0, 1) := by decide +kernel
theorem dX7_moveLink_59 : decode cX7_moveLink 59 = .ok (.aload_n 3, 1) := by decide +kernel
theorem dX7_moveLink_60 : decode cX7_moveLink 60 = .ok (.putfield 54, 3) := by decide +kernel
theorem dX7_moveLink_63 : decode cX7_moveLink 63 = .ok (.return_, 1) := by decide +kernel
theorem dX7_launch_0 : decode cX7_launch 0 = .ok (.aload_n 0, 1) := by decide +kernel
theorem dX7_launch_1 : decode cX7_launch 1 = .ok (.aload_n 0, 1) := by decide +kernel
theorem dX7_launch_2 : decode cX7_launch 2 = .ok (.getfield 44, 3) := by decide +kernel
theorem dX7_launch_5 : decode cX7_launch 5 = .ok (.invokevirtual 50, 3) := by decide +kernel
theorem dX7_launch_8 : decode cX7_launch 8 = .ok (.istore 5, 2) := by decide +kernel
theorem dX7_launch_10 : decode cX7_launch 10 = .ok (.aload_n 0, 1) := by decide +kernel
theorem dX7_launch_11 : decode cX7_launch 11 = .ok (.dup, 1) := by decide +kernel
theorem dX7_launch_12 : decode cX7_launch 12 = .ok (.getfield 44, 3) := by decide +kernel
theorem dX7_launch_15 : decode cX7_launch 15 = .ok (.iconst 1, 1) := by decide +kernel
theorem dX7_launch_16 : decode cX7_launch 16 = .ok (.iadd, 1) := by decide +kernel
theorem dX7_launch_17 : decode cX7_launch 17 = .ok (.putfield 44, 3) := by decide +kernel
theorem dX7_launch_20 : decode cX7_launch 20 = .ok (.iload 5, 2) := by decide +kernel
theorem dX7_launch_22 : decode cX7_launch 22 = .ok (.iconst (-1), 1) := by decide +kernel
theorem dX7_launch_23 : decode cX7_launch 23 = .ok (.if_icmp .eq 20, 3) := by decide +kernel
theorem dX7_launch_26 : decode cX7_launch 26 = .ok (.aload_n 0, 1) := by decide +kernel
theorem dX7_launch_27 : decode cX7_launch 27 = .ok (.iload 5, 2) := by decide +kernel
theorem dX7_launch_29 : decode cX7_launch 29 = .ok (.invokevirtual 71, 3) := by decide +kernel
theorem dX7_launch_32 : decode cX7_launch 32 = .ok (.aload_n 0, 1) := by decide +kernel
theorem dX7_launch_33 : decode cX7_launch 33 = .ok (.dup, 1) := by decide +kernel
theorem dX7_launch_34 : decode cX7_launch 34 = .ok (.getfield 75, 3) := by decide +kernel
theorem dX7_launch_37 : decode cX7_launch 37 = .ok (.iconst 1, 1) := by decide +kernel
theorem dX7_launch_38 : decode cX7_launch 38 = .ok (.iadd, 1) := by decide +kernel
theorem dX7_launch_39 : decode cX7_launch 39 = .ok (.putfield 75, 3) := by decide +kernel
theorem dX7_launch_42 : decode cX7_launch 42 = .ok (.return_, 1) := by decide +kernel
theorem dX7_launch_43 : decode cX7_launch 43 = .ok (.aload_n 0, 1) := by decide +kernel
theorem dX7_launch_44 : decode cX7_launch 44 = .ok (.getfield 54, 3) := by decide +kernel
theorem dX7_launch_47 : decode cX7_launch 47 = .ok (.ifnull 28, 3) := by decide +kernel
theorem dX7_launch_50 : decode cX7_launch 50 = .ok (.aload_n 0, 1) := by decide +kernel
theorem dX7_launch_51 : decode cX7_launch 51 = .ok (.getfield 27, 3) := by decide +kernel
theorem dX7_launch_54 : decode cX7_launch 54 = .ok (.getfield 78, 3) := by decide +kernel
theorem dX7_launch_57 : decode cX7_launch 57 = .ok (.aload_n 0, 1) := by decide +kernel
theorem dX7_launch_58 : decode cX7_launch 58 = .ok (.getfield 15, 3) := by decide +kernel
theorem dX7_launch_61 : decode cX7_launch 61 = .ok (.if_icmp .lt 14, 3) := by decide +kernel
theorem dX7_launch_64 : decode cX7_launch 64 = .ok (.aload_n 0, 1) := by decide +kernel
theorem dX7_launch_65 : decode cX7_launch 65 = .ok (.dup, 1) := by decide +kernel
theorem dX7_launch_66 : decode cX7_launch 66 = .ok (.getfield 81, 3) := by decide +kernel
theorem dX7_launch_69 : decode cX7_launch 69 = .ok (.iconst 1, 1) := by decide +kernel
theorem dX7_launch_70 : decode cX7_launch 70 = .ok (.iadd, 1) := by decide +kernel
theorem dX7_launch_71 : decode cX7_launch 71 = .ok (.putfield 81, 3) := by decide +kernel
theorem dX7_launch_74 : decode cX7_launch 74 = .ok (.return_, 1) := by decide +kernel
theorem dX7_launch_75 : decode cX7_launch 75 = .ok (.aload_n 0, 1) := by decide +kernel
theorem dX7_launch_76 : decode cX7_launch 76 = .ok (.getfield 37, 3) := by decide +kernel
theorem dX7_launch_79 : decode cX7_launch 79 = .ok (.invokevirtual 67, 3) := by decide +kernel
theorem dX7_launch_82 : decode cX7_launch 82 = .ok (.astore 6, 2) := by decide +kernel
theorem dX7_launch_84 : decode cX7_launch 84 = .ok (.aload 6, 2) := by decide +kernel
theorem dX7_launch_86 : decode cX7_launch 86 = .ok (.ifnonnull 12, 3) := by decide +kernel
theorem dX7_launch_89 : decode cX7_launch 89 = .ok (.new 59, 3) := by decide +kernel
theorem dX7_launch_92 : decode cX7_launch 92 = .ok (.dup, 1) := by decide +kernel
theorem dX7_launch_93 : decode cX7_launch 93 = .ok (.invokespecial 84, 3) := by decide +kernel
theorem dX7_launch_96 : decode cX7_launch 96 = .ok (.astore 6, 2) := by decide +kernel
theorem dX7_launch_98 : decode cX7_launch 98 = .ok (.aload 6, 2) := by decide +kernel
theorem dX7_launch_100 : decode cX7_launch 100 = .ok (.iload_n 1, 1) := by decide +kernel
theorem dX7_launch_101 : decode cX7_launch 101 = .ok (.putfield 85, 3) := by decide +kernel
theorem dX7_launch_104 : decode cX7_launch 104 = .ok (.aload 6, 2) := by decide +kernel
theorem dX7_launch_106 : decode cX7_launch 106 = .ok (.iload_n 2, 1) := by decide +kernel
theorem dX7_launch_107 : decode cX7_launch 107 = .ok (.putfield 88, 3) := by decide +kernel
theorem dX7_launch_110 : decode cX7_launch 110 = .ok (.aload 6, 2) := by decide +kernel
theorem dX7_launch_112 : decode cX7_launch 112 = .ok (.iload_n 3, 1) := by decide +kernel
theorem dX7_launch_113 : decode cX7_launch 113 = .ok (.putfield 91, 3) := by decide +kernel
theorem dX7_launch_116 : decode cX7_launch 116 = .ok (.aload_n 0, 1) := by decide +kernel
theorem dX7_launch_117 : decode cX7_launch 117 = .ok (.getfield 54, 3) := by decide +kernel
theorem dX7_launch_120 : decode cX7_launch 120 = .ok (.ifnonnull 24, 3) := by decide +kernel
theorem dX7_launch_123 : decode cX7_launch 123 = .ok (.aload 6, 2) := by decide +kernel
theorem dX7_launch_125 : decode cX7_launch 125 = .ok (.iload 4, 2) := by decide +kernel
theorem dX7_launch_127 : decode cX7_launch 127 = .ok (.aload_n 0, 1) := by decide +kernel
theorem dX7_launch_128 : decode cX7_launch 128 = .ok (.getfield 9, 3) := by decide +kernel
theorem dX7_launch_131 : decode cX7_launch 131 = .ok (.iadd, 1) := by decide +kernel
theorem dX7_launch_132 : decode cX7_launch 132 = .ok (.putfield 58, 3) := by decide +kernel
theorem dX7_launch_135 : decode cX7_launch 135 = .ok (.aload_n 0, 1) := by decide +kernel
theorem dX7_launch_136 : decode cX7_launch 136 = .ok (.aload 6, 2) := by decide +kernel
theorem dX7_launch_138 : decode cX7_launch 138 = .ok (.putfield 54, 3) := by decide +kernel
theorem dX7_launch_141 : decode cX7_launch 141 = .ok (.goto 12, 3) := by decide +kernel
theorem dX7_launch_144 : decode cX7_launch 144 = .ok (.aload_n 0, 1) := by decide +kernel
theorem dX7_launch_145 : decode cX7_launch 145 = .ok (.getfield 27, 3) := by decide +kernel
theorem dX7_launch_148 : decode cX7_launch 148 = .ok (.aload 6, 2) := by decide +kernel
theorem dX7_launch_150 : decode cX7_launch 150 = .ok (.invokevirtual 95, 3) := by decide +kernel
theorem dX7_launch_153 : decode cX7_launch 153 = .ok (.return_, 1) := by decide +kernel
theorem dX7_sendAck_0 : decode cX7_sendAck 0 = .ok (.aload_n 0, 1) := by decide +kernel
theorem dX7_sendAck_1 : decode cX7_sendAck 1 = .ok (.getfield 37, 3) := by decide +kernel
theorem dX7_sendAck_4 : decode cX7_sendAck 4 = .ok (.invokevirtual 67, 3) := by decide +kernel
theorem dX7_sendAck_7 : decode cX7_sendAck 7 = .ok (.astore 4, 2) := by decide +kernel
theorem dX7_sendAck_9 : decode cX7_sendAck 9 = .ok (.aload 4, 2) := by decide +kernel
theorem dX7_sendAck_11 : decode cX7_sendAck 11 = .ok (.ifnonnull 12, 3) := by decide +kernel
theorem dX7_sendAck_14 : decode cX7_sendAck 14 = .ok (.new 59, 3) := by decide +kernel
theorem dX7_sendAck_17 : decode cX7_sendAck 17 = .ok (.dup, 1) := by decide +kernel
theorem dX7_sendAck_18 : decode cX7_sendAck 18 = .ok (.invokespecial 84, 3) := by decide +kernel
theorem dX7_sendAck_21 : decode cX7_sendAck 21 = .ok (.astore 4, 2) := by decide +kernel
theorem dX7_sendAck_23 : decode cX7_sendAck 23 = .ok (.aload 4, 2) := by decide +kernel
theorem dX7_sendAck_25 : decode cX7_sendAck 25 = .ok (.aload_n 1, 1) := by decide +kernel
theorem dX7_sendAck_26 : decode cX7_sendAck 26 = .ok (.getfield 98, 3) := by decide +kernel
theorem dX7_sendAck_29 : decode cX7_sendAck 29 = .ok (.putfield 85, 3) := by decide +kernel
theorem dX7_sendAck_32 : decode cX7_sendAck 32 = .ok (.aload 4, 2) := by decide +kernel
theorem dX7_sendAck_34 : decode cX7_sendAck 34 = .ok (.aload_n 1, 1) := by decide +kernel
theorem dX7_sendAck_35 : decode cX7_sendAck 35 = .ok (.getfield 101, 3) := by decide +kernel
theorem dX7_sendAck_38 : decode cX7_sendAck 38 = .ok (.putfield 88, 3) := by decide +kernel
theorem dX7_sendAck_41 : decode cX7_sendAck 41 = .ok (.aload 4, 2) := by decide +kernel
theorem dX7_sendAck_43 : decode cX7_sendAck 43 = .ok (.aload_n 1, 1) := by decide +kernel
theorem dX7_sendAck_44 : decode cX7_sendAck 44 = .ok (.getfield 104, 3) := by decide +kernel
theorem dX7_sendAck_47 : decode cX7_sendAck 47 = .ok (.putfield 107, 3) := by decide +kernel
theorem dX7_sendAck_50 : decode cX7_sendAck 50 = .ok (.aload 4, 2) := by decide +kernel
theorem dX7_sendAck_52 : decode cX7_sendAck 52 = .ok (.iload_n 2, 1) := by decide +kernel
theorem dX7_sendAck_53 : decode cX7_sendAck 53 = .ok (.putfield 91, 3) := by decide +kernel
theorem dX7_sendAck_56 : decode cX7_sendAck 56 = .ok (.aload_n 1, 1) := by decide +kernel
theorem dX7_sendAck_57 : decode cX7_sendAck 57 = .ok (.getfield 108, 3) := by decide +kernel
theorem dX7_sendAck_60 : decode cX7_sendAck 60 = .ok (.aload 4, 2) := by decide +kernel
theorem dX7_sendAck_62 : decode cX7_sendAck 62 = .ok (.getfield 112, 3) := by decide +kernel
theorem dX7_sendAck_65 : decode cX7_sendAck 65 = .ok (.invokevirtual 116, 3) := by decide +kernel
theorem dX7_sendAck_68 : decode cX7_sendAck 68 = .ok (.aload 4, 2) := by decide +kernel
theorem dX7_sendAck_70 : decode cX7_sendAck 70 = .ok (.iload_n 3, 1) := by decide +kernel
theorem dX7_sendAck_71 : decode cX7_sendAck 71 = .ok (.aload_n 0, 1) := by decide +kernel
theorem dX7_sendAck_72 : decode cX7_sendAck 72 = .ok (.getfield 21, 3) := by decide +kernel
theorem dX7_sendAck_75 : decode cX7_sendAck 75 = .ok (.iadd, 1) := by decide +kernel
theorem dX7_sendAck_76 : decode cX7_sendAck 76 = .ok (.putfield 58, 3) := by decide +kernel
theorem dX7_sendAck_79 : decode cX7_sendAck 79 = .ok (.aload_n 0, 1) := by decide +kernel
theorem dX7_sendAck_80 : decode cX7_sendAck 80 = .ok (.getfield 34, 3) := by decide +kernel
theorem dX7_sendAck_83 : decode cX7_sendAck 83 = .ok (.aload 4, 2) := by decide +kernel
theorem dX7_sendAck_85 : decode cX7_sendAck 85 = .ok (.invokevirtual 63, 3) := by decide +kernel
theorem dX7_sendAck_88 : decode cX7_sendAck 88 = .ok (.return_, 1) := by decide +kernel
theorem dX7_nextDue_0 : decode cX7_nextDue 0 = .ok (.aload_n 0, 1) := by decide +kernel
theorem dX7_nextDue_1 : decode cX7_nextDue 1 = .ok (.getfield 31, 3) := by decide +kernel
theorem dX7_nextDue_4 : decode cX7_nextDue 4 = .ok (.invokevirtual 122, 3) := by decide +kernel
theorem dX7_nextDue_7 : decode cX7_nextDue 7 = .ok (.aload_n 0, 1) := by decide +kernel
theorem dX7_nextDue_8 : decode cX7_nextDue 8 = .ok (.getfield 34, 3) := by decide +kernel
theorem dX7_nextDue_11 : decode cX7_nextDue 11 = .ok (.invokevirtual 122, 3) := by decide +kernel
theorem dX7_nextDue_14 : decode cX7_nextDue 14 = .ok (.invokestatic 126, 3) := by decide +kernel
theorem dX7_nextDue_17 : decode cX7_nextDue 17 = .ok (.istore_n 1, 1) := by decide +kernel
theorem dX7_nextDue_18 : decode cX7_nextDue 18 = .ok (.aload_n 0, 1) := by decide +kernel
theorem dX7_nextDue_19 : decode cX7_nextDue 19 = .ok (.getfield 54, 3) := by decide +kernel
theorem dX7_nextDue_22 : decode cX7_nextDue 22 = .ok (.ifnonnull 7, 3) := by decide +kernel
theorem dX7_nextDue_25 : decode cX7_nextDue 25 = .ok (.iload_n 1, 1) := by decide +kernel
theorem dX7_nextDue_26 : decode cX7_nextDue 26 = .ok (.goto 14, 3) := by decide +kernel
theorem dX7_nextDue_29 : decode cX7_nextDue 29 = .ok (.iload_n 1, 1) := by decide +kernel
theorem dX7_nextDue_30 : decode cX7_nextDue 30 = .ok (.aload_n 0, 1) := by decide +kernel
theorem dX7_nextDue_31 : decode cX7_nextDue 31 = .ok (.getfield 54, 3) := by decide +kernel
theorem dX7_nextDue_34 : decode cX7_nextDue 34 = .ok (.getfield 58, 3) := by decide +kernel
theorem dX7_nextDue_37 : decode cX7_nextDue 37 = .ok (.invokestatic 126, 3) := by decide +kernel
theorem dX7_nextDue_40 : decode cX7_nextDue 40 = .ok (.ireturn, 1) := by decide +kernel
theorem dX7_tell_0 : decode cX7_tell 0 = .ok (.iload_n 1, 1) := by decide +kernel
theorem dX7_tell_1 : decode cX7_tell 1 = .ok (.tableswitch 104 2 9 #[47, 52, 60, 65, 70, 78, 86, 99], 47) := by decide +kernel
theorem dX7_tell_48 : decode cX7_tell 48 = .ok (.aload_n 0, 1) := by decide +kernel
theorem dX7_tell_49 : decode cX7_tell 49 = .ok (.getfield 44, 3) := by decide +kernel
theorem dX7_tell_52 : decode cX7_tell 52 = .ok (.ireturn, 1) := by decide +kernel
theorem dX7_tell_53 : decode cX7_tell 53 = .ok (.aload_n 0, 1) := by decide +kernel
theorem dX7_tell_54 : decode cX7_tell 54 = .ok (.getfield 27, 3) := by decide +kernel
theorem dX7_tell_57 : decode cX7_tell 57 = .ok (.getfield 78, 3) := by decide +kernel
theorem dX7_tell_60 : decode cX7_tell 60 = .ok (.ireturn, 1) := by decide +kernel
theorem dX7_tell_61 : decode cX7_tell 61 = .ok (.aload_n 0, 1) := by decide +kernel
theorem dX7_tell_62 : decode cX7_tell 62 = .ok (.getfield 81, 3) := by decide +kernel
theorem dX7_tell_65 : decode cX7_tell 65 = .ok (.ireturn, 1) := by decide +kernel
theorem dX7_tell_66 : decode cX7_tell 66 = .ok (.aload_n 0, 1) := by decide +kernel
theorem dX7_tell_67 : decode cX7_tell 67 = .ok (.getfield 75, 3) := by decide +kernel
theorem dX7_tell_70 : decode cX7_tell 70 = .ok (.ireturn, 1) := by decide +kernel
theorem dX7_tell_71 : decode cX7_tell 71 = .ok (.aload_n 0, 1) := by decide +kernel
theorem dX7_tell_72 : decode cX7_tell 72 = .ok (.getfield 31, 3) := by decide +kernel
theorem dX7_tell_75 : decode cX7_tell 75 = .ok (.getfield 78, 3) := by decide +kernel
theorem dX7_tell_78 : decode cX7_tell 78 = .ok (.ireturn, 1) := by decide +kernel
theorem dX7_tell_79 : decode cX7_tell 79 = .ok (.aload_n 0, 1) := by decide +kernel
theorem dX7_tell_80 : decode cX7_tell 80 = .ok (.getfield 34, 3) := by decide +kernel
theorem dX7_tell_83 : decode cX7_tell 83 = .ok (.getfield 78, 3) := by decide +kernel
theorem dX7_tell_86 : decode cX7_tell 86 = .ok (.ireturn, 1) := by decide +kernel
theorem dX7_tell_87 : decode cX7_tell 87 = .ok (.aload_n 0, 1) := by decide +kernel
theorem dX7_tell_88 : decode cX7_tell 88 = .ok (.getfield 54, 3) := by decide +kernel
theorem dX7_tell_91 : decode cX7_tell 91 = .ok (.ifnonnull 7, 3) := by decide +kernel
theorem dX7_tell_94 : decode cX7_tell 94 = .ok (.iconst 0, 1) := by decide +kernel
theorem dX7_tell_95 : decode cX7_tell 95 = .ok (.goto 4, 3) := by decide +kernel
theorem dX7_tell_98 : decode cX7_tell 98 = .ok (.iconst 1, 1) := by decide +kernel
theorem dX7_tell_99 : decode cX7_tell 99 = .ok (.ireturn, 1) := by decide +kernel
theorem dX7_tell_100 : decode cX7_tell 100 = .ok (.aload_n 0, 1) := by decide +kernel
theorem dX7_tell_101 : decode cX7_tell 101 = .ok (.getfield 132, 3) := by decide +kernel
theorem dX7_tell_104 : decode cX7_tell 104 = .ok (.ireturn, 1) := by decide +kernel
theorem dX7_tell_105 : decode cX7_tell 105 = .ok (.iconst (-1), 1) := by decide +kernel
theorem dX7_tell_106 : decode cX7_tell 106 = .ok (.ireturn, 1) := by decide +kernel
theorem dX7_placeOfTold_0 : decode cX7_placeOfTold 0 = .ok (.iconst 0, 1) := by decide +kernel
theorem dX7_placeOfTold_1 : decode cX7_placeOfTold 1 = .ok (.istore_n 2, 1) := by decide +kernel
theorem dX7_placeOfTold_2 : decode cX7_placeOfTold 2 = .ok (.iload_n 2, 1) := by decide +kernel
theorem dX7_placeOfTold_3 : decode cX7_placeOfTold 3 = .ok (.aload_n 0, 1) := by decide +kernel
theorem dX7_placeOfTold_4 : decode cX7_placeOfTold 4 = .ok (.getfield 47, 3) := by decide +kernel
theorem dX7_placeOfTold_7 : decode cX7_placeOfTold 7 = .ok (.if_icmp .ge 30, 3) := by decide +kernel
theorem dX7_placeOfTold_10 : decode cX7_placeOfTold 10 = .ok (.iload_n 2, 1) := by decide +kernel
theorem dX7_placeOfTold_11 : decode cX7_placeOfTold 11 = .ok (.aload_n 0, 1) := by decide +kernel
theorem dX7_placeOfTold_12 : decode cX7_placeOfTold 12 = .ok (.getfield 40, 3) := by decide +kernel
theorem dX7_placeOfTold_15 : decode cX7_placeOfTold 15 = .ok (.arraylength, 1) := by decide +kernel
theorem dX7_placeOfTold_16 : decode cX7_placeOfTold 16 = .ok (.if_icmp .ge 21, 3) := by decide +kernel
theorem dX7_placeOfTold_19 : decode cX7_placeOfTold 19 = .ok (.aload_n 0, 1) := by decide +kernel
theorem dX7_placeOfTold_20 : decode cX7_placeOfTold 20 = .ok (.getfield 40, 3) := by decide +kernel
theorem dX7_placeOfTold_23 : decode cX7_placeOfTold 23 = .ok (.iload_n 2, 1) := by decide +kernel
theorem dX7_placeOfTold_24 : decode cX7_placeOfTold 24 = .ok (.iaload, 1) := by decide +kernel
theorem dX7_placeOfTold_25 : decode cX7_placeOfTold 25 = .ok (.iload_n 1, 1) := by decide +kernel
theorem dX7_placeOfTold_26 : decode cX7_placeOfTold 26 = .ok (.if_icmp .ne 5, 3) := by decide +kernel
theorem dX7_placeOfTold_29 : decode cX7_placeOfTold 29 = .ok (.iload_n 2, 1) := by decide +kernel
theorem dX7_placeOfTold_30 : decode cX7_placeOfTold 30 = .ok (.ireturn, 1) := by decide +kernel
theorem dX7_placeOfTold_31 : decode cX7_placeOfTold 31 = .ok (.iinc 2 1, 3) := by decide +kernel
theorem dX7_placeOfTold_34 : decode cX7_placeOfTold 34 = .ok (.goto (-32), 3) := by decide +kernel
theorem dX7_placeOfTold_37 : decode cX7_placeOfTold 37 = .ok (.iconst (-1), 1) := by decide +kernel
theorem dX7_placeOfTold_38 : decode cX7_placeOfTold 38 = .ok (.ireturn, 1) := by decide +kernel
theorem dX7_forgetTold_0 : decode cX7_forgetTold 0 = .ok (.iload_n 1, 1) := by decide +kernel
theorem dX7_forgetTold_1 : decode cX7_forgetTold 1 = .ok (.ifCond .lt 48, 3) := by decide +kernel
theorem dX7_forgetTold_4 : decode cX7_forgetTold 4 = .ok (.iload_n 1, 1) := by decide +kernel
theorem dX7_forgetTold_5 : decode cX7_forgetTold 5 = .ok (.aload_n 0, 1) := by decide +kernel
theorem dX7_forgetTold_6 : decode cX7_forgetTold 6 = .ok (.getfield 47, 3) := by decide +kernel
theorem dX7_forgetTold_9 : decode cX7_forgetTold 9 = .ok (.if_icmp .ge 40, 3) := by decide +kernel
theorem dX7_forgetTold_12 : decode cX7_forgetTold 12 = .ok (.aload_n 0, 1) := by decide +kernel
theorem dX7_forgetTold_13 : decode cX7_forgetTold 13 = .ok (.getfield 47, 3) := by decide +kernel
theorem dX7_forgetTold_16 : decode cX7_forgetTold 16 = .ok (.aload_n 0, 1) := by decide +kernel
theorem dX7_forgetTold_17 : decode cX7_forgetTold 17 = .ok (.getfield 40, 3) := by decide +kernel
theorem dX7_forgetTold_20 : decode cX7_forgetTold 20 = .ok (.arraylength, 1) := by decide +kernel
theorem dX7_forgetTold_21 : decode cX7_forgetTold 21 = .ok (.if_icmp .gt 28, 3) := by decide +kernel
theorem dX7_forgetTold_24 : decode cX7_forgetTold 24 = .ok (.aload_n 0, 1) := by decide +kernel
theorem dX7_forgetTold_25 : decode cX7_forgetTold 25 = .ok (.dup, 1) := by decide +kernel
theorem dX7_forgetTold_26 : decode cX7_forgetTold 26 = .ok (.getfield 47, 3) := by decide +kernel
theorem dX7_forgetTold_29 : decode cX7_forgetTold 29 = .ok (.iconst 1, 1) := by decide +kernel
theorem dX7_forgetTold_30 : decode cX7_forgetTold 30 = .ok (.isub, 1) := by decide +kernel
theorem dX7_forgetTold_31 : decode cX7_forgetTold 31 = .ok (.putfield 47, 3) := by decide +kernel
theorem dX7_forgetTold_34 : decode cX7_forgetTold 34 = .ok (.aload_n 0, 1) := by decide +kernel
theorem dX7_forgetTold_35 : decode cX7_forgetTold 35 = .ok (.getfield 40, 3) := by decide +kernel
theorem dX7_forgetTold_38 : decode cX7_forgetTold 38 = .ok (.iload_n 1, 1) := by decide +kernel
theorem dX7_forgetTold_39 : decode cX7_forgetTold 39 = .ok (.aload_n 0, 1) := by decide +kernel
theorem dX7_forgetTold_40 : decode cX7_forgetTold 40 = .ok (.getfield 40, 3) := by decide +kernel
theorem dX7_forgetTold_43 : decode cX7_forgetTold 43 = .ok (.aload_n 0, 1) := by decide +kernel
theorem dX7_forgetTold_44 : decode cX7_forgetTold 44 = .ok (.getfield 47, 3) := by decide +kernel
theorem dX7_forgetTold_47 : decode cX7_forgetTold 47 = .ok (.iaload, 1) := by decide +kernel
theorem dX7_forgetTold_48 : decode cX7_forgetTold 48 = .ok (.iastore, 1) := by decide +kernel
theorem dX7_forgetTold_49 : decode cX7_forgetTold 49 = .ok (.return_, 1) := by decide +kernel
theorem dX8_init_0 : decode cX8_init 0 = .ok (.aload_n 0, 1) := by decide +kernel
theorem dX8_init_1 : decode cX8_init 1 = .ok (.invokespecial 3, 3) := by decide +kernel
theorem dX8_init_4 : decode cX8_init 4 = .ok (.aload_n 0, 1) := by decide +kernel
theorem dX8_init_5 : decode cX8_init 5 = .ok (.sipush 2048, 3) := by decide +kernel
theorem dX8_init_8 : decode cX8_init 8 = .ok (.putfield 9, 3) := by decide +kernel
theorem dX8_init_11 : decode cX8_init 11 = .ok (.aload_n 0, 1) := by decide +kernel
theorem dX8_init_12 : decode cX8_init 12 = .ok (.sipush 2048, 3) := by decide +kernel
theorem dX8_init_15 : decode cX8_init 15 = .ok (.putfield 15, 3) := by decide +kernel
theorem dX8_init_18 : decode cX8_init 18 = .ok (.aload_n 0, 1) := by decide +kernel
theorem dX8_init_19 : decode cX8_init 19 = .ok (.ldc 18, 2) := by decide +kernel
theorem dX8_init_21 : decode cX8_init 21 = .ok (.putfield 19, 3) := by decide +kernel
theorem dX8_init_24 : decode cX8_init 24 = .ok (.aload_n 0, 1) := by decide +kernel
theorem dX8_init_25 : decode cX8_init 25 = .ok (.bipush 40, 2) := by decide +kernel
theorem dX8_init_27 : decode cX8_init 27 = .ok (.putfield 22, 3) := by decide +kernel
theorem dX8_init_30 : decode cX8_init 30 = .ok (.aload_n 0, 1) := by decide +kernel
theorem dX8_init_31 : decode cX8_init 31 = .ok (.new 25, 3) := by decide +kernel
theorem dX8_init_34 : decode cX8_init 34 = .ok (.dup, 1) := by decide +kernel
theorem dX8_init_35 : decode cX8_init 35 = .ok (.invokespecial 27, 3) := by decide +kernel
theorem dX8_init_38 : decode cX8_init 38 = .ok (.putfield 28, 3) := by decide +kernel
theorem dX8_init_41 : decode cX8_init 41 = .ok (.aload_n 0, 1) := by decide +kernel
theorem dX8_init_42 : decode cX8_init 42 = .ok (.new 32, 3) := by decide +kernel
theorem dX8_init_45 : decode cX8_init 45 = .ok (.dup, 1) := by decide +kernel
theorem dX8_init_46 : decode cX8_init 46 = .ok (.invokespecial 34, 3) := by decide +kernel
theorem dX8_init_49 : decode cX8_init 49 = .ok (.putfield 35, 3) := by decide +kernel
theorem dX8_init_52 : decode cX8_init 52 = .ok (.aload_n 0, 1) := by decide +kernel
theorem dX8_init_53 : decode cX8_init 53 = .ok (.new 39, 3) := by decide +kernel
theorem dX8_init_56 : decode cX8_init 56 = .ok (.dup, 1) := by decide +kernel
theorem dX8_init_57 : decode cX8_init 57 = .ok (.invokespecial 41, 3) := by decide +kernel
theorem dX8_init_60 : decode cX8_init 60 = .ok (.putfield 42, 3) := by decide +kernel
theorem dX8_init_63 : decode cX8_init 63 = .ok (.aload_n 0, 1) := by decide +kernel
theorem dX8_init_64 : decode cX8_init 64 = .ok (.iload_n 1, 1) := by decide +kernel
theorem dX8_init_65 : decode cX8_init 65 = .ok (.putfield 46, 3) := by decide +kernel
theorem dX8_init_68 : decode cX8_init 68 = .ok (.aload_n 0, 1) := by decide +kernel
theorem dX8_init_69 : decode cX8_init 69 = .ok (.iload_n 2, 1) := by decide +kernel
theorem dX8_init_70 : decode cX8_init 70 = .ok (.putfield 49, 3) := by decide +kernel
theorem dX8_init_73 : decode cX8_init 73 = .ok (.return_, 1) := by decide +kernel
theorem dX8_addGoal_0 : decode cX8_addGoal 0 = .ok (.aload_n 0, 1) := by decide +kernel
theorem dX8_addGoal_1 : decode cX8_addGoal 1 = .ok (.getfield 52, 3) := by decide +kernel
theorem dX8_addGoal_4 : decode cX8_addGoal 4 = .ok (.ldc 55, 2) := by decide +kernel
theorem dX8_addGoal_6 : decode cX8_addGoal 6 = .ok (.iload_n 1, 1) := by decide +kernel
theorem dX8_addGoal_7 : decode cX8_addGoal 7 = .ok (.isub, 1) := by decide +kernel
theorem dX8_addGoal_8 : decode cX8_addGoal 8 = .ok (.if_icmp .le 5, 3) := by decide +kernel
theorem dX8_addGoal_11 : decode cX8_addGoal 11 = .ok (.iconst (-1), 1) := by decide +kernel
theorem dX8_addGoal_12 : decode cX8_addGoal 12 = .ok (.ireturn, 1) := by decide +kernel
theorem dX8_addGoal_13 : decode cX8_addGoal 13 = .ok (.aload_n 0, 1) := by decide +kernel
theorem dX8_addGoal_14 : decode cX8_addGoal 14 = .ok (.dup, 1) := by decide +kernel
theorem dX8_addGoal_15 : decode cX8_addGoal 15 = .ok (.getfield 52, 3) := by decide +kernel
theorem dX8_addGoal_18 : decode cX8_addGoal 18 = .ok (.iload_n 1, 1) := by decide +kernel
theorem dX8_addGoal_19 : decode cX8_addGoal 19 = .ok (.iadd, 1) := by decide +kernel
theorem dX8_addGoal_20 : decode cX8_addGoal 20 = .ok (.putfield 52, 3) := by decide +kernel
theorem dX8_addGoal_23 : decode cX8_addGoal 23 = .ok (.aload_n 0, 1) := by decide +kernel
theorem dX8_addGoal_24 : decode cX8_addGoal 24 = .ok (.getfield 52, 3) := by decide +kernel
theorem dX8_addGoal_27 : decode cX8_addGoal 27 = .ok (.ireturn, 1) := by decide +kernel
theorem dX8_hear_0 : decode cX8_hear 0 = .ok (.aload_n 1, 1) := by decide +kernel
theorem dX8_hear_1 : decode cX8_hear 1 = .ok (.getfield 56, 3) := by decide +kernel
theorem dX8_hear_4 : decode cX8_hear 4 = .ok (.istore 4, 2) := by decide +kernel
theorem dX8_hear_6 : decode cX8_hear 6 = .ok (.iload 4, 2) := by decide +kernel
theorem dX8_hear_8 : decode cX8_hear 8 = .ok (.aload_n 0, 1) := by decide +kernel
theorem dX8_hear_9 : decode cX8_hear 9 = .ok (.getfield 59, 3) := by decide +kernel
theorem dX8_hear_12 : decode cX8_hear 12 = .ok (.if_icmp .ge 4, 3) := by decide +kernel
theorem dX8_hear_15 : decode cX8_hear 15 = .ok (.return_, 1) := by decide +kernel
theorem dX8_hear_16 : decode cX8_hear 16 = .ok (.iload 4, 2) := by decide +kernel
theorem dX8_hear_18 : decode cX8_hear 18 = .ok (.aload_n 0, 1) := by decide +kernel
theorem dX8_hear_19 : decode cX8_hear 19 = .ok (.getfield 59, 3) := by decide +kernel
theorem dX8_hear_22 : decode cX8_hear 22 = .ok (.if_icmp .ne 36, 3) := by decide +kernel
theorem dX8_hear_25 : decode cX8_hear 25 = .ok (.aload_n 1, 1) := by decide +kernel
theorem dX8_hear_26 : decode cX8_hear 26 = .ok (.getfield 62, 3) := by decide +kernel
theorem dX8_hear_29 : decode cX8_hear 29 = .ok (.aload_n 0, 1) := by decide +kernel
theorem dX8_hear_30 : decode cX8_hear 30 = .ok (.getfield 22, 3) := by decide +kernel
theorem dX8_hear_33 : decode cX8_hear 33 = .ok (.if_icmp .ne 25, 3) := by decide +kernel
theorem dX8_hear_36 : decode cX8_hear 36 = .ok (.aload_n 0, 1) := by decide +kernel
theorem dX8_hear_37 : decode cX8_hear 37 = .ok (.getfield 65, 3) := by decide +kernel
theorem dX8_hear_40 : decode cX8_hear 40 = .ok (.aload_n 0, 1) := by decide +kernel
theorem dX8_hear_41 : decode cX8_hear 41 = .ok (.getfield 59, 3) := by decide +kernel
theorem dX8_hear_44 : decode cX8_hear 44 = .ok (.if_icmp .le 14, 3) := by decide +kernel
theorem dX8_hear_47 : decode cX8_hear 47 = .ok (.aload_n 1, 1) := by decide +kernel
theorem dX8_hear_48 : decode cX8_hear 48 = .ok (.getfield 68, 3) := by decide +kernel
theorem dX8_hear_51 : decode cX8_hear 51 = .ok (.ifCond .ne 7, 3) := by decide +kernel
theorem dX8_hear_54 : decode cX8_hear 54 = .ok (.iconst 1, 1) := by decide +kernel
theorem dX8_hear_55 : decode cX8_hear 55 = .ok (.goto 4, 3) := by decide +kernel
theorem dX8_hear_58 : decode cX8_hear 58 = .ok (.iconst 0, 1) := by decide +kernel
theorem dX8_hear_59 : decode cX8_hear 59 = .ok (.istore 5, 2) := by decide +kernel
theorem dX8_hear_61 : decode cX8_hear 61 = .ok (.iload 4, 2) := by decide +kernel
theorem dX8_hear_63 : decode cX8_hear 63 = .ok (.aload_n 0, 1) := by decide +kernel
theorem dX8_hear_64 : decode cX8_hear 64 = .ok (.getfield 59, 3) := by decide +kernel
theorem dX8_hear_67 : decode cX8_hear 67 = .ok (.isub, 1) := by decide +kernel
theorem dX8_hear_68 : decode cX8_hear 68 = .ok (.istore 6, 2) := by decide +kernel
theorem dX8_hear_70 : decode cX8_hear 70 = .ok (.aload_n 0, 1) := by decide +kernel
theorem dX8_hear_71 : decode cX8_hear 71 = .ok (.aload_n 1, 1) := by decide +kernel
theorem dX8_hear_72 : decode cX8_hear 72 = .ok (.getfield 62, 3) := by decide +kernel
theorem dX8_hear_75 : decode cX8_hear 75 = .ok (.putfield 22, 3) := by decide +kernel
theorem dX8_hear_78 : decode cX8_hear 78 = .ok (.iload 6, 2) := by decide +kernel
theorem dX8_hear_80 : decode cX8_hear 80 = .ok (.ifCond .le 10, 3) := by decide +kernel
theorem dX8_hear_83 : decode cX8_hear 83 = .ok (.aload_n 0, 1) := by decide +kernel
theorem dX8_hear_84 : decode cX8_hear 84 = .ok (.iload 6, 2) := by decide +kernel
theorem dX8_hear_86 : decode cX8_hear 86 = .ok (.iload_n 3, 1) := by decide +kernel
theorem dX8_hear_87 : decode cX8_hear 87 = .ok (.invokevirtual 72, 3) := by decide +kernel
theorem dX8_hear_90 : decode cX8_hear 90 = .ok (.aload_n 0, 1) := by decide +kernel
theorem dX8_hear_91 : decode cX8_hear 91 = .ok (.getfield 49, 3) := by decide +kernel
theorem dX8_hear_94 : decode cX8_hear 94 = .ok (.iconst 3, 1) := by decide +kernel
theorem dX8_hear_95 : decode cX8_hear 95 = .ok (.if_icmp .ne 22, 3) := by decide +kernel
theorem dX8_hear_98 : decode cX8_hear 98 = .ok (.aload_n 0, 1) := by decide +kernel
theorem dX8_hear_99 : decode cX8_hear 99 = .ok (.getfield 35, 3) := by decide +kernel
theorem dX8_hear_102 : decode cX8_hear 102 = .ok (.aload_n 1, 1) := by decide +kernel
theorem dX8_hear_103 : decode cX8_hear 103 = .ok (.getfield 76, 3) := by decide +kernel
theorem dX8_hear_106 : decode cX8_hear 106 = .ok (.aload_n 0, 1) := by decide +kernel
theorem dX8_hear_107 : decode cX8_hear 107 = .ok (.getfield 59, 3) := by decide +kernel
theorem dX8_hear_110 : decode cX8_hear 110 = .ok (.aload_n 0, 1) := by decide +kernel
theorem dX8_hear_111 : decode cX8_hear 111 = .ok (.getfield 79, 3) := by decide +kernel
theorem dX8_hear_114 : decode cX8_hear 114 = .ok (.invokevirtual 82, 3) := by decide +kernel
theorem dX8_hear_117 : decode cX8_hear 117 = .ok (.iload 6, 2) := by decide +kernel
theorem dX8_hear_119 : decode cX8_hear 119 = .ok (.ifCond .le 21, 3) := by decide +kernel
theorem dX8_hear_122 : decode cX8_hear 122 = .ok (.aload_n 0, 1) := by decide +kernel
theorem dX8_hear_123 : decode cX8_hear 123 = .ok (.getfield 86, 3) := by decide +kernel
theorem dX8_hear_126 : decode cX8_hear 126 = .ok (.ifCond .eq 14, 3) := by decide +kernel
theorem dX8_hear_129 : decode cX8_hear 129 = .ok (.aload_n 0, 1) := by decide +kernel
theorem dX8_hear_130 : decode cX8_hear 130 = .ok (.iload 6, 2) := by decide +kernel
theorem dX8_hear_132 : decode cX8_hear 132 = .ok (.aload_n 2, 1) := by decide +kernel
theorem dX8_hear_133 : decode cX8_hear 133 = .ok (.iload_n 3, 1) := by decide +kernel
theorem dX8_hear_134 : decode cX8_hear 134 = .ok (.invokevirtual 89, 3) := by decide +kernel
theorem dX8_hear_137 : decode cX8_hear 137 = .ok (.goto 71, 3) := by decide +kernel
theorem dX8_hear_140 : decode cX8_hear 140 = .ok (.iload 6, 2) := by decide +kernel
theorem dX8_hear_142 : decode cX8_hear 142 = .ok (.ifCond .le 16, 3) := by decide +kernel
theorem dX8_hear_145 : decode cX8_hear 145 = .ok (.aload_n 0, 1) := by decide +kernel
theorem dX8_hear_146 : decode cX8_hear 146 = .ok (.iconst 0, 1) := by decide +kernel
theorem dX8_hear_147 : decode cX8_hear 147 = .ok (.putfield 93, 3) := by decide +kernel
theorem dX8_hear_150 : decode cX8_hear 150 = .ok (.aload_n 0, 1) := by decide +kernel
theorem dX8_hear_151 : decode cX8_hear 151 = .ok (.iload_n 3, 1) := by decide +kernel
theorem dX8_hear_152 : decode cX8_hear 152 = .ok (.invokevirtual 96, 3) := by decide +kernel
theorem dX8_hear_155 : decode cX8_hear 155 = .ok (.goto 53, 3) := by decide +kernel
theorem dX8_hear_158 : decode cX8_hear 158 = .ok (.iload 5, 2) := by decide +kernel
theorem dX8_hear_160 : decode cX8_hear 160 = .ok (.ifCond .eq 23, 3) := by decide +kernel
theorem dX8_hear_163 : decode cX8_hear 163 = .ok (.aload_n 0, 1) := by decide +kernel
theorem dX8_hear_164 : decode cX8_hear 164 = .ok (.invokevirtual 100, 3) := by decide +kernel
theorem dX8_hear_167 : decode cX8_hear 167 = .ok (.aload_n 0, 1) := by decide +kernel
theorem dX8_hear_168 : decode cX8_hear 168 = .ok (.invokevirtual 103, 3) := by decide +kernel
theorem dX8_hear_171 : decode cX8_hear 171 = .ok (.ifCond .eq 37, 3) := by decide +kernel
theorem dX8_hear_174 : decode cX8_hear 174 = .ok (.aload_n 0, 1) := by decide +kernel
theorem dX8_hear_175 : decode cX8_hear 175 = .ok (.aload_n 2, 1) := by decide +kernel
theorem dX8_hear_176 : decode cX8_hear 176 = .ok (.iload_n 3, 1) := by decide +kernel
theorem dX8_hear_177 : decode cX8_hear 177 = .ok (.invokevirtual 107, 3) := by decide +kernel
theorem dX8_hear_180 : decode cX8_hear 180 = .ok (.goto 28, 3) := by decide +kernel
theorem dX8_hear_183 : decode cX8_hear 183 = .ok (.aload_n 0, 1) := by decide +kernel
theorem dX8_hear_184 : decode cX8_hear 184 = .ok (.getfield 22, 3) := by decide +kernel
theorem dX8_hear_187 : decode cX8_hear 187 = .ok (.ifCond .le 21, 3) := by decide +kernel
theorem dX8_hear_190 : decode cX8_hear 190 = .ok (.aload_n 0, 1) := by decide +kernel
theorem dX8_hear_191 : decode cX8_hear 191 = .ok (.getfield 65, 3) := by decide +kernel
theorem dX8_hear_194 : decode cX8_hear 194 = .ok (.aload_n 0, 1) := by decide +kernel
theorem dX8_hear_195 : decode cX8_hear 195 = .ok (.getfield 59, 3) := by decide +kernel
theorem dX8_hear_198 : decode cX8_hear 198 = .ok (.if_icmp .ne 10, 3) := by decide +kernel
theorem dX8_hear_201 : decode cX8_hear 201 = .ok (.aload_n 0, 1) := by decide +kernel
theorem dX8_hear_202 : decode cX8_hear 202 = .ok (.getfield 28, 3) := by decide +kernel
theorem dX8_hear_205 : decode cX8_hear 205 = .ok (.invokevirtual 111, 3) := by decide +kernel
theorem dX8_hear_208 : decode cX8_hear 208 = .ok (.return_, 1) := by decide +kernel
theorem dX8_lookAtTimer_0 : decode cX8_lookAtTimer 0 = .ok (.aload_n 0, 1) := by decide +kernel
theorem dX8_lookAtTimer_1 : decode cX8_lookAtTimer 1 = .ok (.getfield 28, 3) := by decide +kernel
theorem dX8_lookAtTimer_4 : decode cX8_lookAtTimer 4 = .ok (.getfield 114, 3) := by decide +kernel
theorem dX8_lookAtTimer_7 : decode cX8_lookAtTimer 7 = .ok (.iload_n 2, 1) := by decide +kernel
theorem dX8_lookAtTimer_8 : decode cX8_lookAtTimer 8 = .ok (.if_icmp .eq 4, 3) := by decide +kernel
theorem dX8_lookAtTimer_11 : decode cX8_lookAtTimer 11 = .ok (.return_, 1) := by decide +kernel
theorem dX8_lookAtTimer_12 : decode cX8_lookAtTimer 12 = .ok (.aload_n 0, 1) := by decide +kernel
theorem dX8_lookAtTimer_13 : decode cX8_lookAtTimer 13 = .ok (.getfield 28, 3) := by decide +kernel
theorem dX8_lookAtTimer_16 : decode cX8_lookAtTimer 16 = .ok (.invokevirtual 111, 3) := by decide +kernel
theorem dX8_lookAtTimer_19 : decode cX8_lookAtTimer 19 = .ok (.aload_n 0, 1) := by decide +kernel
theorem dX8_lookAtTimer_20 : decode cX8_lookAtTimer 20 = .ok (.getfield 28, 3) := by decide +kernel
theorem dX8_lookAtTimer_23 : decode cX8_lookAtTimer 23 = .ok (.iconst (-1), 1) := by decide +kernel
theorem dX8_lookAtTimer_24 : decode cX8_lookAtTimer 24 = .ok (.putfield 117, 3) := by decide +kernel
theorem dX8_lookAtTimer_27 : decode cX8_lookAtTimer 27 = .ok (.aload_n 0, 1) := by decide +kernel
theorem dX8_lookAtTimer_28 : decode cX8_lookAtTimer 28 = .ok (.getfield 65, 3) := by decide +kernel
theorem dX8_lookAtTimer_31 : decode cX8_lookAtTimer 31 = .ok (.aload_n 0, 1) := by decide +kernel
theorem dX8_lookAtTimer_32 : decode cX8_lookAtTimer 32 = .ok (.getfield 59, 3) := by decide +kernel
theorem dX8_lookAtTimer_35 : decode cX8_lookAtTimer 35 = .ok (.if_icmp .le 10, 3) := by decide +kernel
theorem dX8_lookAtTimer_38 : decode cX8_lookAtTimer 38 = .ok (.aload_n 0, 1) := by decide +kernel
theorem dX8_lookAtTimer_39 : decode cX8_lookAtTimer 39 = .ok (.invokevirtual 120, 3) := by decide +kernel
theorem dX8_lookAtTimer_42 : decode cX8_lookAtTimer 42 = .ok (.goto 27, 3) := by decide +kernel
theorem dX8_lookAtTimer_45 : decode cX8_lookAtTimer 45 = .ok (.aload_n 0, 1) := by decide +kernel
theorem dX8_lookAtTimer_46 : decode cX8_lookAtTimer 46 = .ok (.getfield 22, 3) := by decide +kernel
theorem dX8_lookAtTimer_49 : decode cX8_lookAtTimer 49 = .ok (.ifCond .ne 20, 3) := by decide +kernel
theorem dX8_lookAtTimer_52 : decode cX8_lookAtTimer 52 = .ok (.aload_n 0, 1) := by decide +kernel
theorem dX8_lookAtTimer_53 : decode cX8_lookAtTimer 53 = .ok (.getfield 65, 3) := by decide +kernel
theorem dX8_lookAtTimer_56 : decode cX8_lookAtTimer 56 = .ok (.aload_n 0, 1) := by decide +kernel
theorem dX8_lookAtTimer_57 : decode cX8_lookAtTimer 57 = .ok (.getfield 52, 3) := by decide +kernel
theorem dX8_lookAtTimer_60 : decode cX8_lookAtTimer 60 = .ok (.if_icmp .ge 9, 3) := by decide +kernel
theorem dX8_lookAtTimer_63 : decode cX8_lookAtTimer 63 = .ok (.aload_n 0, 1) := by decide +kernel
theorem dX8_lookAtTimer_64 : decode cX8_lookAtTimer 64 = .ok (.aload_n 1, 1) := by decide +kernel
theorem dX8_lookAtTimer_65 : decode cX8_lookAtTimer 65 = .ok (.iload_n 2, 1) := by decide +kernel
theorem dX8_lookAtTimer_66 : decode cX8_lookAtTimer 66 = .ok (.invokevirtual 123, 3) := by decide +kernel
theorem dX8_lookAtTimer_69 : decode cX8_lookAtTimer 69 = .ok (.return_, 1) := by decide +kernel
theorem dX8_sendWhatMay_0 : decode cX8_sendWhatMay 0 = .ok (.iconst 0, 1) := by decide +kernel
theorem dX8_sendWhatMay_1 : decode cX8_sendWhatMay 1 = .ok (.istore_n 3, 1) := by decide +kernel
theorem dX8_sendWhatMay_2 : decode cX8_sendWhatMay 2 = .ok (.iload_n 3, 1) := by decide +kernel
theorem dX8_sendWhatMay_3 : decode cX8_sendWhatMay 3 = .ok (.ldc 126, 2) := by decide +kernel
theorem dX8_sendWhatMay_5 : decode cX8_sendWhatMay 5 = .ok (.if_icmp .ge 51, 3) := by decide +kernel
theorem dX8_sendWhatMay_8 : decode cX8_sendWhatMay 8 = .ok (.aload_n 0, 1) := by decide +kernel
theorem dX8_sendWhatMay_9 : decode cX8_sendWhatMay 9 = .ok (.invokevirtual 127, 3) := by decide +kernel
theorem dX8_sendWhatMay_12 : decode cX8_sendWhatMay 12 = .ok (.istore 4, 2) := by decide +kernel
theorem dX8_sendWhatMay_14 : decode cX8_sendWhatMay 14 = .ok (.iload 4, 2) := by decide +kernel
theorem dX8_sendWhatMay_16 : decode cX8_sendWhatMay 16 = .ok (.iconst (-1), 1) := by decide +kernel
theorem dX8_sendWhatMay_17 : decode cX8_sendWhatMay 17 = .ok (.if_icmp .ne 6, 3) := by decide +kernel
theorem dX8_sendWhatMay_20 : decode cX8_sendWhatMay 20 = .ok (.goto 36, 3) := by decide +kernel
theorem dX8_sendWhatMay_23 : decode cX8_sendWhatMay 23 = .ok (.aload_n 0, 1) := by decide +kernel
theorem dX8_sendWhatMay_24 : decode cX8_sendWhatMay 24 = .ok (.iload 4, 2) := by decide +kernel
theorem dX8_sendWhatMay_26 : decode cX8_sendWhatMay 26 = .ok (.aload_n 1, 1) := by decide +kernel
theorem dX8_sendWhatMay_27 : decode cX8_sendWhatMay 27 = .ok (.iload_n 2, 1) := by decide +kernel
theorem dX8_sendWhatMay_28 : decode cX8_sendWhatMay 28 = .ok (.invokevirtual 131, 3) := by decide +kernel
theorem dX8_sendWhatMay_31 : decode cX8_sendWhatMay 31 = .ok (.iload 4, 2) := by decide +kernel
theorem dX8_sendWhatMay_33 : decode cX8_sendWhatMay 33 = .ok (.aload_n 0, 1) := by decide +kernel
theorem dX8_sendWhatMay_34 : decode cX8_sendWhatMay 34 = .ok (.getfield 65, 3) := by decide +kernel
theorem dX8_sendWhatMay_37 : decode cX8_sendWhatMay 37 = .ok (.if_icmp .ne 13, 3) := by decide +kernel
theorem dX8_sendWhatMay_40 : decode cX8_sendWhatMay 40 = .ok (.aload_n 0, 1) := by decide +kernel
theorem dX8_sendWhatMay_41 : decode cX8_sendWhatMay 41 = .ok (.dup, 1) := by decide +kernel
theorem dX8_sendWhatMay_42 : decode cX8_sendWhatMay 42 = .ok (.getfield 65, 3) := by decide +kernel
theorem dX8_sendWhatMay_45 : decode cX8_sendWhatMay 45 = .ok (.iconst 1, 1) := by decide +kernel
theorem dX8_sendWhatMay_46 : decode cX8_sendWhatMay 46 = .ok (.iadd, 1) := by decide +kernel
theorem dX8_sendWhatMay_47 : decode cX8_sendWhatMay 47 = .ok (.putfield 65, 3) := by decide +kernel
theorem dX8_sendWhatMay_50 : decode cX8_sendWhatMay 50 = .ok (.iinc 3 1, 3) := by decide +kernel
theorem dX8_sendWhatMay_53 : decode cX8_sendWhatMay 53 = .ok (.goto (-51), 3) := by decide +kernel
theorem dX8_sendWhatMay_56 : decode cX8_sendWhatMay 56 = .ok (.aload_n 0, 1) := by decide +kernel
theorem dX8_sendWhatMay_57 : decode cX8_sendWhatMay 57 = .ok (.getfield 22, 3) := by decide +kernel
theorem dX8_sendWhatMay_60 : decode cX8_sendWhatMay 60 = .ok (.ifCond .ne 33, 3) := by decide +kernel
theorem dX8_sendWhatMay_63 : decode cX8_sendWhatMay 63 = .ok (.aload_n 0, 1) := by decide +kernel
theorem dX8_sendWhatMay_64 : decode cX8_sendWhatMay 64 = .ok (.getfield 65, 3) := by decide +kernel
theorem dX8_sendWhatMay_67 : decode cX8_sendWhatMay 67 = .ok (.aload_n 0, 1) := by decide +kernel
theorem dX8_sendWhatMay_68 : decode cX8_sendWhatMay 68 = .ok (.getfield 59, 3) := by decide +kernel
theorem dX8_sendWhatMay_71 : decode cX8_sendWhatMay 71 = .ok (.if_icmp .ne 22, 3) := by decide +kernel
theorem dX8_sendWhatMay_74 : decode cX8_sendWhatMay 74 = .ok (.aload_n 0, 1) := by decide +kernel
theorem dX8_sendWhatMay_75 : decode cX8_sendWhatMay 75 = .ok (.getfield 65, 3) := by decide +kernel
theorem dX8_sendWhatMay_78 : decode cX8_sendWhatMay 78 = .ok (.aload_n 0, 1) := by decide +kernel
theorem dX8_sendWhatMay_79 : decode cX8_sendWhatMay 79 = .ok (.getfield 52, 3) := by decide +kernel
theorem dX8_sendWhatMay_82 : decode cX8_sendWhatMay 82 = .ok (.if_icmp .ge 11, 3) := by decide +kernel
theorem dX8_sendWhatMay_85 : decode cX8_sendWhatMay 85 = .ok (.aload_n 0, 1) := by decide +kernel
theorem dX8_sendWhatMay_86 : decode cX8_sendWhatMay 86 = .ok (.getfield 28, 3) := by decide +kernel
theorem dX8_sendWhatMay_89 : decode cX8_sendWhatMay 89 = .ok (.iload_n 2, 1) := by decide +kernel
theorem dX8_sendWhatMay_90 : decode cX8_sendWhatMay 90 = .ok (.invokevirtual 134, 3) := by decide +kernel
theorem dX8_sendWhatMay_93 : decode cX8_sendWhatMay 93 = .ok (.return_, 1) := by decide +kernel
theorem dX8_tell_0 : decode cX8_tell 0 = .ok (.iload_n 1, 1) := by decide +kernel
theorem dX8_tell_1 : decode cX8_tell 1 = .ok (.tableswitch 122 0 9 #[55, 60, 65, 70, 75, 80, 88, 96, 104, 109], 55) := by decide +kernel
theorem dX8_tell_56 : decode cX8_tell 56 = .ok (.aload_n 0, 1) := by decide +kernel
theorem dX8_tell_57 : decode cX8_tell 57 = .ok (.getfield 59, 3) := by decide +kernel
theorem dX8_tell_60 : decode cX8_tell 60 = .ok (.ireturn, 1) := by decide +kernel
theorem dX8_tell_61 : decode cX8_tell 61 = .ok (.aload_n 0, 1) := by decide +kernel
theorem dX8_tell_62 : decode cX8_tell 62 = .ok (.getfield 65, 3) := by decide +kernel
theorem dX8_tell_65 : decode cX8_tell 65 = .ok (.ireturn, 1) := by decide +kernel
theorem dX8_tell_66 : decode cX8_tell 66 = .ok (.aload_n 0, 1) := by decide +kernel
theorem dX8_tell_67 : decode cX8_tell 67 = .ok (.getfield 79, 3) := by decide +kernel
theorem dX8_tell_70 : decode cX8_tell 70 = .ok (.ireturn, 1) := by decide +kernel
theorem dX8_tell_71 : decode cX8_tell 71 = .ok (.aload_n 0, 1) := by decide +kernel
theorem dX8_tell_72 : decode cX8_tell 72 = .ok (.getfield 9, 3) := by decide +kernel
theorem dX8_tell_75 : decode cX8_tell 75 = .ok (.ireturn, 1) := by decide +kernel
theorem dX8_tell_76 : decode cX8_tell 76 = .ok (.aload_n 0, 1) := by decide +kernel
theorem dX8_tell_77 : decode cX8_tell 77 = .ok (.getfield 19, 3) := by decide +kernel
theorem dX8_tell_80 : decode cX8_tell 80 = .ok (.ireturn, 1) := by decide +kernel
theorem dX8_tell_81 : decode cX8_tell 81 = .ok (.aload_n 0, 1) := by decide +kernel
theorem dX8_tell_82 : decode cX8_tell 82 = .ok (.getfield 28, 3) := by decide +kernel
theorem dX8_tell_85 : decode cX8_tell 85 = .ok (.getfield 137, 3) := by decide +kernel
theorem dX8_tell_88 : decode cX8_tell 88 = .ok (.ireturn, 1) := by decide +kernel
theorem dX8_tell_89 : decode cX8_tell 89 = .ok (.aload_n 0, 1) := by decide +kernel
theorem dX8_tell_90 : decode cX8_tell 90 = .ok (.getfield 28, 3) := by decide +kernel
theorem dX8_tell_93 : decode cX8_tell 93 = .ok (.getfield 140, 3) := by decide +kernel
theorem dX8_tell_96 : decode cX8_tell 96 = .ok (.ireturn, 1) := by decide +kernel
theorem dX8_tell_97 : decode cX8_tell 97 = .ok (.aload_n 0, 1) := by decide +kernel
theorem dX8_tell_98 : decode cX8_tell 98 = .ok (.getfield 28, 3) := by decide +kernel
theorem dX8_tell_101 : decode cX8_tell 101 = .ok (.getfield 143, 3) := by decide +kernel
theorem dX8_tell_104 : decode cX8_tell 104 = .ok (.ireturn, 1) := by decide +kernel
theorem dX8_tell_105 : decode cX8_tell 105 = .ok (.aload_n 0, 1) := by decide +kernel
theorem dX8_tell_106 : decode cX8_tell 106 = .ok (.getfield 93, 3) := by decide +kernel
theorem dX8_tell_109 : decode cX8_tell 109 = .ok (.ireturn, 1) := by decide +kernel
theorem dX8_tell_110 : decode cX8_tell 110 = .ok (.aload_n 0, 1) := by decide +kernel
theorem dX8_tell_111 : decode cX8_tell 111 = .ok (.getfield 86, 3) := by decide +kernel
theorem dX8_tell_114 : decode cX8_tell 114 = .ok (.ifCond .eq 7, 3) := by decide +kernel
theorem dX8_tell_117 : decode cX8_tell 117 = .ok (.iconst 1, 1) := by decide +kernel
theorem dX8_tell_118 : decode cX8_tell 118 = .ok (.goto 4, 3) := by decide +kernel
theorem dX8_tell_121 : decode cX8_tell 121 = .ok (.iconst 0, 1) := by decide +kernel
theorem dX8_tell_122 : decode cX8_tell 122 = .ok (.ireturn, 1) := by decide +kernel
theorem dX8_tell_123 : decode cX8_tell 123 = .ok (.aload_n 0, 1) := by decide +kernel
theorem dX8_tell_124 : decode cX8_tell 124 = .ok (.iload_n 1, 1) := by decide +kernel
theorem dX8_tell_125 : decode cX8_tell 125 = .ok (.invokevirtual 146, 3) := by decide +kernel
theorem dX8_tell_128 : decode cX8_tell 128 = .ok (.ireturn, 1) := by decide +kernel
