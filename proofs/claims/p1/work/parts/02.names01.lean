theorem dX0_init_0 : decode cX0_init 0 = .ok (.aload_n 0, 1) := by decide +kernel
theorem dX0_init_1 : decode cX0_init 1 = .ok (.invokespecial 3, 3) := by decide +kernel
theorem dX0_init_4 : decode cX0_init 4 = .ok (.aload_n 0, 1) := by decide +kernel
theorem dX0_init_5 : decode cX0_init 5 = .ok (.new 9, 3) := by decide +kernel
theorem dX0_init_8 : decode cX0_init 8 = .ok (.dup, 1) := by decide +kernel
theorem dX0_init_9 : decode cX0_init 9 = .ok (.invokespecial 11, 3) := by decide +kernel
theorem dX0_init_12 : decode cX0_init 12 = .ok (.putfield 12, 3) := by decide +kernel
theorem dX0_init_15 : decode cX0_init 15 = .ok (.aload_n 0, 1) := by decide +kernel
theorem dX0_init_16 : decode cX0_init 16 = .ok (.new 9, 3) := by decide +kernel
theorem dX0_init_19 : decode cX0_init 19 = .ok (.dup, 1) := by decide +kernel
theorem dX0_init_20 : decode cX0_init 20 = .ok (.invokespecial 11, 3) := by decide +kernel
theorem dX0_init_23 : decode cX0_init 23 = .ok (.putfield 18, 3) := by decide +kernel
theorem dX0_init_26 : decode cX0_init 26 = .ok (.aload_n 0, 1) := by decide +kernel
theorem dX0_init_27 : decode cX0_init 27 = .ok (.iconst (-1), 1) := by decide +kernel
theorem dX0_init_28 : decode cX0_init 28 = .ok (.putfield 21, 3) := by decide +kernel
theorem dX0_init_31 : decode cX0_init 31 = .ok (.return_, 1) := by decide +kernel
set_option maxRecDepth 20000 in
theorem ggX0_learn_X4_readFrom : GoodIn wsX0_learn wsX4_readFrom := goodIn_r _ [7, 8, 21] (by decide +kernel) (by decide +kernel)
set_option maxRecDepth 20000 in
theorem gX0_learn_X4_readFrom : GoodIn wsX0_learn (wsV RX0 25 RX4 yX4_readFrom wsX4_readFrom) := goodIn_app (goodIn_of _ (by decide +kernel)) ggX0_learn_X4_readFrom
set_option maxRecDepth 20000 in
theorem ggX0_learn_X4_isEmpty : GoodIn wsX0_learn wsX4_isEmpty := goodIn_r _ [12, 8, 21] (by decide +kernel) (by decide +kernel)
set_option maxRecDepth 20000 in
theorem gX0_learn_X4_isEmpty : GoodIn wsX0_learn (wsV RX0 32 RX4 yX4_isEmpty wsX4_isEmpty) := goodIn_app (goodIn_of _ (by decide +kernel)) ggX0_learn_X4_isEmpty
set_option maxRecDepth 20000 in
theorem ggX0_learn_X4_has : GoodIn wsX0_learn wsX4_has := goodIn_r _ [16, 8, 21] (by decide +kernel) (by decide +kernel)
set_option maxRecDepth 20000 in
theorem gX0_learn_X4_has : GoodIn wsX0_learn (wsV RX0 36 RX4 yX4_has wsX4_has) := goodIn_app (goodIn_of _ (by decide +kernel)) ggX0_learn_X4_has
theorem dX0_learn_0 : decode cX0_learn 0 = .ok (.aload_n 0, 1) := by decide +kernel
theorem dX0_learn_1 : decode cX0_learn 1 = .ok (.getfield 12, 3) := by decide +kernel
theorem dX0_learn_4 : decode cX0_learn 4 = .ok (.aload_n 1, 1) := by decide +kernel
theorem dX0_learn_5 : decode cX0_learn 5 = .ok (.invokevirtual 25, 3) := by decide +kernel
theorem dX0_learn_8 : decode cX0_learn 8 = .ok (.aload_n 0, 1) := by decide +kernel
theorem dX0_learn_9 : decode cX0_learn 9 = .ok (.iconst 0, 1) := by decide +kernel
theorem dX0_learn_10 : decode cX0_learn 10 = .ok (.putfield 29, 3) := by decide +kernel
theorem dX0_learn_13 : decode cX0_learn 13 = .ok (.iconst 0, 1) := by decide +kernel
theorem dX0_learn_14 : decode cX0_learn 14 = .ok (.istore 4, 2) := by decide +kernel
theorem dX0_learn_16 : decode cX0_learn 16 = .ok (.iload_n 3, 1) := by decide +kernel
theorem dX0_learn_17 : decode cX0_learn 17 = .ok (.iconst 1, 1) := by decide +kernel
theorem dX0_learn_18 : decode cX0_learn 18 = .ok (.isub, 1) := by decide +kernel
theorem dX0_learn_19 : decode cX0_learn 19 = .ok (.istore 5, 2) := by decide +kernel
theorem dX0_learn_21 : decode cX0_learn 21 = .ok (.iload 5, 2) := by decide +kernel
theorem dX0_learn_23 : decode cX0_learn 23 = .ok (.iload_n 2, 1) := by decide +kernel
theorem dX0_learn_24 : decode cX0_learn 24 = .ok (.if_icmp .le 56, 3) := by decide +kernel
theorem dX0_learn_27 : decode cX0_learn 27 = .ok (.iload 4, 2) := by decide +kernel
theorem dX0_learn_29 : decode cX0_learn 29 = .ok (.iconst 3, 1) := by decide +kernel
theorem dX0_learn_30 : decode cX0_learn 30 = .ok (.if_icmp .ge 50, 3) := by decide +kernel
theorem dX0_learn_33 : decode cX0_learn 33 = .ok (.aload_n 0, 1) := by decide +kernel
theorem dX0_learn_34 : decode cX0_learn 34 = .ok (.getfield 12, 3) := by decide +kernel
theorem dX0_learn_37 : decode cX0_learn 37 = .ok (.invokevirtual 32, 3) := by decide +kernel
theorem dX0_learn_40 : decode cX0_learn 40 = .ok (.ifCond .ne 40, 3) := by decide +kernel
theorem dX0_learn_43 : decode cX0_learn 43 = .ok (.aload_n 0, 1) := by decide +kernel
theorem dX0_learn_44 : decode cX0_learn 44 = .ok (.getfield 12, 3) := by decide +kernel
theorem dX0_learn_47 : decode cX0_learn 47 = .ok (.iload 5, 2) := by decide +kernel
theorem dX0_learn_49 : decode cX0_learn 49 = .ok (.invokevirtual 36, 3) := by decide +kernel
theorem dX0_learn_52 : decode cX0_learn 52 = .ok (.ifCond .eq 22, 3) := by decide +kernel
theorem dX0_learn_55 : decode cX0_learn 55 = .ok (.iinc 4 1, 3) := by decide +kernel
theorem dX0_learn_58 : decode cX0_learn 58 = .ok (.aload_n 0, 1) := by decide +kernel
theorem dX0_learn_59 : decode cX0_learn 59 = .ok (.iload 4, 2) := by decide +kernel
theorem dX0_learn_61 : decode cX0_learn 61 = .ok (.iconst 3, 1) := by decide +kernel
theorem dX0_learn_62 : decode cX0_learn 62 = .ok (.if_icmp .ne 8, 3) := by decide +kernel
theorem dX0_learn_65 : decode cX0_learn 65 = .ok (.iload 5, 2) := by decide +kernel
theorem dX0_learn_67 : decode cX0_learn 67 = .ok (.goto 4, 3) := by decide +kernel
theorem dX0_learn_70 : decode cX0_learn 70 = .ok (.iconst 0, 1) := by decide +kernel
theorem dX0_learn_71 : decode cX0_learn 71 = .ok (.putfield 29, 3) := by decide +kernel
theorem dX0_learn_74 : decode cX0_learn 74 = .ok (.iinc 5 (-1), 3) := by decide +kernel
theorem dX0_learn_77 : decode cX0_learn 77 = .ok (.goto (-56), 3) := by decide +kernel
theorem dX0_learn_80 : decode cX0_learn 80 = .ok (.return_, 1) := by decide +kernel
set_option maxRecDepth 20000 in
theorem ggX0_forget_X4_clear : GoodIn wsX0_forget wsX4_clear := goodIn_r _ [7, 8, 13] (by decide +kernel) (by decide +kernel)
set_option maxRecDepth 20000 in
theorem gX0_forget_X4_clear : GoodIn wsX0_forget (wsV RX0 40 RX4 yX4_clear wsX4_clear) := goodIn_app (goodIn_of _ (by decide +kernel)) ggX0_forget_X4_clear
theorem dX0_forget_0 : decode cX0_forget 0 = .ok (.aload_n 0, 1) := by decide +kernel
theorem dX0_forget_1 : decode cX0_forget 1 = .ok (.getfield 12, 3) := by decide +kernel
theorem dX0_forget_4 : decode cX0_forget 4 = .ok (.invokevirtual 40, 3) := by decide +kernel
theorem dX0_forget_7 : decode cX0_forget 7 = .ok (.aload_n 0, 1) := by decide +kernel
theorem dX0_forget_8 : decode cX0_forget 8 = .ok (.iconst 0, 1) := by decide +kernel
theorem dX0_forget_9 : decode cX0_forget 9 = .ok (.putfield 29, 3) := by decide +kernel
theorem dX0_forget_12 : decode cX0_forget 12 = .ok (.return_, 1) := by decide +kernel
set_option maxRecDepth 20000 in
theorem ggX0_beginRecovery_X4_clear : GoodIn wsX0_beginRecovery wsX4_clear := goodIn_r _ [7, 8, 13] (by decide +kernel) (by decide +kernel)
set_option maxRecDepth 20000 in
theorem gX0_beginRecovery_X4_clear : GoodIn wsX0_beginRecovery (wsV RX0 40 RX4 yX4_clear wsX4_clear) := goodIn_app (goodIn_of _ (by decide +kernel)) ggX0_beginRecovery_X4_clear
theorem dX0_beginRecovery_0 : decode cX0_beginRecovery 0 = .ok (.aload_n 0, 1) := by decide +kernel
theorem dX0_beginRecovery_1 : decode cX0_beginRecovery 1 = .ok (.getfield 18, 3) := by decide +kernel
theorem dX0_beginRecovery_4 : decode cX0_beginRecovery 4 = .ok (.invokevirtual 40, 3) := by decide +kernel
theorem dX0_beginRecovery_7 : decode cX0_beginRecovery 7 = .ok (.aload_n 0, 1) := by decide +kernel
theorem dX0_beginRecovery_8 : decode cX0_beginRecovery 8 = .ok (.iload_n 1, 1) := by decide +kernel
theorem dX0_beginRecovery_9 : decode cX0_beginRecovery 9 = .ok (.putfield 21, 3) := by decide +kernel
theorem dX0_beginRecovery_12 : decode cX0_beginRecovery 12 = .ok (.return_, 1) := by decide +kernel
set_option maxRecDepth 20000 in
theorem ggX0_goOn_X4_drop : GoodIn wsX0_goOn wsX4_drop := goodIn_r _ [6, 7, 8, 13] (by decide +kernel) (by decide +kernel)
set_option maxRecDepth 20000 in
theorem gX0_goOn_X4_drop : GoodIn wsX0_goOn (wsV RX0 43 RX4 yX4_drop wsX4_drop) := goodIn_app (goodIn_of _ (by decide +kernel)) ggX0_goOn_X4_drop
theorem dX0_goOn_0 : decode cX0_goOn 0 = .ok (.iload_n 1, 1) := by decide +kernel
theorem dX0_goOn_1 : decode cX0_goOn 1 = .ok (.istore_n 3, 1) := by decide +kernel
theorem dX0_goOn_2 : decode cX0_goOn 2 = .ok (.iload_n 3, 1) := by decide +kernel
theorem dX0_goOn_3 : decode cX0_goOn 3 = .ok (.iload_n 2, 1) := by decide +kernel
theorem dX0_goOn_4 : decode cX0_goOn 4 = .ok (.if_icmp .ge 17, 3) := by decide +kernel
theorem dX0_goOn_7 : decode cX0_goOn 7 = .ok (.aload_n 0, 1) := by decide +kernel
theorem dX0_goOn_8 : decode cX0_goOn 8 = .ok (.getfield 18, 3) := by decide +kernel
theorem dX0_goOn_11 : decode cX0_goOn 11 = .ok (.iload_n 3, 1) := by decide +kernel
theorem dX0_goOn_12 : decode cX0_goOn 12 = .ok (.invokevirtual 43, 3) := by decide +kernel
theorem dX0_goOn_15 : decode cX0_goOn 15 = .ok (.iinc 3 1, 3) := by decide +kernel
theorem dX0_goOn_18 : decode cX0_goOn 18 = .ok (.goto (-16), 3) := by decide +kernel
theorem dX0_goOn_21 : decode cX0_goOn 21 = .ok (.return_, 1) := by decide +kernel
set_option maxRecDepth 20000 in
theorem ggX0_leastLost_X0_isLost : GoodIn wsX0_leastLost wsX0_isLost := goodIn_r _ [6, 7, 8, 9, 10, 11, 12, 13, 14, 15, 16, 17, 18, 19, 20] (by decide +kernel) (by decide +kernel)
set_option maxRecDepth 20000 in
theorem gX0_leastLost_X0_isLost : GoodIn wsX0_leastLost (wsV RX0 47 RX0 yX0_isLost wsX0_isLost) := goodIn_app (goodIn_of _ (by decide +kernel)) ggX0_leastLost_X0_isLost
set_option maxRecDepth 20000 in
theorem ggX0_leastLost_X4_has : GoodIn wsX0_leastLost wsX4_has := goodIn_r _ [14, 15, 20] (by decide +kernel) (by decide +kernel)
set_option maxRecDepth 20000 in
theorem gX0_leastLost_X4_has : GoodIn wsX0_leastLost (wsV RX0 36 RX4 yX4_has wsX4_has) := goodIn_app (goodIn_of _ (by decide +kernel)) ggX0_leastLost_X4_has
theorem dX0_leastLost_0 : decode cX0_leastLost 0 = .ok (.iload_n 1, 1) := by decide +kernel
theorem dX0_leastLost_1 : decode cX0_leastLost 1 = .ok (.istore_n 3, 1) := by decide +kernel
theorem dX0_leastLost_2 : decode cX0_leastLost 2 = .ok (.iload_n 3, 1) := by decide +kernel
theorem dX0_leastLost_3 : decode cX0_leastLost 3 = .ok (.iload_n 2, 1) := by decide +kernel
theorem dX0_leastLost_4 : decode cX0_leastLost 4 = .ok (.if_icmp .ge 30, 3) := by decide +kernel
theorem dX0_leastLost_7 : decode cX0_leastLost 7 = .ok (.aload_n 0, 1) := by decide +kernel
theorem dX0_leastLost_8 : decode cX0_leastLost 8 = .ok (.iload_n 3, 1) := by decide +kernel
theorem dX0_leastLost_9 : decode cX0_leastLost 9 = .ok (.invokevirtual 47, 3) := by decide +kernel
theorem dX0_leastLost_12 : decode cX0_leastLost 12 = .ok (.ifCond .eq 16, 3) := by decide +kernel
theorem dX0_leastLost_15 : decode cX0_leastLost 15 = .ok (.aload_n 0, 1) := by decide +kernel
theorem dX0_leastLost_16 : decode cX0_leastLost 16 = .ok (.getfield 18, 3) := by decide +kernel
theorem dX0_leastLost_19 : decode cX0_leastLost 19 = .ok (.iload_n 3, 1) := by decide +kernel
theorem dX0_leastLost_20 : decode cX0_leastLost 20 = .ok (.invokevirtual 36, 3) := by decide +kernel
theorem dX0_leastLost_23 : decode cX0_leastLost 23 = .ok (.ifCond .ne 5, 3) := by decide +kernel
theorem dX0_leastLost_26 : decode cX0_leastLost 26 = .ok (.iload_n 3, 1) := by decide +kernel
theorem dX0_leastLost_27 : decode cX0_leastLost 27 = .ok (.ireturn, 1) := by decide +kernel
theorem dX0_leastLost_28 : decode cX0_leastLost 28 = .ok (.iinc 3 1, 3) := by decide +kernel
theorem dX0_leastLost_31 : decode cX0_leastLost 31 = .ok (.goto (-29), 3) := by decide +kernel
theorem dX0_leastLost_34 : decode cX0_leastLost 34 = .ok (.iconst (-1), 1) := by decide +kernel
theorem dX0_leastLost_35 : decode cX0_leastLost 35 = .ok (.ireturn, 1) := by decide +kernel
set_option maxRecDepth 20000 in
theorem ggX0_pipe_X4_has : GoodIn wsX0_pipe wsX4_has := goodIn_r _ [7, 8, 20] (by decide +kernel) (by decide +kernel)
set_option maxRecDepth 20000 in
theorem gX0_pipe_X4_has : GoodIn wsX0_pipe (wsV RX0 36 RX4 yX4_has wsX4_has) := goodIn_app (goodIn_of _ (by decide +kernel)) ggX0_pipe_X4_has
set_option maxRecDepth 20000 in
theorem ggX0_pipe_X0_isLost : GoodIn wsX0_pipe wsX0_isLost := goodIn_r _ [13, 14, 15, 1, 3, 4, 5, 6, 7, 8, 16, 17, 18, 19, 20] (by decide +kernel) (by decide +kernel)
set_option maxRecDepth 20000 in
theorem gX0_pipe_X0_isLost : GoodIn wsX0_pipe (wsV RX0 47 RX0 yX0_isLost wsX0_isLost) := goodIn_app (goodIn_of _ (by decide +kernel)) ggX0_pipe_X0_isLost
theorem dX0_pipe_0 : decode cX0_pipe 0 = .ok (.iconst 0, 1) := by decide +kernel
theorem dX0_pipe_1 : decode cX0_pipe 1 = .ok (.istore 4, 2) := by decide +kernel
theorem dX0_pipe_3 : decode cX0_pipe 3 = .ok (.iload_n 1, 1) := by decide +kernel
theorem dX0_pipe_4 : decode cX0_pipe 4 = .ok (.istore 5, 2) := by decide +kernel
theorem dX0_pipe_6 : decode cX0_pipe 6 = .ok (.iload 5, 2) := by decide +kernel
theorem dX0_pipe_8 : decode cX0_pipe 8 = .ok (.iload_n 3, 1) := by decide +kernel
theorem dX0_pipe_9 : decode cX0_pipe 9 = .ok (.if_icmp .ge 66, 3) := by decide +kernel
theorem dX0_pipe_12 : decode cX0_pipe 12 = .ok (.iload 5, 2) := by decide +kernel
theorem dX0_pipe_14 : decode cX0_pipe 14 = .ok (.iload_n 2, 1) := by decide +kernel
theorem dX0_pipe_15 : decode cX0_pipe 15 = .ok (.if_icmp .ge 27, 3) := by decide +kernel
theorem dX0_pipe_18 : decode cX0_pipe 18 = .ok (.aload_n 0, 1) := by decide +kernel
theorem dX0_pipe_19 : decode cX0_pipe 19 = .ok (.getfield 12, 3) := by decide +kernel
theorem dX0_pipe_22 : decode cX0_pipe 22 = .ok (.iload 5, 2) := by decide +kernel
theorem dX0_pipe_24 : decode cX0_pipe 24 = .ok (.invokevirtual 36, 3) := by decide +kernel
theorem dX0_pipe_27 : decode cX0_pipe 27 = .ok (.ifCond .ne 15, 3) := by decide +kernel
theorem dX0_pipe_30 : decode cX0_pipe 30 = .ok (.aload_n 0, 1) := by decide +kernel
theorem dX0_pipe_31 : decode cX0_pipe 31 = .ok (.iload 5, 2) := by decide +kernel
theorem dX0_pipe_33 : decode cX0_pipe 33 = .ok (.invokevirtual 47, 3) := by decide +kernel
theorem dX0_pipe_36 : decode cX0_pipe 36 = .ok (.ifCond .ne 6, 3) := by decide +kernel
theorem dX0_pipe_39 : decode cX0_pipe 39 = .ok (.iinc 4 1, 3) := by decide +kernel
theorem dX0_pipe_42 : decode cX0_pipe 42 = .ok (.aload_n 0, 1) := by decide +kernel
theorem dX0_pipe_43 : decode cX0_pipe 43 = .ok (.getfield 18, 3) := by decide +kernel
theorem dX0_pipe_46 : decode cX0_pipe 46 = .ok (.iload 5, 2) := by decide +kernel
theorem dX0_pipe_48 : decode cX0_pipe 48 = .ok (.invokevirtual 36, 3) := by decide +kernel
theorem dX0_pipe_51 : decode cX0_pipe 51 = .ok (.ifCond .eq 18, 3) := by decide +kernel
theorem dX0_pipe_54 : decode cX0_pipe 54 = .ok (.aload_n 0, 1) := by decide +kernel
theorem dX0_pipe_55 : decode cX0_pipe 55 = .ok (.getfield 12, 3) := by decide +kernel
theorem dX0_pipe_58 : decode cX0_pipe 58 = .ok (.iload 5, 2) := by decide +kernel
theorem dX0_pipe_60 : decode cX0_pipe 60 = .ok (.invokevirtual 36, 3) := by decide +kernel
theorem dX0_pipe_63 : decode cX0_pipe 63 = .ok (.ifCond .ne 6, 3) := by decide +kernel
theorem dX0_pipe_66 : decode cX0_pipe 66 = .ok (.iinc 4 1, 3) := by decide +kernel
theorem dX0_pipe_69 : decode cX0_pipe 69 = .ok (.iinc 5 1, 3) := by decide +kernel
theorem dX0_pipe_72 : decode cX0_pipe 72 = .ok (.goto (-66), 3) := by decide +kernel
theorem dX0_pipe_75 : decode cX0_pipe 75 = .ok (.iload 4, 2) := by decide +kernel
theorem dX0_pipe_77 : decode cX0_pipe 77 = .ok (.ireturn, 1) := by decide +kernel
set_option maxRecDepth 20000 in
theorem ggX0_isLost_X4_has : GoodIn wsX0_isLost wsX4_has := goodIn_r _ [8, 9, 14] (by decide +kernel) (by decide +kernel)
set_option maxRecDepth 20000 in
theorem gX0_isLost_X4_has : GoodIn wsX0_isLost (wsV RX0 36 RX4 yX4_has wsX4_has) := goodIn_app (goodIn_of _ (by decide +kernel)) ggX0_isLost_X4_has
theorem dX0_isLost_0 : decode cX0_isLost 0 = .ok (.iload_n 1, 1) := by decide +kernel
theorem dX0_isLost_1 : decode cX0_isLost 1 = .ok (.aload_n 0, 1) := by decide +kernel
theorem dX0_isLost_2 : decode cX0_isLost 2 = .ok (.getfield 21, 3) := by decide +kernel
theorem dX0_isLost_5 : decode cX0_isLost 5 = .ok (.if_icmp .eq 22, 3) := by decide +kernel
theorem dX0_isLost_8 : decode cX0_isLost 8 = .ok (.iload_n 1, 1) := by decide +kernel
theorem dX0_isLost_9 : decode cX0_isLost 9 = .ok (.aload_n 0, 1) := by decide +kernel
theorem dX0_isLost_10 : decode cX0_isLost 10 = .ok (.getfield 29, 3) := by decide +kernel
theorem dX0_isLost_13 : decode cX0_isLost 13 = .ok (.if_icmp .ge 18, 3) := by decide +kernel
theorem dX0_isLost_16 : decode cX0_isLost 16 = .ok (.aload_n 0, 1) := by decide +kernel
theorem dX0_isLost_17 : decode cX0_isLost 17 = .ok (.getfield 12, 3) := by decide +kernel
theorem dX0_isLost_20 : decode cX0_isLost 20 = .ok (.iload_n 1, 1) := by decide +kernel
theorem dX0_isLost_21 : decode cX0_isLost 21 = .ok (.invokevirtual 36, 3) := by decide +kernel
theorem dX0_isLost_24 : decode cX0_isLost 24 = .ok (.ifCond .ne 7, 3) := by decide +kernel
theorem dX0_isLost_27 : decode cX0_isLost 27 = .ok (.iconst 1, 1) := by decide +kernel
theorem dX0_isLost_28 : decode cX0_isLost 28 = .ok (.goto 4, 3) := by decide +kernel
theorem dX0_isLost_31 : decode cX0_isLost 31 = .ok (.iconst 0, 1) := by decide +kernel
theorem dX0_isLost_32 : decode cX0_isLost 32 = .ok (.ireturn, 1) := by decide +kernel
theorem dX1_init_0 : decode cX1_init 0 = .ok (.aload_n 0, 1) := by decide +kernel
theorem dX1_init_1 : decode cX1_init 1 = .ok (.invokespecial 3, 3) := by decide +kernel
theorem dX1_init_4 : decode cX1_init 4 = .ok (.return_, 1) := by decide +kernel
theorem dX1_append_0 : decode cX1_append 0 = .ok (.aload_n 1, 1) := by decide +kernel
theorem dX1_append_1 : decode cX1_append 1 = .ok (.aconst_null, 1) := by decide +kernel
theorem dX1_append_2 : decode cX1_append 2 = .ok (.putfield 9, 3) := by decide +kernel
theorem dX1_append_5 : decode cX1_append 5 = .ok (.aload_n 0, 1) := by decide +kernel
theorem dX1_append_6 : decode cX1_append 6 = .ok (.getfield 15, 3) := by decide +kernel
theorem dX1_append_9 : decode cX1_append 9 = .ok (.ifnonnull 11, 3) := by decide +kernel
theorem dX1_append_12 : decode cX1_append 12 = .ok (.aload_n 0, 1) := by decide +kernel
theorem dX1_append_13 : decode cX1_append 13 = .ok (.aload_n 1, 1) := by decide +kernel
theorem dX1_append_14 : decode cX1_append 14 = .ok (.putfield 20, 3) := by decide +kernel
theorem dX1_append_17 : decode cX1_append 17 = .ok (.goto 11, 3) := by decide +kernel
theorem dX1_append_20 : decode cX1_append 20 = .ok (.aload_n 0, 1) := by decide +kernel
theorem dX1_append_21 : decode cX1_append 21 = .ok (.getfield 15, 3) := by decide +kernel
theorem dX1_append_24 : decode cX1_append 24 = .ok (.aload_n 1, 1) := by decide +kernel
theorem dX1_append_25 : decode cX1_append 25 = .ok (.putfield 9, 3) := by decide +kernel
theorem dX1_append_28 : decode cX1_append 28 = .ok (.aload_n 0, 1) := by decide +kernel
theorem dX1_append_29 : decode cX1_append 29 = .ok (.aload_n 1, 1) := by decide +kernel
theorem dX1_append_30 : decode cX1_append 30 = .ok (.putfield 15, 3) := by decide +kernel
theorem dX1_append_33 : decode cX1_append 33 = .ok (.aload_n 0, 1) := by decide +kernel
theorem dX1_append_34 : decode cX1_append 34 = .ok (.dup, 1) := by decide +kernel
theorem dX1_append_35 : decode cX1_append 35 = .ok (.getfield 23, 3) := by decide +kernel
theorem dX1_append_38 : decode cX1_append 38 = .ok (.iconst 1, 1) := by decide +kernel
theorem dX1_append_39 : decode cX1_append 39 = .ok (.iadd, 1) := by decide +kernel
theorem dX1_append_40 : decode cX1_append 40 = .ok (.putfield 23, 3) := by decide +kernel
theorem dX1_append_43 : decode cX1_append 43 = .ok (.return_, 1) := by decide +kernel
set_option maxRecDepth 20000 in
theorem ggX1_putByDue_X1_append : GoodIn wsX1_putByDue wsX1_append := goodIn_r _ [8, 2, 1, 3, 12, 13, 14, 15, 16, 17, 18, 9, 10, 11] (by decide +kernel) (by decide +kernel)
set_option maxRecDepth 20000 in
theorem gX1_putByDue_X1_append : GoodIn wsX1_putByDue (wsV RX1 30 RX1 yX1_append wsX1_append) := goodIn_app (goodIn_of _ (by decide +kernel)) ggX1_putByDue_X1_append
theorem dX1_putByDue_0 : decode cX1_putByDue 0 = .ok (.aload_n 0, 1) := by decide +kernel
theorem dX1_putByDue_1 : decode cX1_putByDue 1 = .ok (.getfield 20, 3) := by decide +kernel
theorem dX1_putByDue_4 : decode cX1_putByDue 4 = .ok (.ifnull 24, 3) := by decide +kernel
theorem dX1_putByDue_7 : decode cX1_putByDue 7 = .ok (.aload_n 0, 1) := by decide +kernel
theorem dX1_putByDue_8 : decode cX1_putByDue 8 = .ok (.getfield 15, 3) := by decide +kernel
theorem dX1_putByDue_11 : decode cX1_putByDue 11 = .ok (.ifnull 17, 3) := by decide +kernel
theorem dX1_putByDue_14 : decode cX1_putByDue 14 = .ok (.aload_n 0, 1) := by decide +kernel
theorem dX1_putByDue_15 : decode cX1_putByDue 15 = .ok (.getfield 15, 3) := by decide +kernel
theorem dX1_putByDue_18 : decode cX1_putByDue 18 = .ok (.getfield 27, 3) := by decide +kernel
theorem dX1_putByDue_21 : decode cX1_putByDue 21 = .ok (.aload_n 1, 1) := by decide +kernel
theorem dX1_putByDue_22 : decode cX1_putByDue 22 = .ok (.getfield 27, 3) := by decide +kernel
theorem dX1_putByDue_25 : decode cX1_putByDue 25 = .ok (.if_icmp .gt 9, 3) := by decide +kernel
theorem dX1_putByDue_28 : decode cX1_putByDue 28 = .ok (.aload_n 0, 1) := by decide +kernel
theorem dX1_putByDue_29 : decode cX1_putByDue 29 = .ok (.aload_n 1, 1) := by decide +kernel
theorem dX1_putByDue_30 : decode cX1_putByDue 30 = .ok (.invokevirtual 30, 3) := by decide +kernel
theorem dX1_putByDue_33 : decode cX1_putByDue 33 = .ok (.return_, 1) := by decide +kernel
theorem dX1_putByDue_34 : decode cX1_putByDue 34 = .ok (.aload_n 0, 1) := by decide +kernel
theorem dX1_putByDue_35 : decode cX1_putByDue 35 = .ok (.dup, 1) := by decide +kernel
theorem dX1_putByDue_36 : decode cX1_putByDue 36 = .ok (.getfield 23, 3) := by decide +kernel
theorem dX1_putByDue_39 : decode cX1_putByDue 39 = .ok (.iconst 1, 1) := by decide +kernel
theorem dX1_putByDue_40 : decode cX1_putByDue 40 = .ok (.iadd, 1) := by decide +kernel
theorem dX1_putByDue_41 : decode cX1_putByDue 41 = .ok (.putfield 23, 3) := by decide +kernel
theorem dX1_putByDue_44 : decode cX1_putByDue 44 = .ok (.aload_n 0, 1) := by decide +kernel
theorem dX1_putByDue_45 : decode cX1_putByDue 45 = .ok (.getfield 20, 3) := by decide +kernel
theorem dX1_putByDue_48 : decode cX1_putByDue 48 = .ok (.getfield 27, 3) := by decide +kernel
theorem dX1_putByDue_51 : decode cX1_putByDue 51 = .ok (.aload_n 1, 1) := by decide +kernel
theorem dX1_putByDue_52 : decode cX1_putByDue 52 = .ok (.getfield 27, 3) := by decide +kernel
theorem dX1_putByDue_55 : decode cX1_putByDue 55 = .ok (.if_icmp .le 17, 3) := by decide +kernel
theorem dX1_putByDue_58 : decode cX1_putByDue 58 = .ok (.aload_n 1, 1) := by decide +kernel
theorem dX1_putByDue_59 : decode cX1_putByDue 59 = .ok (.aload_n 0, 1) := by decide +kernel
theorem dX1_putByDue_60 : decode cX1_putByDue 60 = .ok (.getfield 20, 3) := by decide +kernel
theorem dX1_putByDue_63 : decode cX1_putByDue 63 = .ok (.putfield 9, 3) := by decide +kernel
theorem dX1_putByDue_66 : decode cX1_putByDue 66 = .ok (.aload_n 0, 1) := by decide +kernel
theorem dX1_putByDue_67 : decode cX1_putByDue 67 = .ok (.aload_n 1, 1) := by decide +kernel
theorem dX1_putByDue_68 : decode cX1_putByDue 68 = .ok (.putfield 20, 3) := by decide +kernel
theorem dX1_putByDue_71 : decode cX1_putByDue 71 = .ok (.return_, 1) := by decide +kernel
theorem dX1_putByDue_72 : decode cX1_putByDue 72 = .ok (.aload_n 0, 1) := by decide +kernel
theorem dX1_putByDue_73 : decode cX1_putByDue 73 = .ok (.getfield 20, 3) := by decide +kernel
theorem dX1_putByDue_76 : decode cX1_putByDue 76 = .ok (.astore_n 2, 1) := by decide +kernel
theorem dX1_putByDue_77 : decode cX1_putByDue 77 = .ok (.aload_n 2, 1) := by decide +kernel
theorem dX1_putByDue_78 : decode cX1_putByDue 78 = .ok (.getfield 9, 3) := by decide +kernel
theorem dX1_putByDue_81 : decode cX1_putByDue 81 = .ok (.ifnull 25, 3) := by decide +kernel
theorem dX1_putByDue_84 : decode cX1_putByDue 84 = .ok (.aload_n 2, 1) := by decide +kernel
theorem dX1_putByDue_85 : decode cX1_putByDue 85 = .ok (.getfield 9, 3) := by decide +kernel
theorem dX1_putByDue_88 : decode cX1_putByDue 88 = .ok (.getfield 27, 3) := by decide +kernel
theorem dX1_putByDue_91 : decode cX1_putByDue 91 = .ok (.aload_n 1, 1) := by decide +kernel
theorem dX1_putByDue_92 : decode cX1_putByDue 92 = .ok (.getfield 27, 3) := by decide +kernel
theorem dX1_putByDue_95 : decode cX1_putByDue 95 = .ok (.if_icmp .gt 11, 3) := by decide +kernel
theorem dX1_putByDue_98 : decode cX1_putByDue 98 = .ok (.aload_n 2, 1) := by decide +kernel
theorem dX1_putByDue_99 : decode cX1_putByDue 99 = .ok (.getfield 9, 3) := by decide +kernel
theorem dX1_putByDue_102 : decode cX1_putByDue 102 = .ok (.astore_n 2, 1) := by decide +kernel
theorem dX1_putByDue_103 : decode cX1_putByDue 103 = .ok (.goto (-26), 3) := by decide +kernel
theorem dX1_putByDue_106 : decode cX1_putByDue 106 = .ok (.aload_n 1, 1) := by decide +kernel
theorem dX1_putByDue_107 : decode cX1_putByDue 107 = .ok (.aload_n 2, 1) := by decide +kernel
theorem dX1_putByDue_108 : decode cX1_putByDue 108 = .ok (.getfield 9, 3) := by decide +kernel
theorem dX1_putByDue_111 : decode cX1_putByDue 111 = .ok (.putfield 9, 3) := by decide +kernel
theorem dX1_putByDue_114 : decode cX1_putByDue 114 = .ok (.aload_n 2, 1) := by decide +kernel
theorem dX1_putByDue_115 : decode cX1_putByDue 115 = .ok (.aload_n 1, 1) := by decide +kernel
theorem dX1_putByDue_116 : decode cX1_putByDue 116 = .ok (.putfield 9, 3) := by decide +kernel
theorem dX1_putByDue_119 : decode cX1_putByDue 119 = .ok (.return_, 1) := by decide +kernel
theorem dX1_takeFirst_0 : decode cX1_takeFirst 0 = .ok (.aload_n 0, 1) := by decide +kernel
theorem dX1_takeFirst_1 : decode cX1_takeFirst 1 = .ok (.getfield 20, 3) := by decide +kernel
theorem dX1_takeFirst_4 : decode cX1_takeFirst 4 = .ok (.astore_n 1, 1) := by decide +kernel
theorem dX1_takeFirst_5 : decode cX1_takeFirst 5 = .ok (.aload_n 1, 1) := by decide +kernel
theorem dX1_takeFirst_6 : decode cX1_takeFirst 6 = .ok (.ifnull 26, 3) := by decide +kernel
theorem dX1_takeFirst_9 : decode cX1_takeFirst 9 = .ok (.aload_n 0, 1) := by decide +kernel
theorem dX1_takeFirst_10 : decode cX1_takeFirst 10 = .ok (.aload_n 1, 1) := by decide +kernel
theorem dX1_takeFirst_11 : decode cX1_takeFirst 11 = .ok (.getfield 9, 3) := by decide +kernel
theorem dX1_takeFirst_14 : decode cX1_takeFirst 14 = .ok (.putfield 20, 3) := by decide +kernel
theorem dX1_takeFirst_17 : decode cX1_takeFirst 17 = .ok (.aload_n 1, 1) := by decide +kernel
theorem dX1_takeFirst_18 : decode cX1_takeFirst 18 = .ok (.aconst_null, 1) := by decide +kernel
theorem dX1_takeFirst_19 : decode cX1_takeFirst 19 = .ok (.putfield 9, 3) := by decide +kernel
theorem dX1_takeFirst_22 : decode cX1_takeFirst 22 = .ok (.aload_n 0, 1) := by decide +kernel
theorem dX1_takeFirst_23 : decode cX1_takeFirst 23 = .ok (.dup, 1) := by decide +kernel
theorem dX1_takeFirst_24 : decode cX1_takeFirst 24 = .ok (.getfield 23, 3) := by decide +kernel
theorem dX1_takeFirst_27 : decode cX1_takeFirst 27 = .ok (.iconst 1, 1) := by decide +kernel
theorem dX1_takeFirst_28 : decode cX1_takeFirst 28 = .ok (.isub, 1) := by decide +kernel
theorem dX1_takeFirst_29 : decode cX1_takeFirst 29 = .ok (.putfield 23, 3) := by decide +kernel
theorem dX1_takeFirst_32 : decode cX1_takeFirst 32 = .ok (.aload_n 0, 1) := by decide +kernel
theorem dX1_takeFirst_33 : decode cX1_takeFirst 33 = .ok (.getfield 20, 3) := by decide +kernel
theorem dX1_takeFirst_36 : decode cX1_takeFirst 36 = .ok (.ifnonnull 8, 3) := by decide +kernel
theorem dX1_takeFirst_39 : decode cX1_takeFirst 39 = .ok (.aload_n 0, 1) := by decide +kernel
theorem dX1_takeFirst_40 : decode cX1_takeFirst 40 = .ok (.aconst_null, 1) := by decide +kernel
theorem dX1_takeFirst_41 : decode cX1_takeFirst 41 = .ok (.putfield 15, 3) := by decide +kernel
theorem dX1_takeFirst_44 : decode cX1_takeFirst 44 = .ok (.aload_n 1, 1) := by decide +kernel
theorem dX1_takeFirst_45 : decode cX1_takeFirst 45 = .ok (.areturn, 1) := by decide +kernel
set_option maxRecDepth 20000 in
theorem ggX1_takeDue_X1_firstDue : GoodIn wsX1_takeDue wsX1_firstDue := goodIn_r _ [5, 6, 7, 14, 15, 16, 17, 18, 19, 20, 21, 22, 23] (by decide +kernel) (by decide +kernel)
set_option maxRecDepth 20000 in
theorem gX1_takeDue_X1_firstDue : GoodIn wsX1_takeDue (wsV RX1 34 RX1 yX1_firstDue wsX1_firstDue) := goodIn_app (goodIn_of _ (by decide +kernel)) ggX1_takeDue_X1_firstDue
set_option maxRecDepth 20000 in
theorem ggX1_takeDue_X1_takeFirst : GoodIn wsX1_takeDue wsX1_takeFirst := goodIn_r _ [11, 6, 12, 13, 14, 15, 16, 17, 18, 19, 20, 21, 22, 23] (by decide +kernel) (by decide +kernel)
set_option maxRecDepth 20000 in
theorem gX1_takeDue_X1_takeFirst : GoodIn wsX1_takeDue (wsV RX1 38 RX1 yX1_takeFirst wsX1_takeFirst) := goodIn_app (goodIn_of _ (by decide +kernel)) ggX1_takeDue_X1_takeFirst
theorem dX1_takeDue_0 : decode cX1_takeDue 0 = .ok (.aload_n 0, 1) := by decide +kernel
theorem dX1_takeDue_1 : decode cX1_takeDue 1 = .ok (.invokevirtual 34, 3) := by decide +kernel
theorem dX1_takeDue_4 : decode cX1_takeDue 4 = .ok (.iload_n 1, 1) := by decide +kernel
theorem dX1_takeDue_5 : decode cX1_takeDue 5 = .ok (.if_icmp .gt 10, 3) := by decide +kernel
theorem dX1_takeDue_8 : decode cX1_takeDue 8 = .ok (.aload_n 0, 1) := by decide +kernel
theorem dX1_takeDue_9 : decode cX1_takeDue 9 = .ok (.invokevirtual 38, 3) := by decide +kernel
theorem dX1_takeDue_12 : decode cX1_takeDue 12 = .ok (.goto 4, 3) := by decide +kernel
theorem dX1_takeDue_15 : decode cX1_takeDue 15 = .ok (.aconst_null, 1) := by decide +kernel
theorem dX1_takeDue_16 : decode cX1_takeDue 16 = .ok (.areturn, 1) := by decide +kernel
theorem dX1_firstDue_0 : decode cX1_firstDue 0 = .ok (.aload_n 0, 1) := by decide +kernel
theorem dX1_firstDue_1 : decode cX1_firstDue 1 = .ok (.getfield 20, 3) := by decide +kernel
theorem dX1_firstDue_4 : decode cX1_firstDue 4 = .ok (.ifnonnull 8, 3) := by decide +kernel
theorem dX1_firstDue_7 : decode cX1_firstDue 7 = .ok (.ldc 42, 2) := by decide +kernel
theorem dX1_firstDue_9 : decode cX1_firstDue 9 = .ok (.goto 10, 3) := by decide +kernel
theorem dX1_firstDue_12 : decode cX1_firstDue 12 = .ok (.aload_n 0, 1) := by decide +kernel
theorem dX1_firstDue_13 : decode cX1_firstDue 13 = .ok (.getfield 20, 3) := by decide +kernel
theorem dX1_firstDue_16 : decode cX1_firstDue 16 = .ok (.getfield 27, 3) := by decide +kernel
theorem dX1_firstDue_19 : decode cX1_firstDue 19 = .ok (.ireturn, 1) := by decide +kernel
theorem dX2_init_0 : decode cX2_init 0 = .ok (.aload_n 0, 1) := by decide +kernel
theorem dX2_init_1 : decode cX2_init 1 = .ok (.invokespecial 3, 3) := by decide +kernel
theorem dX2_init_4 : decode cX2_init 4 = .ok (.aload_n 0, 1) := by decide +kernel
theorem dX2_init_5 : decode cX2_init 5 = .ok (.iconst (-1), 1) := by decide +kernel
theorem dX2_init_6 : decode cX2_init 6 = .ok (.putfield 9, 3) := by decide +kernel
theorem dX2_init_9 : decode cX2_init 9 = .ok (.return_, 1) := by decide +kernel
theorem dX2_noteLoss_0 : decode cX2_noteLoss 0 = .ok (.aload_n 0, 1) := by decide +kernel
theorem dX2_noteLoss_1 : decode cX2_noteLoss 1 = .ok (.iload_n 1, 1) := by decide +kernel
theorem dX2_noteLoss_2 : decode cX2_noteLoss 2 = .ok (.aload_n 0, 1) := by decide +kernel
theorem dX2_noteLoss_3 : decode cX2_noteLoss 3 = .ok (.getfield 15, 3) := by decide +kernel
theorem dX2_noteLoss_6 : decode cX2_noteLoss 6 = .ok (.if_icmp .ge 13, 3) := by decide +kernel
theorem dX2_noteLoss_9 : decode cX2_noteLoss 9 = .ok (.iload_n 1, 1) := by decide +kernel
theorem dX2_noteLoss_10 : decode cX2_noteLoss 10 = .ok (.bipush 85, 2) := by decide +kernel
theorem dX2_noteLoss_12 : decode cX2_noteLoss 12 = .ok (.imul, 1) := by decide +kernel
theorem dX2_noteLoss_13 : decode cX2_noteLoss 13 = .ok (.bipush 100, 2) := by decide +kernel
theorem dX2_noteLoss_15 : decode cX2_noteLoss 15 = .ok (.idiv, 1) := by decide +kernel
theorem dX2_noteLoss_16 : decode cX2_noteLoss 16 = .ok (.goto 4, 3) := by decide +kernel
theorem dX2_noteLoss_19 : decode cX2_noteLoss 19 = .ok (.iload_n 1, 1) := by decide +kernel
theorem dX2_noteLoss_20 : decode cX2_noteLoss 20 = .ok (.putfield 15, 3) := by decide +kernel
theorem dX2_noteLoss_23 : decode cX2_noteLoss 23 = .ok (.aload_n 0, 1) := by decide +kernel
theorem dX2_noteLoss_24 : decode cX2_noteLoss 24 = .ok (.iconst (-1), 1) := by decide +kernel
theorem dX2_noteLoss_25 : decode cX2_noteLoss 25 = .ok (.putfield 9, 3) := by decide +kernel
theorem dX2_noteLoss_28 : decode cX2_noteLoss 28 = .ok (.sipush 2048, 3) := by decide +kernel
theorem dX2_noteLoss_31 : decode cX2_noteLoss 31 = .ok (.iload_n 1, 1) := by decide +kernel
theorem dX2_noteLoss_32 : decode cX2_noteLoss 32 = .ok (.bipush 7, 2) := by decide +kernel
theorem dX2_noteLoss_34 : decode cX2_noteLoss 34 = .ok (.imul, 1) := by decide +kernel
theorem dX2_noteLoss_35 : decode cX2_noteLoss 35 = .ok (.bipush 10, 2) := by decide +kernel
theorem dX2_noteLoss_37 : decode cX2_noteLoss 37 = .ok (.idiv, 1) := by decide +kernel
theorem dX2_noteLoss_38 : decode cX2_noteLoss 38 = .ok (.invokestatic 18, 3) := by decide +kernel
theorem dX2_noteLoss_41 : decode cX2_noteLoss 41 = .ok (.ireturn, 1) := by decide +kernel
set_option maxRecDepth 20000 in
theorem ggX2_grow_X2_begin : GoodIn wsX2_grow wsX2_begin := goodIn_r _ [28, 1, 29, 30, 23, 4, 9, 10, 7, 11, 12, 21, 31, 32, 27, 33, 34, 35, 36, 37, 38, 39, 40] (by decide +kernel) (by decide +kernel)
set_option maxRecDepth 20000 in
theorem gX2_grow_X2_begin : GoodIn wsX2_grow (wsV RX2 24 RX2 yX2_begin wsX2_begin) := goodIn_app (goodIn_of _ (by decide +kernel)) ggX2_grow_X2_begin
theorem dX2_grow_0 : decode cX2_grow 0 = .ok (.aload_n 0, 1) := by decide +kernel
theorem dX2_grow_1 : decode cX2_grow 1 = .ok (.getfield 9, 3) := by decide +kernel
theorem dX2_grow_4 : decode cX2_grow 4 = .ok (.iconst (-1), 1) := by decide +kernel
theorem dX2_grow_5 : decode cX2_grow 5 = .ok (.if_icmp .ne 9, 3) := by decide +kernel
theorem dX2_grow_8 : decode cX2_grow 8 = .ok (.aload_n 0, 1) := by decide +kernel
theorem dX2_grow_9 : decode cX2_grow 9 = .ok (.iload_n 1, 1) := by decide +kernel
theorem dX2_grow_10 : decode cX2_grow 10 = .ok (.iload_n 3, 1) := by decide +kernel
theorem dX2_grow_11 : decode cX2_grow 11 = .ok (.invokevirtual 24, 3) := by decide +kernel
theorem dX2_grow_14 : decode cX2_grow 14 = .ok (.ldc 28, 2) := by decide +kernel
theorem dX2_grow_16 : decode cX2_grow 16 = .ok (.ldc 29, 2) := by decide +kernel
theorem dX2_grow_18 : decode cX2_grow 18 = .ok (.iload_n 3, 1) := by decide +kernel
theorem dX2_grow_19 : decode cX2_grow 19 = .ok (.aload_n 0, 1) := by decide +kernel
theorem dX2_grow_20 : decode cX2_grow 20 = .ok (.getfield 9, 3) := by decide +kernel
theorem dX2_grow_23 : decode cX2_grow 23 = .ok (.isub, 1) := by decide +kernel
theorem dX2_grow_24 : decode cX2_grow 24 = .ok (.iload_n 2, 1) := by decide +kernel
theorem dX2_grow_25 : decode cX2_grow 25 = .ok (.bipush 8, 2) := by decide +kernel
theorem dX2_grow_27 : decode cX2_grow 27 = .ok (.idiv, 1) := by decide +kernel
theorem dX2_grow_28 : decode cX2_grow 28 = .ok (.iadd, 1) := by decide +kernel
theorem dX2_grow_29 : decode cX2_grow 29 = .ok (.aload_n 0, 1) := by decide +kernel
theorem dX2_grow_30 : decode cX2_grow 30 = .ok (.getfield 30, 3) := by decide +kernel
theorem dX2_grow_33 : decode cX2_grow 33 = .ok (.isub, 1) := by decide +kernel
theorem dX2_grow_34 : decode cX2_grow 34 = .ok (.invokestatic 33, 3) := by decide +kernel
theorem dX2_grow_37 : decode cX2_grow 37 = .ok (.invokestatic 18, 3) := by decide +kernel
theorem dX2_grow_40 : decode cX2_grow 40 = .ok (.i2l, 1) := by decide +kernel
theorem dX2_grow_41 : decode cX2_grow 41 = .ok (.lstore 4, 2) := by decide +kernel
theorem dX2_grow_43 : decode cX2_grow 43 = .ok (.aload_n 0, 1) := by decide +kernel
theorem dX2_grow_44 : decode cX2_grow 44 = .ok (.getfield 36, 3) := by decide +kernel
theorem dX2_grow_47 : decode cX2_grow 47 = .ok (.i2l, 1) := by decide +kernel
theorem dX2_grow_48 : decode cX2_grow 48 = .ok (.lload 4, 2) := by decide +kernel
theorem dX2_grow_50 : decode cX2_grow 50 = .ok (.lload 4, 2) := by decide +kernel
theorem dX2_grow_52 : decode cX2_grow 52 = .ok (.lmul, 1) := by decide +kernel
theorem dX2_grow_53 : decode cX2_grow 53 = .ok (.lload 4, 2) := by decide +kernel
theorem dX2_grow_55 : decode cX2_grow 55 = .ok (.lmul, 1) := by decide +kernel
theorem dX2_grow_56 : decode cX2_grow 56 = .ok (.ldc2_w 39, 3) := by decide +kernel
theorem dX2_grow_59 : decode cX2_grow 59 = .ok (.lmul, 1) := by decide +kernel
theorem dX2_grow_60 : decode cX2_grow 60 = .ok (.ldc2_w 41, 3) := by decide +kernel
theorem dX2_grow_63 : decode cX2_grow 63 = .ok (.ldiv, 1) := by decide +kernel
theorem dX2_grow_64 : decode cX2_grow 64 = .ok (.ladd, 1) := by decide +kernel
theorem dX2_grow_65 : decode cX2_grow 65 = .ok (.lstore 6, 2) := by decide +kernel
theorem dX2_grow_67 : decode cX2_grow 67 = .ok (.iload_n 1, 1) := by decide +kernel
theorem dX2_grow_68 : decode cX2_grow 68 = .ok (.i2l, 1) := by decide +kernel
theorem dX2_grow_69 : decode cX2_grow 69 = .ok (.lload 6, 2) := by decide +kernel
theorem dX2_grow_71 : decode cX2_grow 71 = .ok (.iload_n 1, 1) := by decide +kernel
theorem dX2_grow_72 : decode cX2_grow 72 = .ok (.iconst 3, 1) := by decide +kernel
theorem dX2_grow_73 : decode cX2_grow 73 = .ok (.imul, 1) := by decide +kernel
theorem dX2_grow_74 : decode cX2_grow 74 = .ok (.iconst 2, 1) := by decide +kernel
theorem dX2_grow_75 : decode cX2_grow 75 = .ok (.idiv, 1) := by decide +kernel
theorem dX2_grow_76 : decode cX2_grow 76 = .ok (.i2l, 1) := by decide +kernel
theorem dX2_grow_77 : decode cX2_grow 77 = .ok (.invokestatic 43, 3) := by decide +kernel
theorem dX2_grow_80 : decode cX2_grow 80 = .ok (.invokestatic 46, 3) := by decide +kernel
theorem dX2_grow_83 : decode cX2_grow 83 = .ok (.lstore 8, 2) := by decide +kernel
theorem dX2_grow_85 : decode cX2_grow 85 = .ok (.iconst 1, 1) := by decide +kernel
theorem dX2_grow_86 : decode cX2_grow 86 = .ok (.iload_n 1, 1) := by decide +kernel
theorem dX2_grow_87 : decode cX2_grow 87 = .ok (.invokestatic 18, 3) := by decide +kernel
theorem dX2_grow_90 : decode cX2_grow 90 = .ok (.i2l, 1) := by decide +kernel
theorem dX2_grow_91 : decode cX2_grow 91 = .ok (.lstore 10, 2) := by decide +kernel
theorem dX2_grow_93 : decode cX2_grow 93 = .ok (.aload_n 0, 1) := by decide +kernel
theorem dX2_grow_94 : decode cX2_grow 94 = .ok (.dup, 1) := by decide +kernel
theorem dX2_grow_95 : decode cX2_grow 95 = .ok (.getfield 48, 3) := by decide +kernel
theorem dX2_grow_98 : decode cX2_grow 98 = .ok (.ldc2_w 51, 3) := by decide +kernel
theorem dX2_grow_101 : decode cX2_grow 101 = .ok (.lload 10, 2) := by decide +kernel
theorem dX2_grow_103 : decode cX2_grow 103 = .ok (.ldiv, 1) := by decide +kernel
theorem dX2_grow_104 : decode cX2_grow 104 = .ok (.l2i, 1) := by decide +kernel
theorem dX2_grow_105 : decode cX2_grow 105 = .ok (.iadd, 1) := by decide +kernel
theorem dX2_grow_106 : decode cX2_grow 106 = .ok (.putfield 48, 3) := by decide +kernel
theorem dX2_grow_109 : decode cX2_grow 109 = .ok (.iload_n 1, 1) := by decide +kernel
theorem dX2_grow_110 : decode cX2_grow 110 = .ok (.lconst 1, 1) := by decide +kernel
theorem dX2_grow_111 : decode cX2_grow 111 = .ok (.lload 8, 2) := by decide +kernel
theorem dX2_grow_113 : decode cX2_grow 113 = .ok (.iload_n 1, 1) := by decide +kernel
theorem dX2_grow_114 : decode cX2_grow 114 = .ok (.i2l, 1) := by decide +kernel
theorem dX2_grow_115 : decode cX2_grow 115 = .ok (.lsub, 1) := by decide +kernel
theorem dX2_grow_116 : decode cX2_grow 116 = .ok (.ldc2_w 53, 3) := by decide +kernel
theorem dX2_grow_119 : decode cX2_grow 119 = .ok (.lmul, 1) := by decide +kernel
theorem dX2_grow_120 : decode cX2_grow 120 = .ok (.lload 10, 2) := by decide +kernel
theorem dX2_grow_122 : decode cX2_grow 122 = .ok (.ldiv, 1) := by decide +kernel
theorem dX2_grow_123 : decode cX2_grow 123 = .ok (.invokestatic 46, 3) := by decide +kernel
theorem dX2_grow_126 : decode cX2_grow 126 = .ok (.l2i, 1) := by decide +kernel
theorem dX2_grow_127 : decode cX2_grow 127 = .ok (.iadd, 1) := by decide +kernel
theorem dX2_grow_128 : decode cX2_grow 128 = .ok (.istore 12, 2) := by decide +kernel
theorem dX2_grow_130 : decode cX2_grow 130 = .ok (.iload 12, 2) := by decide +kernel
theorem dX2_grow_132 : decode cX2_grow 132 = .ok (.aload_n 0, 1) := by decide +kernel
theorem dX2_grow_133 : decode cX2_grow 133 = .ok (.getfield 48, 3) := by decide +kernel
theorem dX2_grow_136 : decode cX2_grow 136 = .ok (.invokestatic 18, 3) := by decide +kernel
theorem dX2_grow_139 : decode cX2_grow 139 = .ok (.ireturn, 1) := by decide +kernel
set_option maxRecDepth 20000 in
theorem ggX2_begin_X2_cubeRoot : GoodIn wsX2_begin wsX2_cubeRoot := goodIn_r _ [15, 16, 17] (by decide +kernel) (by decide +kernel)
set_option maxRecDepth 20000 in
theorem gX2_begin_X2_cubeRoot : GoodIn wsX2_begin (va_wsS RX2 57 yX2_cubeRoot wsX2_cubeRoot) := goodIn_app (goodIn_of _ (by decide +kernel)) ggX2_begin_X2_cubeRoot
theorem dX2_begin_0 : decode cX2_begin 0 = .ok (.aload_n 0, 1) := by decide +kernel
theorem dX2_begin_1 : decode cX2_begin 1 = .ok (.iload_n 2, 1) := by decide +kernel
theorem dX2_begin_2 : decode cX2_begin 2 = .ok (.putfield 9, 3) := by decide +kernel
theorem dX2_begin_5 : decode cX2_begin 5 = .ok (.aload_n 0, 1) := by decide +kernel
theorem dX2_begin_6 : decode cX2_begin 6 = .ok (.iload_n 1, 1) := by decide +kernel
theorem dX2_begin_7 : decode cX2_begin 7 = .ok (.aload_n 0, 1) := by decide +kernel
theorem dX2_begin_8 : decode cX2_begin 8 = .ok (.getfield 15, 3) := by decide +kernel
theorem dX2_begin_11 : decode cX2_begin 11 = .ok (.if_icmp .ge 24, 3) := by decide +kernel
theorem dX2_begin_14 : decode cX2_begin 14 = .ok (.aload_n 0, 1) := by decide +kernel
theorem dX2_begin_15 : decode cX2_begin 15 = .ok (.getfield 15, 3) := by decide +kernel
theorem dX2_begin_18 : decode cX2_begin 18 = .ok (.iload_n 1, 1) := by decide +kernel
theorem dX2_begin_19 : decode cX2_begin 19 = .ok (.isub, 1) := by decide +kernel
theorem dX2_begin_20 : decode cX2_begin 20 = .ok (.i2l, 1) := by decide +kernel
theorem dX2_begin_21 : decode cX2_begin 21 = .ok (.ldc2_w 55, 3) := by decide +kernel
theorem dX2_begin_24 : decode cX2_begin 24 = .ok (.lmul, 1) := by decide +kernel
theorem dX2_begin_25 : decode cX2_begin 25 = .ok (.ldc2_w 53, 3) := by decide +kernel
theorem dX2_begin_28 : decode cX2_begin 28 = .ok (.ldiv, 1) := by decide +kernel
theorem dX2_begin_29 : decode cX2_begin 29 = .ok (.invokestatic 57, 3) := by decide +kernel
theorem dX2_begin_32 : decode cX2_begin 32 = .ok (.goto 4, 3) := by decide +kernel
theorem dX2_begin_35 : decode cX2_begin 35 = .ok (.iconst 0, 1) := by decide +kernel
theorem dX2_begin_36 : decode cX2_begin 36 = .ok (.putfield 30, 3) := by decide +kernel
theorem dX2_begin_39 : decode cX2_begin 39 = .ok (.aload_n 0, 1) := by decide +kernel
theorem dX2_begin_40 : decode cX2_begin 40 = .ok (.aload_n 0, 1) := by decide +kernel
theorem dX2_begin_41 : decode cX2_begin 41 = .ok (.getfield 15, 3) := by decide +kernel
theorem dX2_begin_44 : decode cX2_begin 44 = .ok (.iload_n 1, 1) := by decide +kernel
theorem dX2_begin_45 : decode cX2_begin 45 = .ok (.invokestatic 18, 3) := by decide +kernel
theorem dX2_begin_48 : decode cX2_begin 48 = .ok (.putfield 36, 3) := by decide +kernel
theorem dX2_begin_51 : decode cX2_begin 51 = .ok (.aload_n 0, 1) := by decide +kernel
theorem dX2_begin_52 : decode cX2_begin 52 = .ok (.iload_n 1, 1) := by decide +kernel
theorem dX2_begin_53 : decode cX2_begin 53 = .ok (.putfield 48, 3) := by decide +kernel
theorem dX2_begin_56 : decode cX2_begin 56 = .ok (.return_, 1) := by decide +kernel
theorem dX2_cubeRoot_0 : decode cX2_cubeRoot 0 = .ok (.lconst 0, 1) := by decide +kernel
theorem dX2_cubeRoot_1 : decode cX2_cubeRoot 1 = .ok (.lstore_n 2, 1) := by decide +kernel
theorem dX2_cubeRoot_2 : decode cX2_cubeRoot 2 = .ok (.ldc2_w 61, 3) := by decide +kernel
theorem dX2_cubeRoot_5 : decode cX2_cubeRoot 5 = .ok (.lstore 4, 2) := by decide +kernel
theorem dX2_cubeRoot_7 : decode cX2_cubeRoot 7 = .ok (.lload 4, 2) := by decide +kernel
theorem dX2_cubeRoot_9 : decode cX2_cubeRoot 9 = .ok (.lconst 0, 1) := by decide +kernel
theorem dX2_cubeRoot_10 : decode cX2_cubeRoot 10 = .ok (.lcmp, 1) := by decide +kernel
theorem dX2_cubeRoot_11 : decode cX2_cubeRoot 11 = .ok (.ifCond .le 36, 3) := by decide +kernel
theorem dX2_cubeRoot_14 : decode cX2_cubeRoot 14 = .ok (.lload_n 2, 1) := by decide +kernel
theorem dX2_cubeRoot_15 : decode cX2_cubeRoot 15 = .ok (.lload 4, 2) := by decide +kernel
theorem dX2_cubeRoot_17 : decode cX2_cubeRoot 17 = .ok (.ladd, 1) := by decide +kernel
theorem dX2_cubeRoot_18 : decode cX2_cubeRoot 18 = .ok (.lstore 6, 2) := by decide +kernel
theorem dX2_cubeRoot_20 : decode cX2_cubeRoot 20 = .ok (.lload 6, 2) := by decide +kernel
theorem dX2_cubeRoot_22 : decode cX2_cubeRoot 22 = .ok (.lload 6, 2) := by decide +kernel
theorem dX2_cubeRoot_24 : decode cX2_cubeRoot 24 = .ok (.lmul, 1) := by decide +kernel
theorem dX2_cubeRoot_25 : decode cX2_cubeRoot 25 = .ok (.lload 6, 2) := by decide +kernel
theorem dX2_cubeRoot_27 : decode cX2_cubeRoot 27 = .ok (.lmul, 1) := by decide +kernel
theorem dX2_cubeRoot_28 : decode cX2_cubeRoot 28 = .ok (.lload_n 0, 1) := by decide +kernel
theorem dX2_cubeRoot_29 : decode cX2_cubeRoot 29 = .ok (.lcmp, 1) := by decide +kernel
theorem dX2_cubeRoot_30 : decode cX2_cubeRoot 30 = .ok (.ifCond .gt 6, 3) := by decide +kernel
theorem dX2_cubeRoot_33 : decode cX2_cubeRoot 33 = .ok (.lload 6, 2) := by decide +kernel
theorem dX2_cubeRoot_35 : decode cX2_cubeRoot 35 = .ok (.lstore_n 2, 1) := by decide +kernel
theorem dX2_cubeRoot_36 : decode cX2_cubeRoot 36 = .ok (.lload 4, 2) := by decide +kernel
theorem dX2_cubeRoot_38 : decode cX2_cubeRoot 38 = .ok (.ldc2_w 63, 3) := by decide +kernel
theorem dX2_cubeRoot_41 : decode cX2_cubeRoot 41 = .ok (.ldiv, 1) := by decide +kernel
theorem dX2_cubeRoot_42 : decode cX2_cubeRoot 42 = .ok (.lstore 4, 2) := by decide +kernel
theorem dX2_cubeRoot_44 : decode cX2_cubeRoot 44 = .ok (.goto (-37), 3) := by decide +kernel
theorem dX2_cubeRoot_47 : decode cX2_cubeRoot 47 = .ok (.lload_n 2, 1) := by decide +kernel
theorem dX2_cubeRoot_48 : decode cX2_cubeRoot 48 = .ok (.l2i, 1) := by decide +kernel
theorem dX2_cubeRoot_49 : decode cX2_cubeRoot 49 = .ok (.ireturn, 1) := by decide +kernel
set_option maxRecDepth 20000 in
theorem ggX3_init_X8_init : GoodIn wsX3_init wsX8_init := goodIn_r _ [14, 15, 2, 3, 16, 17, 18, 19, 20, 21, 22, 23, 24, 25, 26, 27, 28, 29, 30, 31, 32, 33, 34, 35, 36, 37, 38, 39, 40, 41, 42, 43, 44, 45, 46, 47, 48, 49, 50, 51, 52, 53, 54, 55, 56, 57, 58, 69, 70, 71, 72, 73, 74, 75, 76, 77, 78, 79, 80, 81, 82, 83, 84, 85, 86, 87, 88, 102, 103, 104, 105, 106, 107, 108, 109, 110, 111, 112, 113, 114, 115, 116, 117] (by decide +kernel) (by decide +kernel)
set_option maxRecDepth 20000 in
theorem gX3_init_X8_init : GoodIn wsX3_init (wsX8_init) := ggX3_init_X8_init
set_option maxRecDepth 20000 in
theorem ggX3_init_X6_init : GoodIn wsX3_init wsX6_init := goodIn_r _ [61, 62, 2, 3, 63, 64, 45, 46, 65, 66, 67, 68, 50, 51, 52, 53, 54, 91, 92, 93, 94, 95, 96, 97, 98, 99, 100, 101, 117] (by decide +kernel) (by decide +kernel)
set_option maxRecDepth 20000 in
theorem gX3_init_X6_init : GoodIn wsX3_init (wsX6_init) := ggX3_init_X6_init
theorem dX3_init_0 : decode cX3_init 0 = .ok (.aload_n 0, 1) := by decide +kernel
theorem dX3_init_1 : decode cX3_init 1 = .ok (.invokespecial 1, 3) := by decide +kernel
theorem dX3_init_4 : decode cX3_init 4 = .ok (.aload_n 0, 1) := by decide +kernel
theorem dX3_init_5 : decode cX3_init 5 = .ok (.new 7, 3) := by decide +kernel
theorem dX3_init_8 : decode cX3_init 8 = .ok (.dup, 1) := by decide +kernel
theorem dX3_init_9 : decode cX3_init 9 = .ok (.iload_n 1, 1) := by decide +kernel
theorem dX3_init_10 : decode cX3_init 10 = .ok (.iload_n 2, 1) := by decide +kernel
theorem dX3_init_11 : decode cX3_init 11 = .ok (.invokespecial 9, 3) := by decide +kernel
theorem dX3_init_14 : decode cX3_init 14 = .ok (.putfield 12, 3) := by decide +kernel
theorem dX3_init_17 : decode cX3_init 17 = .ok (.aload_n 0, 1) := by decide +kernel
theorem dX3_init_18 : decode cX3_init 18 = .ok (.new 18, 3) := by decide +kernel
theorem dX3_init_21 : decode cX3_init 21 = .ok (.dup, 1) := by decide +kernel
theorem dX3_init_22 : decode cX3_init 22 = .ok (.iload_n 1, 1) := by decide +kernel
theorem dX3_init_23 : decode cX3_init 23 = .ok (.iload_n 3, 1) := by decide +kernel
theorem dX3_init_24 : decode cX3_init 24 = .ok (.invokespecial 20, 3) := by decide +kernel
theorem dX3_init_27 : decode cX3_init 27 = .ok (.putfield 23, 3) := by decide +kernel
theorem dX3_init_30 : decode cX3_init 30 = .ok (.return_, 1) := by decide +kernel
theorem dX4_init_0 : decode cX4_init 0 = .ok (.aload_n 0, 1) := by decide +kernel
theorem dX4_init_1 : decode cX4_init 1 = .ok (.invokespecial 1, 3) := by decide +kernel
theorem dX4_init_4 : decode cX4_init 4 = .ok (.aload_n 0, 1) := by decide +kernel
theorem dX4_init_5 : decode cX4_init 5 = .ok (.iconst 4, 1) := by decide +kernel
theorem dX4_init_6 : decode cX4_init 6 = .ok (.newarray .long, 2) := by decide +kernel
theorem dX4_init_8 : decode cX4_init 8 = .ok (.putfield 7, 3) := by decide +kernel
theorem dX4_init_11 : decode cX4_init 11 = .ok (.return_, 1) := by decide +kernel
theorem dX4_has_0 : decode cX4_has 0 = .ok (.aload_n 0, 1) := by decide +kernel
theorem dX4_has_1 : decode cX4_has 1 = .ok (.getfield 7, 3) := by decide +kernel
theorem dX4_has_4 : decode cX4_has 4 = .ok (.iload_n 1, 1) := by decide +kernel
theorem dX4_has_5 : decode cX4_has 5 = .ok (.bipush 6, 2) := by decide +kernel
theorem dX4_has_7 : decode cX4_has 7 = .ok (.ishr, 1) := by decide +kernel
theorem dX4_has_8 : decode cX4_has 8 = .ok (.iconst 3, 1) := by decide +kernel
theorem dX4_has_9 : decode cX4_has 9 = .ok (.iand, 1) := by decide +kernel
theorem dX4_has_10 : decode cX4_has 10 = .ok (.laload, 1) := by decide +kernel
theorem dX4_has_11 : decode cX4_has 11 = .ok (.iload_n 1, 1) := by decide +kernel
theorem dX4_has_12 : decode cX4_has 12 = .ok (.bipush 63, 2) := by decide +kernel
theorem dX4_has_14 : decode cX4_has 14 = .ok (.iand, 1) := by decide +kernel
theorem dX4_has_15 : decode cX4_has 15 = .ok (.lushr, 1) := by decide +kernel
theorem dX4_has_16 : decode cX4_has 16 = .ok (.lconst 1, 1) := by decide +kernel
theorem dX4_has_17 : decode cX4_has 17 = .ok (.land, 1) := by decide +kernel
theorem dX4_has_18 : decode cX4_has 18 = .ok (.lconst 0, 1) := by decide +kernel
theorem dX4_has_19 : decode cX4_has 19 = .ok (.lcmp, 1) := by decide +kernel
theorem dX4_has_20 : decode cX4_has 20 = .ok (.ifCond .eq 7, 3) := by decide +kernel
theorem dX4_has_23 : decode cX4_has 23 = .ok (.iconst 1, 1) := by decide +kernel
theorem dX4_has_24 : decode cX4_has 24 = .ok (.goto 4, 3) := by decide +kernel
theorem dX4_has_27 : decode cX4_has 27 = .ok (.iconst 0, 1) := by decide +kernel
theorem dX4_has_28 : decode cX4_has 28 = .ok (.ireturn, 1) := by decide +kernel
theorem dX4_put_0 : decode cX4_put 0 = .ok (.aload_n 0, 1) := by decide +kernel
theorem dX4_put_1 : decode cX4_put 1 = .ok (.getfield 7, 3) := by decide +kernel
theorem dX4_put_4 : decode cX4_put 4 = .ok (.iload_n 1, 1) := by decide +kernel
theorem dX4_put_5 : decode cX4_put 5 = .ok (.bipush 6, 2) := by decide +kernel
theorem dX4_put_7 : decode cX4_put 7 = .ok (.ishr, 1) := by decide +kernel
theorem dX4_put_8 : decode cX4_put 8 = .ok (.iconst 3, 1) := by decide +kernel
theorem dX4_put_9 : decode cX4_put 9 = .ok (.iand, 1) := by decide +kernel
theorem dX4_put_10 : decode cX4_put 10 = .ok (.dup2, 1) := by decide +kernel
theorem dX4_put_11 : decode cX4_put 11 = .ok (.laload, 1) := by decide +kernel
theorem dX4_put_12 : decode cX4_put 12 = .ok (.lconst 1, 1) := by decide +kernel
theorem dX4_put_13 : decode cX4_put 13 = .ok (.iload_n 1, 1) := by decide +kernel
theorem dX4_put_14 : decode cX4_put 14 = .ok (.bipush 63, 2) := by decide +kernel
theorem dX4_put_16 : decode cX4_put 16 = .ok (.iand, 1) := by decide +kernel
theorem dX4_put_17 : decode cX4_put 17 = .ok (.lshl, 1) := by decide +kernel
theorem dX4_put_18 : decode cX4_put 18 = .ok (.lor, 1) := by decide +kernel
theorem dX4_put_19 : decode cX4_put 19 = .ok (.lastore, 1) := by decide +kernel
theorem dX4_put_20 : decode cX4_put 20 = .ok (.return_, 1) := by decide +kernel
theorem dX4_drop_0 : decode cX4_drop 0 = .ok (.aload_n 0, 1) := by decide +kernel
theorem dX4_drop_1 : decode cX4_drop 1 = .ok (.getfield 7, 3) := by decide +kernel
theorem dX4_drop_4 : decode cX4_drop 4 = .ok (.iload_n 1, 1) := by decide +kernel
theorem dX4_drop_5 : decode cX4_drop 5 = .ok (.bipush 6, 2) := by decide +kernel
theorem dX4_drop_7 : decode cX4_drop 7 = .ok (.ishr, 1) := by decide +kernel
theorem dX4_drop_8 : decode cX4_drop 8 = .ok (.iconst 3, 1) := by decide +kernel
theorem dX4_drop_9 : decode cX4_drop 9 = .ok (.iand, 1) := by decide +kernel
theorem dX4_drop_10 : decode cX4_drop 10 = .ok (.dup2, 1) := by decide +kernel
theorem dX4_drop_11 : decode cX4_drop 11 = .ok (.laload, 1) := by decide +kernel
theorem dX4_drop_12 : decode cX4_drop 12 = .ok (.lconst 1, 1) := by decide +kernel
theorem dX4_drop_13 : decode cX4_drop 13 = .ok (.iload_n 1, 1) := by decide +kernel
theorem dX4_drop_14 : decode cX4_drop 14 = .ok (.bipush 63, 2) := by decide +kernel
theorem dX4_drop_16 : decode cX4_drop 16 = .ok (.iand, 1) := by decide +kernel
theorem dX4_drop_17 : decode cX4_drop 17 = .ok (.lshl, 1) := by decide +kernel
theorem dX4_drop_18 : decode cX4_drop 18 = .ok (.ldc2_w 13, 3) := by decide +kernel
theorem dX4_drop_21 : decode cX4_drop 21 = .ok (.lxor, 1) := by decide +kernel
theorem dX4_drop_22 : decode cX4_drop 22 = .ok (.land, 1) := by decide +kernel
theorem dX4_drop_23 : decode cX4_drop 23 = .ok (.lastore, 1) := by decide +kernel
theorem dX4_drop_24 : decode cX4_drop 24 = .ok (.return_, 1) := by decide +kernel
theorem dX4_clear_0 : decode cX4_clear 0 = .ok (.iconst 0, 1) := by decide +kernel
theorem dX4_clear_1 : decode cX4_clear 1 = .ok (.istore_n 1, 1) := by decide +kernel
theorem dX4_clear_2 : decode cX4_clear 2 = .ok (.iload_n 1, 1) := by decide +kernel
theorem dX4_clear_3 : decode cX4_clear 3 = .ok (.aload_n 0, 1) := by decide +kernel
theorem dX4_clear_4 : decode cX4_clear 4 = .ok (.getfield 7, 3) := by decide +kernel
theorem dX4_clear_7 : decode cX4_clear 7 = .ok (.arraylength, 1) := by decide +kernel
theorem dX4_clear_8 : decode cX4_clear 8 = .ok (.if_icmp .ge 16, 3) := by decide +kernel
theorem dX4_clear_11 : decode cX4_clear 11 = .ok (.aload_n 0, 1) := by decide +kernel
theorem dX4_clear_12 : decode cX4_clear 12 = .ok (.getfield 7, 3) := by decide +kernel
theorem dX4_clear_15 : decode cX4_clear 15 = .ok (.iload_n 1, 1) := by decide +kernel
theorem dX4_clear_16 : decode cX4_clear 16 = .ok (.lconst 0, 1) := by decide +kernel
theorem dX4_clear_17 : decode cX4_clear 17 = .ok (.lastore, 1) := by decide +kernel
theorem dX4_clear_18 : decode cX4_clear 18 = .ok (.iinc 1 1, 3) := by decide +kernel
theorem dX4_clear_21 : decode cX4_clear 21 = .ok (.goto (-19), 3) := by decide +kernel
theorem dX4_clear_24 : decode cX4_clear 24 = .ok (.return_, 1) := by decide +kernel
theorem dX4_isEmpty_0 : decode cX4_isEmpty 0 = .ok (.aload_n 0, 1) := by decide +kernel
theorem dX4_isEmpty_1 : decode cX4_isEmpty 1 = .ok (.getfield 7, 3) := by decide +kernel
theorem dX4_isEmpty_4 : decode cX4_isEmpty 4 = .ok (.iconst 0, 1) := by decide +kernel
theorem dX4_isEmpty_5 : decode cX4_isEmpty 5 = .ok (.laload, 1) := by decide +kernel
theorem dX4_isEmpty_6 : decode cX4_isEmpty 6 = .ok (.aload_n 0, 1) := by decide +kernel
theorem dX4_isEmpty_7 : decode cX4_isEmpty 7 = .ok (.getfield 7, 3) := by decide +kernel
theorem dX4_isEmpty_10 : decode cX4_isEmpty 10 = .ok (.iconst 1, 1) := by decide +kernel
theorem dX4_isEmpty_11 : decode cX4_isEmpty 11 = .ok (.laload, 1) := by decide +kernel
theorem dX4_isEmpty_12 : decode cX4_isEmpty 12 = .ok (.lor, 1) := by decide +kernel
theorem dX4_isEmpty_13 : decode cX4_isEmpty 13 = .ok (.aload_n 0, 1) := by decide +kernel
theorem dX4_isEmpty_14 : decode cX4_isEmpty 14 = .ok (.getfield 7, 3) := by decide +kernel
theorem dX4_isEmpty_17 : decode cX4_isEmpty 17 = .ok (.iconst 2, 1) := by decide +kernel
theorem dX4_isEmpty_18 : decode cX4_isEmpty 18 = .ok (.laload, 1) := by decide +kernel
theorem dX4_isEmpty_19 : decode cX4_isEmpty 19 = .ok (.lor, 1) := by decide +kernel
theorem dX4_isEmpty_20 : decode cX4_isEmpty 20 = .ok (.aload_n 0, 1) := by decide +kernel
theorem dX4_isEmpty_21 : decode cX4_isEmpty 21 = .ok (.getfield 7, 3) := by decide +kernel
theorem dX4_isEmpty_24 : decode cX4_isEmpty 24 = .ok (.iconst 3, 1) := by decide +kernel
theorem dX4_isEmpty_25 : decode cX4_isEmpty 25 = .ok (.laload, 1) := by decide +kernel
theorem dX4_isEmpty_26 : decode cX4_isEmpty 26 = .ok (.lor, 1) := by decide +kernel
theorem dX4_isEmpty_27 : decode cX4_isEmpty 27 = .ok (.lconst 0, 1) := by decide +kernel
theorem dX4_isEmpty_28 : decode cX4_isEmpty 28 = .ok (.lcmp, 1) := by decide +kernel
theorem dX4_isEmpty_29 : decode cX4_isEmpty 29 = .ok (.ifCond .ne 7, 3) := by decide +kernel
theorem dX4_isEmpty_32 : decode cX4_isEmpty 32 = .ok (.iconst 1, 1) := by decide +kernel
theorem dX4_isEmpty_33 : decode cX4_isEmpty 33 = .ok (.goto 4, 3) := by decide +kernel
theorem dX4_isEmpty_36 : decode cX4_isEmpty 36 = .ok (.iconst 0, 1) := by decide +kernel
theorem dX4_isEmpty_37 : decode cX4_isEmpty 37 = .ok (.ireturn, 1) := by decide +kernel
theorem dX4_writeTo_0 : decode cX4_writeTo 0 = .ok (.iconst 0, 1) := by decide +kernel
theorem dX4_writeTo_1 : decode cX4_writeTo 1 = .ok (.istore_n 2, 1) := by decide +kernel
theorem dX4_writeTo_2 : decode cX4_writeTo 2 = .ok (.iload_n 2, 1) := by decide +kernel
theorem dX4_writeTo_3 : decode cX4_writeTo 3 = .ok (.aload_n 0, 1) := by decide +kernel
theorem dX4_writeTo_4 : decode cX4_writeTo 4 = .ok (.getfield 7, 3) := by decide +kernel
theorem dX4_writeTo_7 : decode cX4_writeTo 7 = .ok (.arraylength, 1) := by decide +kernel
theorem dX4_writeTo_8 : decode cX4_writeTo 8 = .ok (.if_icmp .ge 24, 3) := by decide +kernel
theorem dX4_writeTo_11 : decode cX4_writeTo 11 = .ok (.iload_n 2, 1) := by decide +kernel
theorem dX4_writeTo_12 : decode cX4_writeTo 12 = .ok (.aload_n 1, 1) := by decide +kernel
theorem dX4_writeTo_13 : decode cX4_writeTo 13 = .ok (.arraylength, 1) := by decide +kernel
theorem dX4_writeTo_14 : decode cX4_writeTo 14 = .ok (.if_icmp .ge 18, 3) := by decide +kernel
theorem dX4_writeTo_17 : decode cX4_writeTo 17 = .ok (.aload_n 1, 1) := by decide +kernel
theorem dX4_writeTo_18 : decode cX4_writeTo 18 = .ok (.iload_n 2, 1) := by decide +kernel
theorem dX4_writeTo_19 : decode cX4_writeTo 19 = .ok (.aload_n 0, 1) := by decide +kernel
theorem dX4_writeTo_20 : decode cX4_writeTo 20 = .ok (.getfield 7, 3) := by decide +kernel
theorem dX4_writeTo_23 : decode cX4_writeTo 23 = .ok (.iload_n 2, 1) := by decide +kernel
theorem dX4_writeTo_24 : decode cX4_writeTo 24 = .ok (.laload, 1) := by decide +kernel
theorem dX4_writeTo_25 : decode cX4_writeTo 25 = .ok (.lastore, 1) := by decide +kernel
theorem dX4_writeTo_26 : decode cX4_writeTo 26 = .ok (.iinc 2 1, 3) := by decide +kernel
theorem dX4_writeTo_29 : decode cX4_writeTo 29 = .ok (.goto (-27), 3) := by decide +kernel
theorem dX4_writeTo_32 : decode cX4_writeTo 32 = .ok (.return_, 1) := by decide +kernel
theorem dX4_readFrom_0 : decode cX4_readFrom 0 = .ok (.iconst 0, 1) := by decide +kernel
theorem dX4_readFrom_1 : decode cX4_readFrom 1 = .ok (.istore_n 2, 1) := by decide +kernel
theorem dX4_readFrom_2 : decode cX4_readFrom 2 = .ok (.iload_n 2, 1) := by decide +kernel
theorem dX4_readFrom_3 : decode cX4_readFrom 3 = .ok (.aload_n 0, 1) := by decide +kernel
theorem dX4_readFrom_4 : decode cX4_readFrom 4 = .ok (.getfield 7, 3) := by decide +kernel
theorem dX4_readFrom_7 : decode cX4_readFrom 7 = .ok (.arraylength, 1) := by decide +kernel
theorem dX4_readFrom_8 : decode cX4_readFrom 8 = .ok (.if_icmp .ge 24, 3) := by decide +kernel
theorem dX4_readFrom_11 : decode cX4_readFrom 11 = .ok (.iload_n 2, 1) := by decide +kernel
theorem dX4_readFrom_12 : decode cX4_readFrom 12 = .ok (.aload_n 1, 1) := by decide +kernel
theorem dX4_readFrom_13 : decode cX4_readFrom 13 = .ok (.arraylength, 1) := by decide +kernel
theorem dX4_readFrom_14 : decode cX4_readFrom 14 = .ok (.if_icmp .ge 18, 3) := by decide +kernel
theorem dX4_readFrom_17 : decode cX4_readFrom 17 = .ok (.aload_n 0, 1) := by decide +kernel
theorem dX4_readFrom_18 : decode cX4_readFrom 18 = .ok (.getfield 7, 3) := by decide +kernel
theorem dX4_readFrom_21 : decode cX4_readFrom 21 = .ok (.iload_n 2, 1) := by decide +kernel
theorem dX4_readFrom_22 : decode cX4_readFrom 22 = .ok (.aload_n 1, 1) := by decide +kernel
theorem dX4_readFrom_23 : decode cX4_readFrom 23 = .ok (.iload_n 2, 1) := by decide +kernel
theorem dX4_readFrom_24 : decode cX4_readFrom 24 = .ok (.laload, 1) := by decide +kernel
theorem dX4_readFrom_25 : decode cX4_readFrom 25 = .ok (.lastore, 1) := by decide +kernel
theorem dX4_readFrom_26 : decode cX4_readFrom 26 = .ok (.iinc 2 1, 3) := by decide +kernel
theorem dX4_readFrom_29 : decode cX4_readFrom 29 = .ok (.goto (-27), 3) := by decide +kernel
theorem dX4_readFrom_32 : decode cX4_readFrom 32 = .ok (.return_, 1) := by decide +kernel
theorem dX5_init_0 : decode cX5_init 0 = .ok (.aload_n 0, 1) := by decide +kernel
theorem dX5_init_1 : decode cX5_init 1 = .ok (.invokespecial 1, 3) := by decide +kernel
theorem dX5_init_4 : decode cX5_init 4 = .ok (.aload_n 0, 1) := by decide +kernel
theorem dX5_init_5 : decode cX5_init 5 = .ok (.iconst 4, 1) := by decide +kernel
theorem dX5_init_6 : decode cX5_init 6 = .ok (.newarray .long, 2) := by decide +kernel
theorem dX5_init_8 : decode cX5_init 8 = .ok (.putfield 7, 3) := by decide +kernel
theorem dX5_init_11 : decode cX5_init 11 = .ok (.return_, 1) := by decide +kernel
set_option maxRecDepth 20000 in
theorem ggX6_init_X4_init : GoodIn wsX6_init wsX4_init := goodIn_r _ [13, 14, 2, 3, 15, 16, 28] (by decide +kernel) (by decide +kernel)
set_option maxRecDepth 20000 in
theorem gX6_init_X4_init_n17 : GoodIn wsX6_init (wsX4_init) := ggX6_init_X4_init
theorem dX6_init_0 : decode cX6_init 0 = .ok (.aload_n 0, 1) := by decide +kernel
theorem dX6_init_1 : decode cX6_init 1 = .ok (.invokespecial 3, 3) := by decide +kernel
theorem dX6_init_4 : decode cX6_init 4 = .ok (.aload_n 0, 1) := by decide +kernel
theorem dX6_init_5 : decode cX6_init 5 = .ok (.bipush 40, 2) := by decide +kernel
theorem dX6_init_7 : decode cX6_init 7 = .ok (.putfield 9, 3) := by decide +kernel
theorem dX6_init_10 : decode cX6_init 10 = .ok (.aload_n 0, 1) := by decide +kernel
theorem dX6_init_11 : decode cX6_init 11 = .ok (.new 15, 3) := by decide +kernel
theorem dX6_init_14 : decode cX6_init 14 = .ok (.dup, 1) := by decide +kernel
theorem dX6_init_15 : decode cX6_init 15 = .ok (.invokespecial 17, 3) := by decide +kernel
theorem dX6_init_18 : decode cX6_init 18 = .ok (.putfield 18, 3) := by decide +kernel
theorem dX6_init_21 : decode cX6_init 21 = .ok (.aload_n 0, 1) := by decide +kernel
theorem dX6_init_22 : decode cX6_init 22 = .ok (.iconst (-1), 1) := by decide +kernel
theorem dX6_init_23 : decode cX6_init 23 = .ok (.putfield 22, 3) := by decide +kernel
theorem dX6_init_26 : decode cX6_init 26 = .ok (.aload_n 0, 1) := by decide +kernel
theorem dX6_init_27 : decode cX6_init 27 = .ok (.iload_n 1, 1) := by decide +kernel
theorem dX6_init_28 : decode cX6_init 28 = .ok (.putfield 25, 3) := by decide +kernel
theorem dX6_init_31 : decode cX6_init 31 = .ok (.aload_n 0, 1) := by decide +kernel
theorem dX6_init_32 : decode cX6_init 32 = .ok (.iload_n 2, 1) := by decide +kernel
theorem dX6_init_33 : decode cX6_init 33 = .ok (.putfield 28, 3) := by decide +kernel
theorem dX6_init_36 : decode cX6_init 36 = .ok (.return_, 1) := by decide +kernel
theorem dX6_changeWindow_0 : decode cX6_changeWindow 0 = .ok (.aload_n 0, 1) := by decide +kernel
theorem dX6_changeWindow_1 : decode cX6_changeWindow 1 = .ok (.getfield 9, 3) := by decide +kernel
theorem dX6_changeWindow_4 : decode cX6_changeWindow 4 = .ok (.istore_n 2, 1) := by decide +kernel
theorem dX6_changeWindow_5 : decode cX6_changeWindow 5 = .ok (.iload_n 1, 1) := by decide +kernel
theorem dX6_changeWindow_6 : decode cX6_changeWindow 6 = .ok (.iload_n 2, 1) := by decide +kernel
theorem dX6_changeWindow_7 : decode cX6_changeWindow 7 = .ok (.if_icmp .eq 13, 3) := by decide +kernel
theorem dX6_changeWindow_10 : decode cX6_changeWindow 10 = .ok (.aload_n 0, 1) := by decide +kernel
theorem dX6_changeWindow_11 : decode cX6_changeWindow 11 = .ok (.iload_n 1, 1) := by decide +kernel
theorem dX6_changeWindow_12 : decode cX6_changeWindow 12 = .ok (.putfield 9, 3) := by decide +kernel
theorem dX6_changeWindow_15 : decode cX6_changeWindow 15 = .ok (.aload_n 0, 1) := by decide +kernel
theorem dX6_changeWindow_16 : decode cX6_changeWindow 16 = .ok (.iconst 1, 1) := by decide +kernel
theorem dX6_changeWindow_17 : decode cX6_changeWindow 17 = .ok (.putfield 32, 3) := by decide +kernel
theorem dX6_changeWindow_20 : decode cX6_changeWindow 20 = .ok (.iload_n 2, 1) := by decide +kernel
theorem dX6_changeWindow_21 : decode cX6_changeWindow 21 = .ok (.ireturn, 1) := by decide +kernel
set_option maxRecDepth 20000 in
theorem ggX6_take_X6_goOn : GoodIn wsX6_take wsX6_goOn := goodIn_r _ [13, 1, 4, 7, 14, 15, 16, 17, 18, 19, 20, 21, 22, 23, 24, 79, 80, 81, 82, 83, 84, 85, 86, 87, 88, 89, 90] (by decide +kernel) (by decide +kernel)
set_option maxRecDepth 20000 in
theorem gX6_take_X6_goOn : GoodIn wsX6_take (wsV RX6 47 RX6 yX6_goOn wsX6_goOn) := goodIn_app (goodIn_of _ (by decide +kernel)) ggX6_take_X6_goOn
set_option maxRecDepth 20000 in
theorem ggX6_take_X4_has : GoodIn wsX6_take wsX4_has := goodIn_r _ [18, 19, 90] (by decide +kernel) (by decide +kernel)
set_option maxRecDepth 20000 in
theorem gX6_take_X4_has : GoodIn wsX6_take (wsV RX6 50 RX4 yX4_has wsX4_has) := goodIn_app (goodIn_of _ (by decide +kernel)) ggX6_take_X4_has
set_option maxRecDepth 20000 in
theorem ggX6_take_X4_put : GoodIn wsX6_take wsX4_put := goodIn_r _ [28, 19, 90] (by decide +kernel) (by decide +kernel)
set_option maxRecDepth 20000 in
theorem gX6_take_X4_put : GoodIn wsX6_take (wsV RX6 54 RX4 yX4_put wsX4_put) := goodIn_app (goodIn_of _ (by decide +kernel)) ggX6_take_X4_put
set_option maxRecDepth 20000 in
theorem ggX6_take_X6_answer : GoodIn wsX6_take wsX6_answer := goodIn_r _ [32, 5, 33, 34, 35, 36, 37, 38, 39, 40, 41, 42, 43, 44, 45, 46, 47, 48, 49, 50, 51, 52, 53, 54, 55, 56, 57, 58, 59, 60, 61, 62, 17, 63, 19, 64, 65, 66, 67, 68, 69, 70, 71, 79, 80, 81, 82, 83, 84, 85, 86, 87, 88, 89, 91, 92, 93, 94, 95, 96, 97, 98, 99, 100, 101, 102, 103, 104, 105, 72, 73, 74, 75, 76, 77, 78, 106, 107, 108, 90] (by decide +kernel) (by decide +kernel)
set_option maxRecDepth 20000 in
theorem gX6_take_X6_answer : GoodIn wsX6_take (wsV RX6 64 RX6 yX6_answer wsX6_answer) := goodIn_app (goodIn_of _ (by decide +kernel)) ggX6_take_X6_answer
theorem dX6_take_0 : decode cX6_take 0 = .ok (.aload_n 1, 1) := by decide +kernel
theorem dX6_take_1 : decode cX6_take 1 = .ok (.getfield 35, 3) := by decide +kernel
theorem dX6_take_4 : decode cX6_take 4 = .ok (.istore 4, 2) := by decide +kernel
theorem dX6_take_6 : decode cX6_take 6 = .ok (.iload 4, 2) := by decide +kernel
theorem dX6_take_8 : decode cX6_take 8 = .ok (.aload_n 0, 1) := by decide +kernel
theorem dX6_take_9 : decode cX6_take 9 = .ok (.getfield 38, 3) := by decide +kernel
theorem dX6_take_12 : decode cX6_take 12 = .ok (.if_icmp .lt 21, 3) := by decide +kernel
theorem dX6_take_15 : decode cX6_take 15 = .ok (.iload 4, 2) := by decide +kernel
theorem dX6_take_17 : decode cX6_take 17 = .ok (.aload_n 0, 1) := by decide +kernel
theorem dX6_take_18 : decode cX6_take 18 = .ok (.getfield 38, 3) := by decide +kernel
theorem dX6_take_21 : decode cX6_take 21 = .ok (.aload_n 0, 1) := by decide +kernel
theorem dX6_take_22 : decode cX6_take 22 = .ok (.getfield 9, 3) := by decide +kernel
theorem dX6_take_25 : decode cX6_take 25 = .ok (.iadd, 1) := by decide +kernel
theorem dX6_take_26 : decode cX6_take 26 = .ok (.if_icmp .ge 7, 3) := by decide +kernel
theorem dX6_take_29 : decode cX6_take 29 = .ok (.iconst 1, 1) := by decide +kernel
theorem dX6_take_30 : decode cX6_take 30 = .ok (.goto 4, 3) := by decide +kernel
theorem dX6_take_33 : decode cX6_take 33 = .ok (.iconst 0, 1) := by decide +kernel
theorem dX6_take_34 : decode cX6_take 34 = .ok (.istore 5, 2) := by decide +kernel
theorem dX6_take_36 : decode cX6_take 36 = .ok (.iload 5, 2) := by decide +kernel
theorem dX6_take_38 : decode cX6_take 38 = .ok (.ifCond .eq 16, 3) := by decide +kernel
theorem dX6_take_41 : decode cX6_take 41 = .ok (.iload 4, 2) := by decide +kernel
theorem dX6_take_43 : decode cX6_take 43 = .ok (.aload_n 0, 1) := by decide +kernel
theorem dX6_take_44 : decode cX6_take 44 = .ok (.getfield 38, 3) := by decide +kernel
theorem dX6_take_47 : decode cX6_take 47 = .ok (.if_icmp .ne 7, 3) := by decide +kernel
theorem dX6_take_50 : decode cX6_take 50 = .ok (.iconst 1, 1) := by decide +kernel
theorem dX6_take_51 : decode cX6_take 51 = .ok (.goto 4, 3) := by decide +kernel
theorem dX6_take_54 : decode cX6_take 54 = .ok (.iconst 0, 1) := by decide +kernel
theorem dX6_take_55 : decode cX6_take 55 = .ok (.istore 6, 2) := by decide +kernel
theorem dX6_take_57 : decode cX6_take 57 = .ok (.aload_n 0, 1) := by decide +kernel
theorem dX6_take_58 : decode cX6_take 58 = .ok (.getfield 28, 3) := by decide +kernel
theorem dX6_take_61 : decode cX6_take 61 = .ok (.ifCond .eq 27, 3) := by decide +kernel
theorem dX6_take_64 : decode cX6_take 64 = .ok (.iload 6, 2) := by decide +kernel
theorem dX6_take_66 : decode cX6_take 66 = .ok (.ifCond .eq 22, 3) := by decide +kernel
theorem dX6_take_69 : decode cX6_take 69 = .ok (.aload_n 0, 1) := by decide +kernel
theorem dX6_take_70 : decode cX6_take 70 = .ok (.getfield 41, 3) := by decide +kernel
theorem dX6_take_73 : decode cX6_take 73 = .ok (.ifCond .ne 15, 3) := by decide +kernel
theorem dX6_take_76 : decode cX6_take 76 = .ok (.aload_n 0, 1) := by decide +kernel
theorem dX6_take_77 : decode cX6_take 77 = .ok (.getfield 22, 3) := by decide +kernel
theorem dX6_take_80 : decode cX6_take 80 = .ok (.iconst (-1), 1) := by decide +kernel
theorem dX6_take_81 : decode cX6_take 81 = .ok (.if_icmp .ne 7, 3) := by decide +kernel
theorem dX6_take_84 : decode cX6_take 84 = .ok (.iconst 1, 1) := by decide +kernel
theorem dX6_take_85 : decode cX6_take 85 = .ok (.goto 4, 3) := by decide +kernel
theorem dX6_take_88 : decode cX6_take 88 = .ok (.iconst 0, 1) := by decide +kernel
