theorem dX9_noteTold_0 : decode cX9_noteTold 0 = .ok (.aload_n 0, 1) := by decide +kernel
theorem dX9_noteTold_1 : decode cX9_noteTold 1 = .ok (.getfield 18, 3) := by decide +kernel
theorem dX9_noteTold_4 : decode cX9_noteTold 4 = .ok (.iconst (-1), 1) := by decide +kernel
theorem dX9_noteTold_5 : decode cX9_noteTold 5 = .ok (.if_icmp .eq 26, 3) := by decide +kernel
theorem dX9_noteTold_8 : decode cX9_noteTold 8 = .ok (.iload_n 1, 1) := by decide +kernel
theorem dX9_noteTold_9 : decode cX9_noteTold 9 = .ok (.aload_n 0, 1) := by decide +kernel
theorem dX9_noteTold_10 : decode cX9_noteTold 10 = .ok (.getfield 18, 3) := by decide +kernel
theorem dX9_noteTold_13 : decode cX9_noteTold 13 = .ok (.if_icmp .le 18, 3) := by decide +kernel
theorem dX9_noteTold_16 : decode cX9_noteTold 16 = .ok (.aload_n 0, 1) := by decide +kernel
theorem dX9_noteTold_17 : decode cX9_noteTold 17 = .ok (.iconst (-1), 1) := by decide +kernel
theorem dX9_noteTold_18 : decode cX9_noteTold 18 = .ok (.putfield 18, 3) := by decide +kernel
theorem dX9_noteTold_21 : decode cX9_noteTold 21 = .ok (.aload_n 0, 1) := by decide +kernel
theorem dX9_noteTold_22 : decode cX9_noteTold 22 = .ok (.iload_n 2, 1) := by decide +kernel
theorem dX9_noteTold_23 : decode cX9_noteTold 23 = .ok (.aload_n 0, 1) := by decide +kernel
theorem dX9_noteTold_24 : decode cX9_noteTold 24 = .ok (.getfield 32, 3) := by decide +kernel
theorem dX9_noteTold_27 : decode cX9_noteTold 27 = .ok (.isub, 1) := by decide +kernel
theorem dX9_noteTold_28 : decode cX9_noteTold 28 = .ok (.invokevirtual 38, 3) := by decide +kernel
theorem dX9_noteTold_31 : decode cX9_noteTold 31 = .ok (.return_, 1) := by decide +kernel
theorem dX9_learn_0 : decode cX9_learn 0 = .ok (.aload_n 0, 1) := by decide +kernel
theorem dX9_learn_1 : decode cX9_learn 1 = .ok (.getfield 41, 3) := by decide +kernel
theorem dX9_learn_4 : decode cX9_learn 4 = .ok (.ifCond .ne 21, 3) := by decide +kernel
theorem dX9_learn_7 : decode cX9_learn 7 = .ok (.aload_n 0, 1) := by decide +kernel
theorem dX9_learn_8 : decode cX9_learn 8 = .ok (.bipush 8, 2) := by decide +kernel
theorem dX9_learn_10 : decode cX9_learn 10 = .ok (.iload_n 1, 1) := by decide +kernel
theorem dX9_learn_11 : decode cX9_learn 11 = .ok (.imul, 1) := by decide +kernel
theorem dX9_learn_12 : decode cX9_learn 12 = .ok (.putfield 41, 3) := by decide +kernel
theorem dX9_learn_15 : decode cX9_learn 15 = .ok (.aload_n 0, 1) := by decide +kernel
theorem dX9_learn_16 : decode cX9_learn 16 = .ok (.iconst 2, 1) := by decide +kernel
theorem dX9_learn_17 : decode cX9_learn 17 = .ok (.iload_n 1, 1) := by decide +kernel
theorem dX9_learn_18 : decode cX9_learn 18 = .ok (.imul, 1) := by decide +kernel
theorem dX9_learn_19 : decode cX9_learn 19 = .ok (.putfield 44, 3) := by decide +kernel
theorem dX9_learn_22 : decode cX9_learn 22 = .ok (.goto 49, 3) := by decide +kernel
theorem dX9_learn_25 : decode cX9_learn 25 = .ok (.aload_n 0, 1) := by decide +kernel
theorem dX9_learn_26 : decode cX9_learn 26 = .ok (.aload_n 0, 1) := by decide +kernel
theorem dX9_learn_27 : decode cX9_learn 27 = .ok (.getfield 44, 3) := by decide +kernel
theorem dX9_learn_30 : decode cX9_learn 30 = .ok (.aload_n 0, 1) := by decide +kernel
theorem dX9_learn_31 : decode cX9_learn 31 = .ok (.getfield 44, 3) := by decide +kernel
theorem dX9_learn_34 : decode cX9_learn 34 = .ok (.iconst 4, 1) := by decide +kernel
theorem dX9_learn_35 : decode cX9_learn 35 = .ok (.idiv, 1) := by decide +kernel
theorem dX9_learn_36 : decode cX9_learn 36 = .ok (.isub, 1) := by decide +kernel
theorem dX9_learn_37 : decode cX9_learn 37 = .ok (.aload_n 0, 1) := by decide +kernel
theorem dX9_learn_38 : decode cX9_learn 38 = .ok (.getfield 41, 3) := by decide +kernel
theorem dX9_learn_41 : decode cX9_learn 41 = .ok (.bipush 8, 2) := by decide +kernel
theorem dX9_learn_43 : decode cX9_learn 43 = .ok (.idiv, 1) := by decide +kernel
theorem dX9_learn_44 : decode cX9_learn 44 = .ok (.iload_n 1, 1) := by decide +kernel
theorem dX9_learn_45 : decode cX9_learn 45 = .ok (.isub, 1) := by decide +kernel
theorem dX9_learn_46 : decode cX9_learn 46 = .ok (.invokestatic 47, 3) := by decide +kernel
theorem dX9_learn_49 : decode cX9_learn 49 = .ok (.iadd, 1) := by decide +kernel
theorem dX9_learn_50 : decode cX9_learn 50 = .ok (.putfield 44, 3) := by decide +kernel
theorem dX9_learn_53 : decode cX9_learn 53 = .ok (.aload_n 0, 1) := by decide +kernel
theorem dX9_learn_54 : decode cX9_learn 54 = .ok (.aload_n 0, 1) := by decide +kernel
theorem dX9_learn_55 : decode cX9_learn 55 = .ok (.getfield 41, 3) := by decide +kernel
theorem dX9_learn_58 : decode cX9_learn 58 = .ok (.aload_n 0, 1) := by decide +kernel
theorem dX9_learn_59 : decode cX9_learn 59 = .ok (.getfield 41, 3) := by decide +kernel
theorem dX9_learn_62 : decode cX9_learn 62 = .ok (.bipush 8, 2) := by decide +kernel
theorem dX9_learn_64 : decode cX9_learn 64 = .ok (.idiv, 1) := by decide +kernel
theorem dX9_learn_65 : decode cX9_learn 65 = .ok (.isub, 1) := by decide +kernel
theorem dX9_learn_66 : decode cX9_learn 66 = .ok (.iload_n 1, 1) := by decide +kernel
theorem dX9_learn_67 : decode cX9_learn 67 = .ok (.iadd, 1) := by decide +kernel
theorem dX9_learn_68 : decode cX9_learn 68 = .ok (.putfield 41, 3) := by decide +kernel
theorem dX9_learn_71 : decode cX9_learn 71 = .ok (.aload_n 0, 1) := by decide +kernel
theorem dX9_learn_72 : decode cX9_learn 72 = .ok (.getfield 41, 3) := by decide +kernel
theorem dX9_learn_75 : decode cX9_learn 75 = .ok (.bipush 8, 2) := by decide +kernel
theorem dX9_learn_77 : decode cX9_learn 77 = .ok (.idiv, 1) := by decide +kernel
theorem dX9_learn_78 : decode cX9_learn 78 = .ok (.iconst 1, 1) := by decide +kernel
theorem dX9_learn_79 : decode cX9_learn 79 = .ok (.aload_n 0, 1) := by decide +kernel
theorem dX9_learn_80 : decode cX9_learn 80 = .ok (.getfield 44, 3) := by decide +kernel
theorem dX9_learn_83 : decode cX9_learn 83 = .ok (.invokestatic 51, 3) := by decide +kernel
theorem dX9_learn_86 : decode cX9_learn 86 = .ok (.iadd, 1) := by decide +kernel
theorem dX9_learn_87 : decode cX9_learn 87 = .ok (.istore_n 2, 1) := by decide +kernel
theorem dX9_learn_88 : decode cX9_learn 88 = .ok (.aload_n 0, 1) := by decide +kernel
theorem dX9_learn_89 : decode cX9_learn 89 = .ok (.ldc 25, 2) := by decide +kernel
theorem dX9_learn_91 : decode cX9_learn 91 = .ok (.sipush 200, 3) := by decide +kernel
theorem dX9_learn_94 : decode cX9_learn 94 = .ok (.iload_n 2, 1) := by decide +kernel
theorem dX9_learn_95 : decode cX9_learn 95 = .ok (.invokestatic 51, 3) := by decide +kernel
theorem dX9_learn_98 : decode cX9_learn 98 = .ok (.invokestatic 26, 3) := by decide +kernel
theorem dX9_learn_101 : decode cX9_learn 101 = .ok (.putfield 9, 3) := by decide +kernel
theorem dX9_learn_104 : decode cX9_learn 104 = .ok (.return_, 1) := by decide +kernel
set_option maxRecDepth 20000 in
theorem ggX10_init_X7_init : GoodIn wsX10_init wsX7_init := goodIn_r _ [11, 12, 2, 3, 13, 14, 15, 16, 17, 18, 19, 20, 21, 22, 23, 24, 25, 26, 27, 28, 29, 30, 31, 32, 33, 34, 35, 36, 37, 38, 39, 40, 41, 42, 43, 47, 48, 49] (by decide +kernel) (by decide +kernel)
set_option maxRecDepth 20000 in
theorem gX10_init_X7_init_n9 : GoodIn wsX10_init (wsX7_init) := ggX10_init_X7_init
theorem dX10_init_0 : decode cX10_init 0 = .ok (.aload_n 0, 1) := by decide +kernel
theorem dX10_init_1 : decode cX10_init 1 = .ok (.invokespecial 1, 3) := by decide +kernel
theorem dX10_init_4 : decode cX10_init 4 = .ok (.aload_n 0, 1) := by decide +kernel
theorem dX10_init_5 : decode cX10_init 5 = .ok (.new 7, 3) := by decide +kernel
theorem dX10_init_8 : decode cX10_init 8 = .ok (.dup, 1) := by decide +kernel
theorem dX10_init_9 : decode cX10_init 9 = .ok (.invokespecial 9, 3) := by decide +kernel
theorem dX10_init_12 : decode cX10_init 12 = .ok (.putfield 10, 3) := by decide +kernel
theorem dX10_init_15 : decode cX10_init 15 = .ok (.aload_n 0, 1) := by decide +kernel
theorem dX10_init_16 : decode cX10_init 16 = .ok (.iconst 0, 1) := by decide +kernel
theorem dX10_init_17 : decode cX10_init 17 = .ok (.anewarray 16, 3) := by decide +kernel
theorem dX10_init_20 : decode cX10_init 20 = .ok (.putfield 18, 3) := by decide +kernel
theorem dX10_init_23 : decode cX10_init 23 = .ok (.return_, 1) := by decide +kernel
set_option maxRecDepth 20000 in
theorem ggX10_link_X10_within : GoodIn wsX10_link wsX10_within := goodIn_r _ [5] (by decide +kernel) (by decide +kernel)
set_option maxRecDepth 20000 in
theorem gX10_link_X10_within : GoodIn wsX10_link (va_wsS RX10 22 yX10_within wsX10_within) := goodIn_app (goodIn_of _ (by decide +kernel)) ggX10_link_X10_within
set_option maxRecDepth 20000 in
theorem ggX10_link_X7_set : GoodIn wsX10_link wsX7_set := goodIn_r _ [10, 11, 12, 13, 14, 18, 19, 20, 21, 22, 23, 24, 25, 26, 27, 28, 29, 30, 31, 32] (by decide +kernel) (by decide +kernel)
set_option maxRecDepth 20000 in
theorem gX10_link_X7_set : GoodIn wsX10_link (wsV RX10 26 RX7 yX7_set wsX7_set) := goodIn_app (goodIn_of _ (by decide +kernel)) ggX10_link_X7_set
theorem dX10_link_0 : decode cX10_link 0 = .ok (.iload_n 1, 1) := by decide +kernel
theorem dX10_link_1 : decode cX10_link 1 = .ok (.iconst 1, 1) := by decide +kernel
theorem dX10_link_2 : decode cX10_link 2 = .ok (.bipush 100, 2) := by decide +kernel
theorem dX10_link_4 : decode cX10_link 4 = .ok (.invokestatic 22, 3) := by decide +kernel
theorem dX10_link_7 : decode cX10_link 7 = .ok (.ifCond .eq 40, 3) := by decide +kernel
theorem dX10_link_10 : decode cX10_link 10 = .ok (.iload_n 2, 1) := by decide +kernel
theorem dX10_link_11 : decode cX10_link 11 = .ok (.iconst 0, 1) := by decide +kernel
theorem dX10_link_12 : decode cX10_link 12 = .ok (.bipush 100, 2) := by decide +kernel
theorem dX10_link_14 : decode cX10_link 14 = .ok (.invokestatic 22, 3) := by decide +kernel
theorem dX10_link_17 : decode cX10_link 17 = .ok (.ifCond .eq 30, 3) := by decide +kernel
theorem dX10_link_20 : decode cX10_link 20 = .ok (.iload_n 3, 1) := by decide +kernel
theorem dX10_link_21 : decode cX10_link 21 = .ok (.iconst 1, 1) := by decide +kernel
theorem dX10_link_22 : decode cX10_link 22 = .ok (.sipush 1000, 3) := by decide +kernel
theorem dX10_link_25 : decode cX10_link 25 = .ok (.invokestatic 22, 3) := by decide +kernel
theorem dX10_link_28 : decode cX10_link 28 = .ok (.ifCond .eq 19, 3) := by decide +kernel
theorem dX10_link_31 : decode cX10_link 31 = .ok (.iload 4, 2) := by decide +kernel
theorem dX10_link_33 : decode cX10_link 33 = .ok (.iconst 1, 1) := by decide +kernel
theorem dX10_link_34 : decode cX10_link 34 = .ok (.sipush 1000, 3) := by decide +kernel
theorem dX10_link_37 : decode cX10_link 37 = .ok (.invokestatic 22, 3) := by decide +kernel
theorem dX10_link_40 : decode cX10_link 40 = .ok (.ifCond .eq 7, 3) := by decide +kernel
theorem dX10_link_43 : decode cX10_link 43 = .ok (.iconst 1, 1) := by decide +kernel
theorem dX10_link_44 : decode cX10_link 44 = .ok (.goto 4, 3) := by decide +kernel
theorem dX10_link_47 : decode cX10_link 47 = .ok (.iconst 0, 1) := by decide +kernel
theorem dX10_link_48 : decode cX10_link 48 = .ok (.istore 5, 2) := by decide +kernel
theorem dX10_link_50 : decode cX10_link 50 = .ok (.iload 5, 2) := by decide +kernel
theorem dX10_link_52 : decode cX10_link 52 = .ok (.ifCond .eq 15, 3) := by decide +kernel
theorem dX10_link_55 : decode cX10_link 55 = .ok (.aload_n 0, 1) := by decide +kernel
theorem dX10_link_56 : decode cX10_link 56 = .ok (.getfield 10, 3) := by decide +kernel
theorem dX10_link_59 : decode cX10_link 59 = .ok (.iload_n 1, 1) := by decide +kernel
theorem dX10_link_60 : decode cX10_link 60 = .ok (.iload_n 2, 1) := by decide +kernel
theorem dX10_link_61 : decode cX10_link 61 = .ok (.iload_n 3, 1) := by decide +kernel
theorem dX10_link_62 : decode cX10_link 62 = .ok (.iload 4, 2) := by decide +kernel
theorem dX10_link_64 : decode cX10_link 64 = .ok (.invokevirtual 26, 3) := by decide +kernel
theorem dX10_link_67 : decode cX10_link 67 = .ok (.iload 5, 2) := by decide +kernel
theorem dX10_link_69 : decode cX10_link 69 = .ok (.ireturn, 1) := by decide +kernel
set_option maxRecDepth 20000 in
theorem ggX10_flow_X10_within : GoodIn wsX10_flow wsX10_within := goodIn_r _ [8] (by decide +kernel) (by decide +kernel)
set_option maxRecDepth 20000 in
theorem gX10_flow_X10_within : GoodIn wsX10_flow (va_wsS RX10 22 yX10_within wsX10_within) := goodIn_app (goodIn_of _ (by decide +kernel)) ggX10_flow_X10_within
set_option maxRecDepth 20000 in
theorem ggX10_flow_X3_init : GoodIn wsX10_flow wsX3_init := goodIn_r _ [11, 12, 13, 14, 15, 16, 17, 18, 19, 20, 21, 22, 23, 24, 25, 26, 27, 28, 29, 30, 31, 32, 33, 34, 35, 36, 37, 38, 39, 40, 41, 42, 43, 44, 45, 46, 47, 48, 49, 50, 51, 52, 53, 54, 55, 56, 57, 58, 59, 60, 61, 62, 63, 64, 65, 66, 67, 68, 69, 70, 71, 72, 73, 74, 75, 76, 77, 78, 79, 85, 86, 87, 88, 89, 90, 91, 92, 93, 94, 95, 96, 97, 98, 99, 100, 101, 102, 103, 104, 83, 84, 105, 106, 107, 108, 109, 110, 111, 112, 113, 114, 115, 116, 117, 118, 119, 120, 121, 122, 123, 124, 125, 126, 127, 128, 129, 130, 131] (by decide +kernel) (by decide +kernel)
set_option maxRecDepth 20000 in
theorem gX10_flow_X3_init : GoodIn wsX10_flow (wsX3_init) := ggX10_flow_X3_init
theorem dX10_flow_0 : decode cX10_flow 0 = .ok (.aload_n 0, 1) := by decide +kernel
theorem dX10_flow_1 : decode cX10_flow 1 = .ok (.getfield 18, 3) := by decide +kernel
theorem dX10_flow_4 : decode cX10_flow 4 = .ok (.arraylength, 1) := by decide +kernel
theorem dX10_flow_5 : decode cX10_flow 5 = .ok (.istore_n 3, 1) := by decide +kernel
theorem dX10_flow_6 : decode cX10_flow 6 = .ok (.iload_n 3, 1) := by decide +kernel
theorem dX10_flow_7 : decode cX10_flow 7 = .ok (.iconst 4, 1) := by decide +kernel
theorem dX10_flow_8 : decode cX10_flow 8 = .ok (.if_icmp .ge 12, 3) := by decide +kernel
theorem dX10_flow_11 : decode cX10_flow 11 = .ok (.iload_n 1, 1) := by decide +kernel
theorem dX10_flow_12 : decode cX10_flow 12 = .ok (.iconst 0, 1) := by decide +kernel
theorem dX10_flow_13 : decode cX10_flow 13 = .ok (.iconst 3, 1) := by decide +kernel
theorem dX10_flow_14 : decode cX10_flow 14 = .ok (.invokestatic 22, 3) := by decide +kernel
theorem dX10_flow_17 : decode cX10_flow 17 = .ok (.ifCond .ne 5, 3) := by decide +kernel
theorem dX10_flow_20 : decode cX10_flow 20 = .ok (.iconst (-1), 1) := by decide +kernel
theorem dX10_flow_21 : decode cX10_flow 21 = .ok (.ireturn, 1) := by decide +kernel
theorem dX10_flow_22 : decode cX10_flow 22 = .ok (.iload_n 3, 1) := by decide +kernel
theorem dX10_flow_23 : decode cX10_flow 23 = .ok (.iconst 1, 1) := by decide +kernel
theorem dX10_flow_24 : decode cX10_flow 24 = .ok (.iadd, 1) := by decide +kernel
theorem dX10_flow_25 : decode cX10_flow 25 = .ok (.anewarray 16, 3) := by decide +kernel
theorem dX10_flow_28 : decode cX10_flow 28 = .ok (.astore 4, 2) := by decide +kernel
theorem dX10_flow_30 : decode cX10_flow 30 = .ok (.iconst 0, 1) := by decide +kernel
theorem dX10_flow_31 : decode cX10_flow 31 = .ok (.istore 5, 2) := by decide +kernel
theorem dX10_flow_33 : decode cX10_flow 33 = .ok (.iload 5, 2) := by decide +kernel
theorem dX10_flow_35 : decode cX10_flow 35 = .ok (.iload_n 3, 1) := by decide +kernel
theorem dX10_flow_36 : decode cX10_flow 36 = .ok (.if_icmp .ge 21, 3) := by decide +kernel
theorem dX10_flow_39 : decode cX10_flow 39 = .ok (.aload 4, 2) := by decide +kernel
theorem dX10_flow_41 : decode cX10_flow 41 = .ok (.iload 5, 2) := by decide +kernel
theorem dX10_flow_43 : decode cX10_flow 43 = .ok (.aload_n 0, 1) := by decide +kernel
theorem dX10_flow_44 : decode cX10_flow 44 = .ok (.getfield 18, 3) := by decide +kernel
theorem dX10_flow_47 : decode cX10_flow 47 = .ok (.iload 5, 2) := by decide +kernel
theorem dX10_flow_49 : decode cX10_flow 49 = .ok (.aaload, 1) := by decide +kernel
theorem dX10_flow_50 : decode cX10_flow 50 = .ok (.aastore, 1) := by decide +kernel
theorem dX10_flow_51 : decode cX10_flow 51 = .ok (.iinc 5 1, 3) := by decide +kernel
theorem dX10_flow_54 : decode cX10_flow 54 = .ok (.goto (-21), 3) := by decide +kernel
theorem dX10_flow_57 : decode cX10_flow 57 = .ok (.aload 4, 2) := by decide +kernel
theorem dX10_flow_59 : decode cX10_flow 59 = .ok (.iload_n 3, 1) := by decide +kernel
theorem dX10_flow_60 : decode cX10_flow 60 = .ok (.new 16, 3) := by decide +kernel
theorem dX10_flow_63 : decode cX10_flow 63 = .ok (.dup, 1) := by decide +kernel
theorem dX10_flow_64 : decode cX10_flow 64 = .ok (.iload_n 3, 1) := by decide +kernel
theorem dX10_flow_65 : decode cX10_flow 65 = .ok (.iload_n 1, 1) := by decide +kernel
theorem dX10_flow_66 : decode cX10_flow 66 = .ok (.iload_n 2, 1) := by decide +kernel
theorem dX10_flow_67 : decode cX10_flow 67 = .ok (.invokespecial 30, 3) := by decide +kernel
theorem dX10_flow_70 : decode cX10_flow 70 = .ok (.aastore, 1) := by decide +kernel
theorem dX10_flow_71 : decode cX10_flow 71 = .ok (.aload_n 0, 1) := by decide +kernel
theorem dX10_flow_72 : decode cX10_flow 72 = .ok (.aload 4, 2) := by decide +kernel
theorem dX10_flow_74 : decode cX10_flow 74 = .ok (.putfield 18, 3) := by decide +kernel
theorem dX10_flow_77 : decode cX10_flow 77 = .ok (.iload_n 3, 1) := by decide +kernel
theorem dX10_flow_78 : decode cX10_flow 78 = .ok (.ireturn, 1) := by decide +kernel
set_option maxRecDepth 20000 in
theorem ggX10_send_X10_isFlow : GoodIn wsX10_send wsX10_isFlow := goodIn_r _ [7, 2, 18, 19, 20] (by decide +kernel) (by decide +kernel)
set_option maxRecDepth 20000 in
theorem gX10_send_X10_isFlow : GoodIn wsX10_send (wsV RX10 33 RX10 yX10_isFlow wsX10_isFlow) := goodIn_app (goodIn_of _ (by decide +kernel)) ggX10_send_X10_isFlow
set_option maxRecDepth 20000 in
theorem ggX10_send_X10_within : GoodIn wsX10_send wsX10_within := goodIn_r _ [10] (by decide +kernel) (by decide +kernel)
set_option maxRecDepth 20000 in
theorem gX10_send_X10_within : GoodIn wsX10_send (va_wsS RX10 22 yX10_within wsX10_within) := goodIn_app (goodIn_of _ (by decide +kernel)) ggX10_send_X10_within
set_option maxRecDepth 20000 in
theorem ggX10_send_X8_addGoal : GoodIn wsX10_send wsX8_addGoal := goodIn_r _ [15, 16, 17, 23, 24, 25, 26, 27, 28, 29, 30, 31, 32, 33, 34, 35, 36, 37, 38, 39, 40, 41, 42] (by decide +kernel) (by decide +kernel)
set_option maxRecDepth 20000 in
theorem gX10_send_X8_addGoal : GoodIn wsX10_send (wsV RX10 42 RX8 yX8_addGoal wsX8_addGoal) := goodIn_app (goodIn_of _ (by decide +kernel)) ggX10_send_X8_addGoal
theorem dX10_send_0 : decode cX10_send 0 = .ok (.aload_n 0, 1) := by decide +kernel
theorem dX10_send_1 : decode cX10_send 1 = .ok (.iload_n 1, 1) := by decide +kernel
theorem dX10_send_2 : decode cX10_send 2 = .ok (.invokevirtual 33, 3) := by decide +kernel
theorem dX10_send_5 : decode cX10_send 5 = .ok (.ifCond .eq 13, 3) := by decide +kernel
theorem dX10_send_8 : decode cX10_send 8 = .ok (.iload_n 2, 1) := by decide +kernel
theorem dX10_send_9 : decode cX10_send 9 = .ok (.iconst 1, 1) := by decide +kernel
theorem dX10_send_10 : decode cX10_send 10 = .ok (.ldc 37, 2) := by decide +kernel
theorem dX10_send_12 : decode cX10_send 12 = .ok (.invokestatic 22, 3) := by decide +kernel
theorem dX10_send_15 : decode cX10_send 15 = .ok (.ifCond .ne 5, 3) := by decide +kernel
theorem dX10_send_18 : decode cX10_send 18 = .ok (.iconst (-1), 1) := by decide +kernel
theorem dX10_send_19 : decode cX10_send 19 = .ok (.ireturn, 1) := by decide +kernel
theorem dX10_send_20 : decode cX10_send 20 = .ok (.aload_n 0, 1) := by decide +kernel
theorem dX10_send_21 : decode cX10_send 21 = .ok (.getfield 18, 3) := by decide +kernel
theorem dX10_send_24 : decode cX10_send 24 = .ok (.iload_n 1, 1) := by decide +kernel
theorem dX10_send_25 : decode cX10_send 25 = .ok (.aaload, 1) := by decide +kernel
theorem dX10_send_26 : decode cX10_send 26 = .ok (.getfield 38, 3) := by decide +kernel
theorem dX10_send_29 : decode cX10_send 29 = .ok (.iload_n 2, 1) := by decide +kernel
theorem dX10_send_30 : decode cX10_send 30 = .ok (.invokevirtual 42, 3) := by decide +kernel
theorem dX10_send_33 : decode cX10_send 33 = .ok (.ireturn, 1) := by decide +kernel
set_option maxRecDepth 20000 in
theorem ggX10_window_X10_isFlow : GoodIn wsX10_window wsX10_isFlow := goodIn_r _ [6, 1, 17, 18, 19] (by decide +kernel) (by decide +kernel)
set_option maxRecDepth 20000 in
theorem gX10_window_X10_isFlow : GoodIn wsX10_window (wsV RX10 33 RX10 yX10_isFlow wsX10_isFlow) := goodIn_app (goodIn_of _ (by decide +kernel)) ggX10_window_X10_isFlow
set_option maxRecDepth 20000 in
theorem ggX10_window_X10_within : GoodIn wsX10_window wsX10_within := goodIn_r _ [9] (by decide +kernel) (by decide +kernel)
set_option maxRecDepth 20000 in
theorem gX10_window_X10_within : GoodIn wsX10_window (va_wsS RX10 22 yX10_within wsX10_within) := goodIn_app (goodIn_of _ (by decide +kernel)) ggX10_window_X10_within
set_option maxRecDepth 20000 in
theorem ggX10_window_X6_changeWindow : GoodIn wsX10_window wsX6_changeWindow := goodIn_r _ [14, 15, 16, 22, 23, 24, 25, 26, 27, 28, 29, 30, 31, 32] (by decide +kernel) (by decide +kernel)
set_option maxRecDepth 20000 in
theorem gX10_window_X6_changeWindow : GoodIn wsX10_window (wsV RX10 52 RX6 yX6_changeWindow wsX6_changeWindow) := goodIn_app (goodIn_of _ (by decide +kernel)) ggX10_window_X6_changeWindow
theorem dX10_window_0 : decode cX10_window 0 = .ok (.aload_n 0, 1) := by decide +kernel
theorem dX10_window_1 : decode cX10_window 1 = .ok (.iload_n 1, 1) := by decide +kernel
theorem dX10_window_2 : decode cX10_window 2 = .ok (.invokevirtual 33, 3) := by decide +kernel
theorem dX10_window_5 : decode cX10_window 5 = .ok (.ifCond .eq 14, 3) := by decide +kernel
theorem dX10_window_8 : decode cX10_window 8 = .ok (.iload_n 2, 1) := by decide +kernel
theorem dX10_window_9 : decode cX10_window 9 = .ok (.iconst 0, 1) := by decide +kernel
theorem dX10_window_10 : decode cX10_window 10 = .ok (.sipush 200, 3) := by decide +kernel
theorem dX10_window_13 : decode cX10_window 13 = .ok (.invokestatic 22, 3) := by decide +kernel
theorem dX10_window_16 : decode cX10_window 16 = .ok (.ifCond .ne 5, 3) := by decide +kernel
theorem dX10_window_19 : decode cX10_window 19 = .ok (.iconst (-1), 1) := by decide +kernel
theorem dX10_window_20 : decode cX10_window 20 = .ok (.ireturn, 1) := by decide +kernel
theorem dX10_window_21 : decode cX10_window 21 = .ok (.aload_n 0, 1) := by decide +kernel
theorem dX10_window_22 : decode cX10_window 22 = .ok (.getfield 18, 3) := by decide +kernel
theorem dX10_window_25 : decode cX10_window 25 = .ok (.iload_n 1, 1) := by decide +kernel
theorem dX10_window_26 : decode cX10_window 26 = .ok (.aaload, 1) := by decide +kernel
theorem dX10_window_27 : decode cX10_window 27 = .ok (.getfield 48, 3) := by decide +kernel
theorem dX10_window_30 : decode cX10_window 30 = .ok (.iload_n 2, 1) := by decide +kernel
theorem dX10_window_31 : decode cX10_window 31 = .ok (.invokevirtual 52, 3) := by decide +kernel
theorem dX10_window_34 : decode cX10_window 34 = .ok (.ireturn, 1) := by decide +kernel
set_option maxRecDepth 20000 in
theorem ggX10_lose_X7_tellLost : GoodIn wsX10_lose wsX7_tellLost := goodIn_r _ [6, 7, 8, 9, 10, 11, 12, 5, 13, 17, 18, 19, 20, 21, 22, 23, 24, 25, 26, 27, 28, 29, 30, 31] (by decide +kernel) (by decide +kernel)
set_option maxRecDepth 20000 in
theorem gX10_lose_X7_tellLost : GoodIn wsX10_lose (wsV RX10 57 RX7 yX7_tellLost wsX7_tellLost) := goodIn_app (goodIn_of _ (by decide +kernel)) ggX10_lose_X7_tellLost
theorem dX10_lose_0 : decode cX10_lose 0 = .ok (.aload_n 0, 1) := by decide +kernel
theorem dX10_lose_1 : decode cX10_lose 1 = .ok (.getfield 10, 3) := by decide +kernel
theorem dX10_lose_4 : decode cX10_lose 4 = .ok (.iload_n 1, 1) := by decide +kernel
theorem dX10_lose_5 : decode cX10_lose 5 = .ok (.invokevirtual 57, 3) := by decide +kernel
theorem dX10_lose_8 : decode cX10_lose 8 = .ok (.ireturn, 1) := by decide +kernel
set_option maxRecDepth 20000 in
theorem ggX10_run_X10_within : GoodIn wsX10_run wsX10_within := goodIn_r _ [8] (by decide +kernel) (by decide +kernel)
set_option maxRecDepth 20000 in
theorem gX10_run_X10_within : GoodIn wsX10_run (va_wsS RX10 22 yX10_within wsX10_within) := goodIn_app (goodIn_of _ (by decide +kernel)) ggX10_run_X10_within
set_option maxRecDepth 20000 in
theorem ggX10_run_X7_moveLink : GoodIn wsX10_run wsX7_moveLink := goodIn_r _ [13, 14, 15, 16, 17, 18, 19, 20, 21, 22, 23, 24, 25, 26, 27, 28, 29, 30, 31, 32, 33, 34, 395, 396, 397, 398, 399, 400, 401, 402, 403, 404, 405, 406, 407, 408, 409, 412, 413, 414, 415, 416, 417, 418, 419, 420, 421] (by decide +kernel) (by decide +kernel)
set_option maxRecDepth 20000 in
theorem gX10_run_X7_moveLink : GoodIn wsX10_run (wsV RX10 68 RX7 yX7_moveLink wsX7_moveLink) := goodIn_app (goodIn_of _ (by decide +kernel)) ggX10_run_X7_moveLink
set_option maxRecDepth 20000 in
theorem ggX10_run_X10_bringSegments : GoodIn wsX10_run wsX10_bringSegments := goodIn_r _ [38, 3, 1, 4, 39, 40, 41, 22, 42, 43, 44, 45, 46, 24, 47, 48, 32, 33, 34, 26, 25, 49, 50, 51, 7, 52, 53, 54, 55, 56, 57, 58, 59, 60, 61, 62, 63, 64, 65, 66, 67, 68, 69, 70, 71, 72, 73, 74, 75, 76, 77, 78, 79, 80, 81, 82, 83, 84, 85, 86, 87, 88, 89, 90, 91, 92, 12, 93, 94, 95, 96, 97, 98, 99, 31, 100, 101, 102, 103, 104, 105, 106, 107, 108, 109, 110, 19, 20, 21, 23, 27, 28, 29, 30, 111, 392, 393, 394, 395, 396, 397, 398, 399, 400, 401, 402, 403, 404, 405, 406, 407, 408, 409, 419, 420, 421, 412, 413, 414, 415, 416, 417, 418, 410, 411, 422, 423, 424, 425, 426, 427, 428, 429, 430, 431, 432, 433] (by decide +kernel) (by decide +kernel)
set_option maxRecDepth 20000 in
theorem gX10_run_X10_bringSegments : GoodIn wsX10_run (wsV RX10 72 RX10 yX10_bringSegments wsX10_bringSegments) := goodIn_app (goodIn_of _ (by decide +kernel)) ggX10_run_X10_bringSegments
set_option maxRecDepth 20000 in
theorem ggX10_run_X10_tellWindowsAndAnswerLate : GoodIn wsX10_run wsX10_tellWindowsAndAnswerLate := goodIn_r _ [115, 4, 3, 1, 116, 117, 118, 56, 119, 120, 85, 86, 87, 88, 62, 89, 90, 91, 92, 12, 93, 94, 95, 96, 97, 98, 99, 31, 32, 33, 22, 34, 24, 26, 25, 100, 101, 102, 103, 104, 105, 106, 107, 108, 109, 73, 110, 75, 19, 20, 21, 23, 27, 28, 29, 30, 121, 122, 123, 124, 392, 393, 394, 410, 411, 422, 423, 424, 425, 426, 427, 428, 429, 430, 431, 432, 395, 396, 397, 398, 399, 400, 401, 402, 403, 404, 405, 406, 407, 408, 409, 412, 413, 414, 415, 416, 417, 418, 419, 420, 421, 433] (by decide +kernel) (by decide +kernel)
set_option maxRecDepth 20000 in
theorem gX10_run_X10_tellWindowsAndAnswerLate : GoodIn wsX10_run (wsV RX10 75 RX10 yX10_tellWindowsAndAnswerLate wsX10_tellWindowsAndAnswerLate) := goodIn_app (goodIn_of _ (by decide +kernel)) ggX10_run_X10_tellWindowsAndAnswerLate
set_option maxRecDepth 20000 in
theorem ggX10_run_X10_bringAcks : GoodIn wsX10_run wsX10_bringAcks := goodIn_r _ [128, 3, 1, 4, 39, 40, 41, 22, 42, 43, 44, 45, 46, 24, 47, 48, 32, 33, 34, 26, 25, 49, 50, 51, 7, 52, 129, 130, 131, 132, 133, 134, 135, 136, 137, 138, 139, 140, 141, 142, 143, 144, 145, 146, 147, 148, 149, 150, 151, 152, 153, 154, 155, 156, 157, 158, 159, 160, 161, 162, 163, 164, 165, 166, 167, 168, 169, 170, 171, 172, 173, 174, 175, 176, 177, 178, 179, 180, 181, 182, 183, 77, 78, 73, 79, 75, 80, 184, 185, 186, 187, 188, 189, 190, 191, 192, 193, 194, 195, 196, 197, 198, 199, 200, 201, 202, 203, 204, 205, 206, 207, 71, 72, 74, 208, 209, 210, 211, 212, 213, 214, 215, 216, 217, 218, 219, 220, 221, 222, 223, 224, 225, 226, 227, 228, 82, 83, 84, 229, 230, 231, 232, 233, 234, 235, 236, 237, 238, 239, 240, 12, 241, 242, 243, 14, 17, 244, 245, 94, 95, 96, 97, 18, 246, 247, 248, 249, 250, 251, 252, 253, 254, 255, 31, 100, 101, 102, 103, 104, 105, 106, 256, 28, 29, 30, 257, 258, 259, 260, 261, 262, 263, 264, 265, 266, 267, 268, 269, 270, 271, 272, 273, 274, 275, 276, 277, 278, 279, 280, 281, 282, 283, 284, 285, 286, 287, 288, 289, 290, 291, 292, 293, 294, 295, 296, 297, 298, 299, 300, 301, 302, 303, 304, 305, 306, 307, 308, 309, 310, 311, 312, 313, 314, 315, 316, 317, 318, 319, 320, 321, 322, 323, 324, 325, 326, 111, 392, 393, 394, 395, 396, 397, 398, 399, 400, 401, 402, 403, 404, 405, 406, 407, 408, 409, 419, 420, 421, 412, 413, 414, 415, 416, 417, 418, 410, 411, 434, 435, 436, 437, 438, 439, 440, 441, 442, 443, 444, 445, 446, 447, 448, 449, 450, 451, 452, 453, 454, 455, 456, 457, 458, 459, 460, 461, 462, 463, 433, 464, 465, 466, 467, 468] (by decide +kernel) (by decide +kernel)
set_option maxRecDepth 20000 in
theorem gX10_run_X10_bringAcks : GoodIn wsX10_run (wsV RX10 78 RX10 yX10_bringAcks wsX10_bringAcks) := goodIn_app (goodIn_of _ (by decide +kernel)) ggX10_run_X10_bringAcks
set_option maxRecDepth 20000 in
theorem ggX10_run_X8_lookAtTimer : GoodIn wsX10_run wsX8_lookAtTimer := goodIn_r _ [330, 142, 136, 134, 135, 331, 189, 190, 191, 154, 192, 188, 332, 333, 334, 132, 335, 213, 336, 140, 141, 139, 212, 138, 310, 311, 312, 313, 137, 261, 214, 147, 148, 149, 150, 314, 315, 316, 266, 317, 290, 268, 273, 215, 216, 217, 218, 219, 220, 170, 171, 221, 337, 338, 339, 340, 168, 172, 169, 341, 342, 343, 180, 344, 197, 198, 323, 324, 325, 73, 326, 75, 345, 346, 347, 348, 349, 227, 238, 239, 240, 12, 241, 242, 243, 14, 17, 244, 245, 94, 95, 96, 97, 18, 246, 247, 248, 249, 250, 251, 252, 253, 254, 255, 31, 32, 33, 22, 34, 24, 26, 25, 100, 101, 102, 103, 104, 105, 106, 256, 28, 29, 30, 184, 185, 186, 187, 434, 435, 436, 437, 438, 439, 440, 441, 442, 443, 444, 445, 446, 447, 448, 449, 450, 451, 452, 453, 454, 455, 456, 457, 458, 459, 464, 465, 466, 467, 468, 460, 461, 462, 463, 433, 395, 396, 397, 398, 399, 400, 401, 402, 403, 404, 405, 406, 407, 408, 409, 419, 420, 421, 412, 413, 414, 415, 416, 417, 418] (by decide +kernel) (by decide +kernel)
set_option maxRecDepth 20000 in
theorem gX10_run_X8_lookAtTimer : GoodIn wsX10_run (wsV RX10 81 RX8 yX8_lookAtTimer wsX8_lookAtTimer) := goodIn_app (goodIn_of _ (by decide +kernel)) ggX10_run_X8_lookAtTimer
set_option maxRecDepth 20000 in
theorem ggX10_run_X8_sendWhatMay : GoodIn wsX10_run wsX8_sendWhatMay := goodIn_r _ [353, 354, 136, 135, 134, 331, 142, 355, 356, 357, 132, 358, 214, 138, 139, 359, 360, 361, 362, 173, 174, 175, 176, 140, 137, 363, 364, 365, 180, 366, 197, 182, 207, 71, 72, 73, 74, 75, 367, 368, 369, 370, 322, 198, 371, 372, 373, 374, 222, 223, 224, 225, 226, 147, 148, 149, 150, 227, 228, 82, 83, 84, 229, 230, 231, 154, 232, 156, 157, 233, 234, 235, 236, 188, 237, 185, 186, 187, 172, 238, 239, 240, 12, 241, 242, 243, 14, 17, 244, 245, 94, 95, 96, 97, 18, 246, 247, 248, 249, 250, 251, 252, 253, 254, 255, 31, 32, 33, 22, 34, 24, 26, 25, 100, 101, 102, 103, 104, 105, 106, 256, 28, 29, 30, 375, 434, 435, 436, 437, 438, 439, 440, 441, 442, 443, 444, 445, 446, 447, 448, 449, 450, 451, 452, 453, 460, 461, 462, 463, 433, 454, 455, 456, 457, 458, 459, 395, 396, 397, 398, 399, 400, 401, 402, 403, 404, 405, 406, 407, 408, 409, 419, 420, 421, 412, 413, 414, 415, 416, 417, 418] (by decide +kernel) (by decide +kernel)
set_option maxRecDepth 20000 in
theorem gX10_run_X8_sendWhatMay : GoodIn wsX10_run (wsV RX10 85 RX8 yX8_sendWhatMay wsX8_sendWhatMay) := goodIn_app (goodIn_of _ (by decide +kernel)) ggX10_run_X8_sendWhatMay
set_option maxRecDepth 20000 in
theorem ggX10_run_X10_nextBusyTick : GoodIn wsX10_run wsX10_nextBusyTick := goodIn_r _ [379, 3, 380, 170, 149, 171, 4, 1, 381, 148, 150, 382, 383, 384, 12, 385, 16, 99, 386, 14, 387, 44, 45, 22, 46, 24, 47, 388, 389, 7, 390, 391, 392, 393, 394, 410, 411, 422, 423, 424, 425, 426, 427, 428, 429, 430, 431, 432, 434, 435, 436, 437, 438, 439, 440, 441, 442, 443, 444, 445, 446, 447, 448, 449, 450, 451, 452, 453, 454, 455, 456, 457, 458, 459, 395, 396, 397, 398, 399, 400, 401, 402, 403, 404, 405, 406, 407, 408, 409, 412, 413, 414, 415, 416, 417, 418, 419, 420, 421] (by decide +kernel) (by decide +kernel)
set_option maxRecDepth 20000 in
theorem gX10_run_X10_nextBusyTick : GoodIn wsX10_run (wsV RX10 88 RX10 yX10_nextBusyTick wsX10_nextBusyTick) := goodIn_app (goodIn_of _ (by decide +kernel)) ggX10_run_X10_nextBusyTick
theorem dX10_run_0 : decode cX10_run 0 = .ok (.iload_n 1, 1) := by decide +kernel
theorem dX10_run_1 : decode cX10_run 1 = .ok (.iconst 1, 1) := by decide +kernel
theorem dX10_run_2 : decode cX10_run 2 = .ok (.sipush 20000, 3) := by decide +kernel
theorem dX10_run_5 : decode cX10_run 5 = .ok (.invokestatic 22, 3) := by decide +kernel
theorem dX10_run_8 : decode cX10_run 8 = .ok (.ifCond .eq 14, 3) := by decide +kernel
theorem dX10_run_11 : decode cX10_run 11 = .ok (.aload_n 0, 1) := by decide +kernel
theorem dX10_run_12 : decode cX10_run 12 = .ok (.getfield 60, 3) := by decide +kernel
theorem dX10_run_15 : decode cX10_run 15 = .ok (.ldc 64, 2) := by decide +kernel
theorem dX10_run_17 : decode cX10_run 17 = .ok (.iload_n 1, 1) := by decide +kernel
theorem dX10_run_18 : decode cX10_run 18 = .ok (.isub, 1) := by decide +kernel
theorem dX10_run_19 : decode cX10_run 19 = .ok (.if_icmp .le 5, 3) := by decide +kernel
theorem dX10_run_22 : decode cX10_run 22 = .ok (.iconst (-1), 1) := by decide +kernel
theorem dX10_run_23 : decode cX10_run 23 = .ok (.ireturn, 1) := by decide +kernel
theorem dX10_run_24 : decode cX10_run 24 = .ok (.aload_n 0, 1) := by decide +kernel
theorem dX10_run_25 : decode cX10_run 25 = .ok (.getfield 10, 3) := by decide +kernel
theorem dX10_run_28 : decode cX10_run 28 = .ok (.getfield 65, 3) := by decide +kernel
theorem dX10_run_31 : decode cX10_run 31 = .ok (.istore_n 2, 1) := by decide +kernel
theorem dX10_run_32 : decode cX10_run 32 = .ok (.aload_n 0, 1) := by decide +kernel
theorem dX10_run_33 : decode cX10_run 33 = .ok (.getfield 60, 3) := by decide +kernel
theorem dX10_run_36 : decode cX10_run 36 = .ok (.iload_n 1, 1) := by decide +kernel
theorem dX10_run_37 : decode cX10_run 37 = .ok (.iadd, 1) := by decide +kernel
theorem dX10_run_38 : decode cX10_run 38 = .ok (.istore_n 3, 1) := by decide +kernel
theorem dX10_run_39 : decode cX10_run 39 = .ok (.iconst 0, 1) := by decide +kernel
theorem dX10_run_40 : decode cX10_run 40 = .ok (.istore 4, 2) := by decide +kernel
theorem dX10_run_42 : decode cX10_run 42 = .ok (.iload 4, 2) := by decide +kernel
theorem dX10_run_44 : decode cX10_run 44 = .ok (.iload_n 1, 1) := by decide +kernel
theorem dX10_run_45 : decode cX10_run 45 = .ok (.if_icmp .ge 149, 3) := by decide +kernel
theorem dX10_run_48 : decode cX10_run 48 = .ok (.aload_n 0, 1) := by decide +kernel
theorem dX10_run_49 : decode cX10_run 49 = .ok (.getfield 60, 3) := by decide +kernel
theorem dX10_run_52 : decode cX10_run 52 = .ok (.iload_n 3, 1) := by decide +kernel
theorem dX10_run_53 : decode cX10_run 53 = .ok (.if_icmp .ge 141, 3) := by decide +kernel
theorem dX10_run_56 : decode cX10_run 56 = .ok (.aload_n 0, 1) := by decide +kernel
theorem dX10_run_57 : decode cX10_run 57 = .ok (.getfield 10, 3) := by decide +kernel
theorem dX10_run_60 : decode cX10_run 60 = .ok (.aload_n 0, 1) := by decide +kernel
theorem dX10_run_61 : decode cX10_run 61 = .ok (.getfield 60, 3) := by decide +kernel
theorem dX10_run_64 : decode cX10_run 64 = .ok (.invokevirtual 68, 3) := by decide +kernel
theorem dX10_run_67 : decode cX10_run 67 = .ok (.aload_n 0, 1) := by decide +kernel
theorem dX10_run_68 : decode cX10_run 68 = .ok (.invokevirtual 72, 3) := by decide +kernel
theorem dX10_run_71 : decode cX10_run 71 = .ok (.aload_n 0, 1) := by decide +kernel
theorem dX10_run_72 : decode cX10_run 72 = .ok (.invokevirtual 75, 3) := by decide +kernel
theorem dX10_run_75 : decode cX10_run 75 = .ok (.aload_n 0, 1) := by decide +kernel
theorem dX10_run_76 : decode cX10_run 76 = .ok (.invokevirtual 78, 3) := by decide +kernel
theorem dX10_run_79 : decode cX10_run 79 = .ok (.aload_n 0, 1) := by decide +kernel
theorem dX10_run_80 : decode cX10_run 80 = .ok (.getfield 18, 3) := by decide +kernel
theorem dX10_run_83 : decode cX10_run 83 = .ok (.astore 5, 2) := by decide +kernel
theorem dX10_run_85 : decode cX10_run 85 = .ok (.aload 5, 2) := by decide +kernel
theorem dX10_run_87 : decode cX10_run 87 = .ok (.arraylength, 1) := by decide +kernel
theorem dX10_run_88 : decode cX10_run 88 = .ok (.istore 6, 2) := by decide +kernel
theorem dX10_run_90 : decode cX10_run 90 = .ok (.iconst 0, 1) := by decide +kernel
theorem dX10_run_91 : decode cX10_run 91 = .ok (.istore 7, 2) := by decide +kernel
theorem dX10_run_93 : decode cX10_run 93 = .ok (.iload 7, 2) := by decide +kernel
theorem dX10_run_95 : decode cX10_run 95 = .ok (.iload 6, 2) := by decide +kernel
theorem dX10_run_97 : decode cX10_run 97 = .ok (.if_icmp .ge 32, 3) := by decide +kernel
theorem dX10_run_100 : decode cX10_run 100 = .ok (.aload 5, 2) := by decide +kernel
theorem dX10_run_102 : decode cX10_run 102 = .ok (.iload 7, 2) := by decide +kernel
theorem dX10_run_104 : decode cX10_run 104 = .ok (.aaload, 1) := by decide +kernel
theorem dX10_run_105 : decode cX10_run 105 = .ok (.astore 8, 2) := by decide +kernel
theorem dX10_run_107 : decode cX10_run 107 = .ok (.aload 8, 2) := by decide +kernel
theorem dX10_run_109 : decode cX10_run 109 = .ok (.getfield 38, 3) := by decide +kernel
theorem dX10_run_112 : decode cX10_run 112 = .ok (.aload_n 0, 1) := by decide +kernel
theorem dX10_run_113 : decode cX10_run 113 = .ok (.getfield 10, 3) := by decide +kernel
theorem dX10_run_116 : decode cX10_run 116 = .ok (.aload_n 0, 1) := by decide +kernel
theorem dX10_run_117 : decode cX10_run 117 = .ok (.getfield 60, 3) := by decide +kernel
theorem dX10_run_120 : decode cX10_run 120 = .ok (.invokevirtual 81, 3) := by decide +kernel
theorem dX10_run_123 : decode cX10_run 123 = .ok (.iinc 7 1, 3) := by decide +kernel
theorem dX10_run_126 : decode cX10_run 126 = .ok (.goto (-33), 3) := by decide +kernel
theorem dX10_run_129 : decode cX10_run 129 = .ok (.aload_n 0, 1) := by decide +kernel
theorem dX10_run_130 : decode cX10_run 130 = .ok (.getfield 18, 3) := by decide +kernel
theorem dX10_run_133 : decode cX10_run 133 = .ok (.astore 5, 2) := by decide +kernel
theorem dX10_run_135 : decode cX10_run 135 = .ok (.aload 5, 2) := by decide +kernel
theorem dX10_run_137 : decode cX10_run 137 = .ok (.arraylength, 1) := by decide +kernel
theorem dX10_run_138 : decode cX10_run 138 = .ok (.istore 6, 2) := by decide +kernel
theorem dX10_run_140 : decode cX10_run 140 = .ok (.iconst 0, 1) := by decide +kernel
theorem dX10_run_141 : decode cX10_run 141 = .ok (.istore 7, 2) := by decide +kernel
theorem dX10_run_143 : decode cX10_run 143 = .ok (.iload 7, 2) := by decide +kernel
theorem dX10_run_145 : decode cX10_run 145 = .ok (.iload 6, 2) := by decide +kernel
theorem dX10_run_147 : decode cX10_run 147 = .ok (.if_icmp .ge 32, 3) := by decide +kernel
theorem dX10_run_150 : decode cX10_run 150 = .ok (.aload 5, 2) := by decide +kernel
theorem dX10_run_152 : decode cX10_run 152 = .ok (.iload 7, 2) := by decide +kernel
theorem dX10_run_154 : decode cX10_run 154 = .ok (.aaload, 1) := by decide +kernel
theorem dX10_run_155 : decode cX10_run 155 = .ok (.astore 8, 2) := by decide +kernel
theorem dX10_run_157 : decode cX10_run 157 = .ok (.aload 8, 2) := by decide +kernel
theorem dX10_run_159 : decode cX10_run 159 = .ok (.getfield 38, 3) := by decide +kernel
theorem dX10_run_162 : decode cX10_run 162 = .ok (.aload_n 0, 1) := by decide +kernel
theorem dX10_run_163 : decode cX10_run 163 = .ok (.getfield 10, 3) := by decide +kernel
theorem dX10_run_166 : decode cX10_run 166 = .ok (.aload_n 0, 1) := by decide +kernel
theorem dX10_run_167 : decode cX10_run 167 = .ok (.getfield 60, 3) := by decide +kernel
theorem dX10_run_170 : decode cX10_run 170 = .ok (.invokevirtual 85, 3) := by decide +kernel
theorem dX10_run_173 : decode cX10_run 173 = .ok (.iinc 7 1, 3) := by decide +kernel
theorem dX10_run_176 : decode cX10_run 176 = .ok (.goto (-33), 3) := by decide +kernel
theorem dX10_run_179 : decode cX10_run 179 = .ok (.aload_n 0, 1) := by decide +kernel
theorem dX10_run_180 : decode cX10_run 180 = .ok (.aload_n 0, 1) := by decide +kernel
theorem dX10_run_181 : decode cX10_run 181 = .ok (.iload_n 3, 1) := by decide +kernel
theorem dX10_run_182 : decode cX10_run 182 = .ok (.invokevirtual 88, 3) := by decide +kernel
theorem dX10_run_185 : decode cX10_run 185 = .ok (.putfield 60, 3) := by decide +kernel
theorem dX10_run_188 : decode cX10_run 188 = .ok (.iinc 4 1, 3) := by decide +kernel
theorem dX10_run_191 : decode cX10_run 191 = .ok (.goto (-149), 3) := by decide +kernel
theorem dX10_run_194 : decode cX10_run 194 = .ok (.aload_n 0, 1) := by decide +kernel
theorem dX10_run_195 : decode cX10_run 195 = .ok (.getfield 10, 3) := by decide +kernel
theorem dX10_run_198 : decode cX10_run 198 = .ok (.getfield 65, 3) := by decide +kernel
theorem dX10_run_201 : decode cX10_run 201 = .ok (.iload_n 2, 1) := by decide +kernel
theorem dX10_run_202 : decode cX10_run 202 = .ok (.isub, 1) := by decide +kernel
theorem dX10_run_203 : decode cX10_run 203 = .ok (.ireturn, 1) := by decide +kernel
set_option maxRecDepth 20000 in
theorem ggX10_sender_X10_isFlow : GoodIn wsX10_sender wsX10_isFlow := goodIn_r _ [6, 1, 59, 60, 61] (by decide +kernel) (by decide +kernel)
set_option maxRecDepth 20000 in
theorem gX10_sender_X10_isFlow : GoodIn wsX10_sender (wsV RX10 33 RX10 yX10_isFlow wsX10_isFlow) := goodIn_app (goodIn_of _ (by decide +kernel)) ggX10_sender_X10_isFlow
set_option maxRecDepth 20000 in
theorem ggX10_sender_X8_tell : GoodIn wsX10_sender wsX8_tell := goodIn_r _ [11, 12, 13, 14, 15, 16, 17, 18, 19, 20, 21, 22, 10, 23, 24, 25, 26, 27, 28, 29, 30, 31, 32, 33, 34, 35, 36, 37, 38, 39, 40, 41, 42, 43, 44, 45, 46, 47, 48, 49, 50, 51, 52, 53, 54, 55, 56, 57, 58, 64, 65, 66, 67, 68, 69, 70, 71, 72, 73, 74, 75, 76, 77, 78, 79, 80, 81, 82, 83, 84, 85, 86, 87, 88, 89, 90, 91, 92, 93, 94, 95, 96, 97, 98, 99] (by decide +kernel) (by decide +kernel)
set_option maxRecDepth 20000 in
theorem gX10_sender_X8_tell : GoodIn wsX10_sender (wsV RX10 91 RX8 yX8_tell wsX8_tell) := goodIn_app (goodIn_of _ (by decide +kernel)) ggX10_sender_X8_tell
theorem dX10_sender_0 : decode cX10_sender 0 = .ok (.aload_n 0, 1) := by decide +kernel
theorem dX10_sender_1 : decode cX10_sender 1 = .ok (.iload_n 1, 1) := by decide +kernel
theorem dX10_sender_2 : decode cX10_sender 2 = .ok (.invokevirtual 33, 3) := by decide +kernel
theorem dX10_sender_5 : decode cX10_sender 5 = .ok (.ifCond .eq 19, 3) := by decide +kernel
theorem dX10_sender_8 : decode cX10_sender 8 = .ok (.aload_n 0, 1) := by decide +kernel
theorem dX10_sender_9 : decode cX10_sender 9 = .ok (.getfield 18, 3) := by decide +kernel
theorem dX10_sender_12 : decode cX10_sender 12 = .ok (.iload_n 1, 1) := by decide +kernel
theorem dX10_sender_13 : decode cX10_sender 13 = .ok (.aaload, 1) := by decide +kernel
theorem dX10_sender_14 : decode cX10_sender 14 = .ok (.getfield 38, 3) := by decide +kernel
theorem dX10_sender_17 : decode cX10_sender 17 = .ok (.iload_n 2, 1) := by decide +kernel
theorem dX10_sender_18 : decode cX10_sender 18 = .ok (.invokevirtual 91, 3) := by decide +kernel
theorem dX10_sender_21 : decode cX10_sender 21 = .ok (.goto 4, 3) := by decide +kernel
theorem dX10_sender_24 : decode cX10_sender 24 = .ok (.iconst (-1), 1) := by decide +kernel
theorem dX10_sender_25 : decode cX10_sender 25 = .ok (.ireturn, 1) := by decide +kernel
set_option maxRecDepth 20000 in
theorem ggX10_receiver_X10_isFlow : GoodIn wsX10_receiver wsX10_isFlow := goodIn_r _ [6, 1, 19, 20, 21] (by decide +kernel) (by decide +kernel)
set_option maxRecDepth 20000 in
theorem gX10_receiver_X10_isFlow : GoodIn wsX10_receiver (wsV RX10 33 RX10 yX10_isFlow wsX10_isFlow) := goodIn_app (goodIn_of _ (by decide +kernel)) ggX10_receiver_X10_isFlow
set_option maxRecDepth 20000 in
theorem ggX10_receiver_X6_tell : GoodIn wsX10_receiver wsX6_tell := goodIn_r _ [11, 12, 13, 14, 15, 16, 17, 18, 24, 25, 26, 27, 28, 29, 30, 31, 32, 33, 34] (by decide +kernel) (by decide +kernel)
set_option maxRecDepth 20000 in
theorem gX10_receiver_X6_tell : GoodIn wsX10_receiver (wsV RX10 94 RX6 yX6_tell wsX6_tell) := goodIn_app (goodIn_of _ (by decide +kernel)) ggX10_receiver_X6_tell
theorem dX10_receiver_0 : decode cX10_receiver 0 = .ok (.aload_n 0, 1) := by decide +kernel
theorem dX10_receiver_1 : decode cX10_receiver 1 = .ok (.iload_n 1, 1) := by decide +kernel
theorem dX10_receiver_2 : decode cX10_receiver 2 = .ok (.invokevirtual 33, 3) := by decide +kernel
theorem dX10_receiver_5 : decode cX10_receiver 5 = .ok (.ifCond .eq 19, 3) := by decide +kernel
theorem dX10_receiver_8 : decode cX10_receiver 8 = .ok (.aload_n 0, 1) := by decide +kernel
theorem dX10_receiver_9 : decode cX10_receiver 9 = .ok (.getfield 18, 3) := by decide +kernel
theorem dX10_receiver_12 : decode cX10_receiver 12 = .ok (.iload_n 1, 1) := by decide +kernel
theorem dX10_receiver_13 : decode cX10_receiver 13 = .ok (.aaload, 1) := by decide +kernel
theorem dX10_receiver_14 : decode cX10_receiver 14 = .ok (.getfield 48, 3) := by decide +kernel
theorem dX10_receiver_17 : decode cX10_receiver 17 = .ok (.iload_n 2, 1) := by decide +kernel
theorem dX10_receiver_18 : decode cX10_receiver 18 = .ok (.invokevirtual 94, 3) := by decide +kernel
theorem dX10_receiver_21 : decode cX10_receiver 21 = .ok (.goto 4, 3) := by decide +kernel
theorem dX10_receiver_24 : decode cX10_receiver 24 = .ok (.iconst (-1), 1) := by decide +kernel
theorem dX10_receiver_25 : decode cX10_receiver 25 = .ok (.ireturn, 1) := by decide +kernel
set_option maxRecDepth 20000 in
theorem ggX10_kept_X10_isFlow : GoodIn wsX10_kept wsX10_isFlow := goodIn_r _ [6, 1, 20, 21, 22] (by decide +kernel) (by decide +kernel)
set_option maxRecDepth 20000 in
theorem gX10_kept_X10_isFlow : GoodIn wsX10_kept (wsV RX10 33 RX10 yX10_isFlow wsX10_isFlow) := goodIn_app (goodIn_of _ (by decide +kernel)) ggX10_kept_X10_isFlow
set_option maxRecDepth 20000 in
theorem ggX10_kept_X6_leastKept : GoodIn wsX10_kept wsX6_leastKept := goodIn_r _ [11, 12, 13, 14, 15, 16, 17, 18, 19, 25, 26, 27, 28, 29, 30, 31, 32, 33, 34, 35, 36] (by decide +kernel) (by decide +kernel)
set_option maxRecDepth 20000 in
theorem gX10_kept_X6_leastKept : GoodIn wsX10_kept (wsV RX10 95 RX6 yX6_leastKept wsX6_leastKept) := goodIn_app (goodIn_of _ (by decide +kernel)) ggX10_kept_X6_leastKept
theorem dX10_kept_0 : decode cX10_kept 0 = .ok (.aload_n 0, 1) := by decide +kernel
theorem dX10_kept_1 : decode cX10_kept 1 = .ok (.iload_n 1, 1) := by decide +kernel
theorem dX10_kept_2 : decode cX10_kept 2 = .ok (.invokevirtual 33, 3) := by decide +kernel
theorem dX10_kept_5 : decode cX10_kept 5 = .ok (.ifCond .eq 19, 3) := by decide +kernel
theorem dX10_kept_8 : decode cX10_kept 8 = .ok (.aload_n 0, 1) := by decide +kernel
theorem dX10_kept_9 : decode cX10_kept 9 = .ok (.getfield 18, 3) := by decide +kernel
theorem dX10_kept_12 : decode cX10_kept 12 = .ok (.iload_n 1, 1) := by decide +kernel
theorem dX10_kept_13 : decode cX10_kept 13 = .ok (.aaload, 1) := by decide +kernel
theorem dX10_kept_14 : decode cX10_kept 14 = .ok (.getfield 48, 3) := by decide +kernel
theorem dX10_kept_17 : decode cX10_kept 17 = .ok (.iload_n 2, 1) := by decide +kernel
theorem dX10_kept_18 : decode cX10_kept 18 = .ok (.invokevirtual 95, 3) := by decide +kernel
theorem dX10_kept_21 : decode cX10_kept 21 = .ok (.goto 4, 3) := by decide +kernel
theorem dX10_kept_24 : decode cX10_kept 24 = .ok (.iconst (-1), 1) := by decide +kernel
theorem dX10_kept_25 : decode cX10_kept 25 = .ok (.ireturn, 1) := by decide +kernel
set_option maxRecDepth 20000 in
theorem ggX10_most_X10_isFlow : GoodIn wsX10_most wsX10_isFlow := goodIn_r _ [6, 1, 7, 8, 9] (by decide +kernel) (by decide +kernel)
set_option maxRecDepth 20000 in
theorem gX10_most_X10_isFlow : GoodIn wsX10_most (wsV RX10 33 RX10 yX10_isFlow wsX10_isFlow) := goodIn_app (goodIn_of _ (by decide +kernel)) ggX10_most_X10_isFlow
theorem dX10_most_0 : decode cX10_most 0 = .ok (.aload_n 0, 1) := by decide +kernel
theorem dX10_most_1 : decode cX10_most 1 = .ok (.iload_n 1, 1) := by decide +kernel
theorem dX10_most_2 : decode cX10_most 2 = .ok (.invokevirtual 33, 3) := by decide +kernel
theorem dX10_most_5 : decode cX10_most 5 = .ok (.ifCond .eq 18, 3) := by decide +kernel
theorem dX10_most_8 : decode cX10_most 8 = .ok (.aload_n 0, 1) := by decide +kernel
theorem dX10_most_9 : decode cX10_most 9 = .ok (.getfield 18, 3) := by decide +kernel
theorem dX10_most_12 : decode cX10_most 12 = .ok (.iload_n 1, 1) := by decide +kernel
theorem dX10_most_13 : decode cX10_most 13 = .ok (.aaload, 1) := by decide +kernel
theorem dX10_most_14 : decode cX10_most 14 = .ok (.getfield 38, 3) := by decide +kernel
theorem dX10_most_17 : decode cX10_most 17 = .ok (.getfield 98, 3) := by decide +kernel
theorem dX10_most_20 : decode cX10_most 20 = .ok (.goto 4, 3) := by decide +kernel
theorem dX10_most_23 : decode cX10_most 23 = .ok (.iconst 0, 1) := by decide +kernel
theorem dX10_most_24 : decode cX10_most 24 = .ok (.ireturn, 1) := by decide +kernel
set_option maxRecDepth 20000 in
theorem ggX10_count_X7_tell : GoodIn wsX10_count wsX7_tell := goodIn_r _ [8, 9, 10, 11, 12, 13, 14, 15, 16, 20, 21, 22, 23, 24, 25, 26, 27, 28, 29, 30, 31, 32, 33, 34, 35, 36, 37] (by decide +kernel) (by decide +kernel)
set_option maxRecDepth 20000 in
theorem gX10_count_X7_tell : GoodIn wsX10_count (wsV RX10 101 RX7 yX7_tell wsX7_tell) := goodIn_app (goodIn_of _ (by decide +kernel)) ggX10_count_X7_tell
theorem dX10_count_0 : decode cX10_count 0 = .ok (.iload_n 1, 1) := by decide +kernel
theorem dX10_count_1 : decode cX10_count 1 = .ok (.lookupswitch 38 #[(0, 27), (1, 32)], 27) := by decide +kernel
theorem dX10_count_28 : decode cX10_count 28 = .ok (.aload_n 0, 1) := by decide +kernel
theorem dX10_count_29 : decode cX10_count 29 = .ok (.getfield 60, 3) := by decide +kernel
theorem dX10_count_32 : decode cX10_count 32 = .ok (.ireturn, 1) := by decide +kernel
theorem dX10_count_33 : decode cX10_count 33 = .ok (.aload_n 0, 1) := by decide +kernel
theorem dX10_count_34 : decode cX10_count 34 = .ok (.getfield 18, 3) := by decide +kernel
theorem dX10_count_37 : decode cX10_count 37 = .ok (.arraylength, 1) := by decide +kernel
theorem dX10_count_38 : decode cX10_count 38 = .ok (.ireturn, 1) := by decide +kernel
theorem dX10_count_39 : decode cX10_count 39 = .ok (.aload_n 0, 1) := by decide +kernel
theorem dX10_count_40 : decode cX10_count 40 = .ok (.getfield 10, 3) := by decide +kernel
theorem dX10_count_43 : decode cX10_count 43 = .ok (.iload_n 1, 1) := by decide +kernel
theorem dX10_count_44 : decode cX10_count 44 = .ok (.invokevirtual 101, 3) := by decide +kernel
theorem dX10_count_47 : decode cX10_count 47 = .ok (.ireturn, 1) := by decide +kernel
theorem dX10_isFlow_0 : decode cX10_isFlow 0 = .ok (.iload_n 1, 1) := by decide +kernel
theorem dX10_isFlow_1 : decode cX10_isFlow 1 = .ok (.ifCond .lt 16, 3) := by decide +kernel
theorem dX10_isFlow_4 : decode cX10_isFlow 4 = .ok (.iload_n 1, 1) := by decide +kernel
theorem dX10_isFlow_5 : decode cX10_isFlow 5 = .ok (.aload_n 0, 1) := by decide +kernel
theorem dX10_isFlow_6 : decode cX10_isFlow 6 = .ok (.getfield 18, 3) := by decide +kernel
theorem dX10_isFlow_9 : decode cX10_isFlow 9 = .ok (.arraylength, 1) := by decide +kernel
theorem dX10_isFlow_10 : decode cX10_isFlow 10 = .ok (.if_icmp .ge 7, 3) := by decide +kernel
theorem dX10_isFlow_13 : decode cX10_isFlow 13 = .ok (.iconst 1, 1) := by decide +kernel
theorem dX10_isFlow_14 : decode cX10_isFlow 14 = .ok (.goto 4, 3) := by decide +kernel
theorem dX10_isFlow_17 : decode cX10_isFlow 17 = .ok (.iconst 0, 1) := by decide +kernel
theorem dX10_isFlow_18 : decode cX10_isFlow 18 = .ok (.ireturn, 1) := by decide +kernel
set_option maxRecDepth 20000 in
theorem ggX10_bringSegments_X1_takeDue : GoodIn wsX10_bringSegments wsX1_takeDue := goodIn_r _ [8, 9, 10, 11, 7, 12, 13, 14, 15, 16, 17, 18, 19, 20, 113, 114, 115, 116, 117, 118, 119, 120, 121, 122] (by decide +kernel) (by decide +kernel)
set_option maxRecDepth 20000 in
theorem gX10_bringSegments_X1_takeDue : GoodIn wsX10_bringSegments (wsV RX10 111 RX1 yX1_takeDue wsX1_takeDue) := goodIn_app (goodIn_of _ (by decide +kernel)) ggX10_bringSegments_X1_takeDue
set_option maxRecDepth 20000 in
theorem ggX10_bringSegments_X10_isFlow : GoodIn wsX10_bringSegments wsX10_isFlow := goodIn_r _ [25, 3, 95, 96, 97] (by decide +kernel) (by decide +kernel)
set_option maxRecDepth 20000 in
theorem gX10_bringSegments_X10_isFlow : GoodIn wsX10_bringSegments (wsV RX10 33 RX10 yX10_isFlow wsX10_isFlow) := goodIn_app (goodIn_of _ (by decide +kernel)) ggX10_bringSegments_X10_isFlow
set_option maxRecDepth 20000 in
theorem ggX10_bringSegments_X6_take : GoodIn wsX10_bringSegments wsX6_take := goodIn_r _ [30, 31, 32, 33, 34, 35, 36, 37, 38, 39, 40, 41, 29, 42, 43, 44, 45, 46, 47, 48, 49, 50, 51, 52, 53, 54, 55, 56, 57, 58, 59, 60, 61, 62, 63, 64, 65, 66, 67, 68, 69, 70, 71, 72, 73, 74, 16, 17, 7, 18, 13, 19, 20, 75, 76, 77, 78, 79, 80, 81, 82, 83, 84, 85, 86, 87, 88, 89, 90, 91, 92, 93, 116, 117, 118, 119, 120, 121, 122, 125, 126, 127, 128, 129, 130, 131, 132, 133, 134, 135, 136, 98, 99, 100, 101, 102, 103, 104, 105, 106, 107, 108, 109, 110, 111, 112, 113, 114, 115] (by decide +kernel) (by decide +kernel)
set_option maxRecDepth 20000 in
theorem gX10_bringSegments_X6_take : GoodIn wsX10_bringSegments (wsV RX10 123 RX6 yX6_take wsX6_take) := goodIn_app (goodIn_of _ (by decide +kernel)) ggX10_bringSegments_X6_take
set_option maxRecDepth 20000 in
theorem ggX10_bringSegments_X1_append : GoodIn wsX10_bringSegments wsX1_append := goodIn_r _ [93, 20, 13, 19, 116, 117, 118, 119, 120, 121, 122, 113, 114, 115] (by decide +kernel) (by decide +kernel)
set_option maxRecDepth 20000 in
theorem gX10_bringSegments_X1_append : GoodIn wsX10_bringSegments (wsV RX10 130 RX1 yX1_append wsX1_append) := goodIn_app (goodIn_of _ (by decide +kernel)) ggX10_bringSegments_X1_append
theorem dX10_bringSegments_0 : decode cX10_bringSegments 0 = .ok (.aload_n 0, 1) := by decide +kernel
theorem dX10_bringSegments_1 : decode cX10_bringSegments 1 = .ok (.getfield 10, 3) := by decide +kernel
theorem dX10_bringSegments_4 : decode cX10_bringSegments 4 = .ok (.getfield 102, 3) := by decide +kernel
theorem dX10_bringSegments_7 : decode cX10_bringSegments 7 = .ok (.getfield 106, 3) := by decide +kernel
theorem dX10_bringSegments_10 : decode cX10_bringSegments 10 = .ok (.istore_n 1, 1) := by decide +kernel
theorem dX10_bringSegments_11 : decode cX10_bringSegments 11 = .ok (.iload_n 1, 1) := by decide +kernel
theorem dX10_bringSegments_12 : decode cX10_bringSegments 12 = .ok (.ifCond .le 90, 3) := by decide +kernel
theorem dX10_bringSegments_15 : decode cX10_bringSegments 15 = .ok (.aload_n 0, 1) := by decide +kernel
theorem dX10_bringSegments_16 : decode cX10_bringSegments 16 = .ok (.getfield 10, 3) := by decide +kernel
theorem dX10_bringSegments_19 : decode cX10_bringSegments 19 = .ok (.getfield 102, 3) := by decide +kernel
theorem dX10_bringSegments_22 : decode cX10_bringSegments 22 = .ok (.aload_n 0, 1) := by decide +kernel
theorem dX10_bringSegments_23 : decode cX10_bringSegments 23 = .ok (.getfield 60, 3) := by decide +kernel
theorem dX10_bringSegments_26 : decode cX10_bringSegments 26 = .ok (.invokevirtual 111, 3) := by decide +kernel
theorem dX10_bringSegments_29 : decode cX10_bringSegments 29 = .ok (.astore_n 2, 1) := by decide +kernel
theorem dX10_bringSegments_30 : decode cX10_bringSegments 30 = .ok (.aload_n 2, 1) := by decide +kernel
theorem dX10_bringSegments_31 : decode cX10_bringSegments 31 = .ok (.ifnonnull 6, 3) := by decide +kernel
theorem dX10_bringSegments_34 : decode cX10_bringSegments 34 = .ok (.goto 68, 3) := by decide +kernel
theorem dX10_bringSegments_37 : decode cX10_bringSegments 37 = .ok (.aload_n 0, 1) := by decide +kernel
theorem dX10_bringSegments_38 : decode cX10_bringSegments 38 = .ok (.getfield 10, 3) := by decide +kernel
theorem dX10_bringSegments_41 : decode cX10_bringSegments 41 = .ok (.dup, 1) := by decide +kernel
theorem dX10_bringSegments_42 : decode cX10_bringSegments 42 = .ok (.getfield 115, 3) := by decide +kernel
theorem dX10_bringSegments_45 : decode cX10_bringSegments 45 = .ok (.iconst 1, 1) := by decide +kernel
theorem dX10_bringSegments_46 : decode cX10_bringSegments 46 = .ok (.iadd, 1) := by decide +kernel
theorem dX10_bringSegments_47 : decode cX10_bringSegments 47 = .ok (.putfield 115, 3) := by decide +kernel
theorem dX10_bringSegments_50 : decode cX10_bringSegments 50 = .ok (.aload_n 0, 1) := by decide +kernel
theorem dX10_bringSegments_51 : decode cX10_bringSegments 51 = .ok (.aload_n 2, 1) := by decide +kernel
theorem dX10_bringSegments_52 : decode cX10_bringSegments 52 = .ok (.getfield 118, 3) := by decide +kernel
theorem dX10_bringSegments_55 : decode cX10_bringSegments 55 = .ok (.invokevirtual 33, 3) := by decide +kernel
theorem dX10_bringSegments_58 : decode cX10_bringSegments 58 = .ok (.ifCond .eq 27, 3) := by decide +kernel
theorem dX10_bringSegments_61 : decode cX10_bringSegments 61 = .ok (.aload_n 0, 1) := by decide +kernel
theorem dX10_bringSegments_62 : decode cX10_bringSegments 62 = .ok (.getfield 18, 3) := by decide +kernel
theorem dX10_bringSegments_65 : decode cX10_bringSegments 65 = .ok (.aload_n 2, 1) := by decide +kernel
theorem dX10_bringSegments_66 : decode cX10_bringSegments 66 = .ok (.getfield 118, 3) := by decide +kernel
theorem dX10_bringSegments_69 : decode cX10_bringSegments 69 = .ok (.aaload, 1) := by decide +kernel
theorem dX10_bringSegments_70 : decode cX10_bringSegments 70 = .ok (.getfield 48, 3) := by decide +kernel
theorem dX10_bringSegments_73 : decode cX10_bringSegments 73 = .ok (.aload_n 2, 1) := by decide +kernel
theorem dX10_bringSegments_74 : decode cX10_bringSegments 74 = .ok (.aload_n 0, 1) := by decide +kernel
theorem dX10_bringSegments_75 : decode cX10_bringSegments 75 = .ok (.getfield 10, 3) := by decide +kernel
theorem dX10_bringSegments_78 : decode cX10_bringSegments 78 = .ok (.aload_n 0, 1) := by decide +kernel
theorem dX10_bringSegments_79 : decode cX10_bringSegments 79 = .ok (.getfield 60, 3) := by decide +kernel
theorem dX10_bringSegments_82 : decode cX10_bringSegments 82 = .ok (.invokevirtual 123, 3) := by decide +kernel
theorem dX10_bringSegments_85 : decode cX10_bringSegments 85 = .ok (.aload_n 0, 1) := by decide +kernel
theorem dX10_bringSegments_86 : decode cX10_bringSegments 86 = .ok (.getfield 10, 3) := by decide +kernel
theorem dX10_bringSegments_89 : decode cX10_bringSegments 89 = .ok (.getfield 127, 3) := by decide +kernel
theorem dX10_bringSegments_92 : decode cX10_bringSegments 92 = .ok (.aload_n 2, 1) := by decide +kernel
theorem dX10_bringSegments_93 : decode cX10_bringSegments 93 = .ok (.invokevirtual 130, 3) := by decide +kernel
theorem dX10_bringSegments_96 : decode cX10_bringSegments 96 = .ok (.iinc 1 (-1), 3) := by decide +kernel
theorem dX10_bringSegments_99 : decode cX10_bringSegments 99 = .ok (.goto (-88), 3) := by decide +kernel
theorem dX10_bringSegments_102 : decode cX10_bringSegments 102 = .ok (.return_, 1) := by decide +kernel
set_option maxRecDepth 20000 in
theorem ggX10_tellWindowsAndAnswerLate_X6_tellWindow : GoodIn wsX10_tellWindowsAndAnswerLate wsX6_tellWindow := goodIn_r _ [8, 9, 10, 11, 12, 7, 13, 14, 15, 16, 17, 18, 19, 20, 21, 22, 23, 24, 25, 26, 27, 28, 29, 30, 31, 32, 33, 34, 35, 36, 37, 38, 39, 40, 41, 42, 43, 44, 45, 46, 47, 48, 49, 50, 51, 52, 53, 54, 55, 65, 66, 67, 68, 69, 70, 71, 72, 73, 74, 75, 76, 77, 78, 79, 80, 81, 82, 83, 84, 85, 86, 87, 88, 89, 90, 91, 92, 93, 94, 95, 96, 97, 98, 99, 100, 101] (by decide +kernel) (by decide +kernel)
set_option maxRecDepth 20000 in
theorem gX10_tellWindowsAndAnswerLate_X6_tellWindow : GoodIn wsX10_tellWindowsAndAnswerLate (wsV RX10 134 RX6 yX6_tellWindow wsX6_tellWindow) := goodIn_app (goodIn_of _ (by decide +kernel)) ggX10_tellWindowsAndAnswerLate_X6_tellWindow
set_option maxRecDepth 20000 in
theorem ggX10_tellWindowsAndAnswerLate_X6_answerLate : GoodIn wsX10_tellWindowsAndAnswerLate wsX6_answerLate := goodIn_r _ [59, 14, 10, 11, 12, 7, 13, 15, 16, 17, 18, 19, 20, 21, 22, 23, 24, 25, 26, 27, 28, 29, 30, 31, 32, 33, 34, 35, 36, 37, 38, 39, 40, 41, 42, 43, 44, 45, 46, 47, 48, 49, 50, 51, 52, 53, 54, 55, 65, 66, 67, 68, 69, 70, 71, 72, 73, 74, 75, 76, 77, 78, 79, 80, 81, 82, 83, 84, 85, 86, 87, 88, 89, 90, 91, 92, 93, 94, 95, 96, 97, 98, 99, 100, 101] (by decide +kernel) (by decide +kernel)
set_option maxRecDepth 20000 in
theorem gX10_tellWindowsAndAnswerLate_X6_answerLate : GoodIn wsX10_tellWindowsAndAnswerLate (wsV RX10 137 RX6 yX6_answerLate wsX6_answerLate) := goodIn_app (goodIn_of _ (by decide +kernel)) ggX10_tellWindowsAndAnswerLate_X6_answerLate
theorem dX10_tellWindowsAndAnswerLate_0 : decode cX10_tellWindowsAndAnswerLate 0 = .ok (.aload_n 0, 1) := by decide +kernel
theorem dX10_tellWindowsAndAnswerLate_1 : decode cX10_tellWindowsAndAnswerLate 1 = .ok (.getfield 18, 3) := by decide +kernel
theorem dX10_tellWindowsAndAnswerLate_4 : decode cX10_tellWindowsAndAnswerLate 4 = .ok (.astore_n 1, 1) := by decide +kernel
theorem dX10_tellWindowsAndAnswerLate_5 : decode cX10_tellWindowsAndAnswerLate 5 = .ok (.aload_n 1, 1) := by decide +kernel
theorem dX10_tellWindowsAndAnswerLate_6 : decode cX10_tellWindowsAndAnswerLate 6 = .ok (.arraylength, 1) := by decide +kernel
theorem dX10_tellWindowsAndAnswerLate_7 : decode cX10_tellWindowsAndAnswerLate 7 = .ok (.istore_n 2, 1) := by decide +kernel
theorem dX10_tellWindowsAndAnswerLate_8 : decode cX10_tellWindowsAndAnswerLate 8 = .ok (.iconst 0, 1) := by decide +kernel
theorem dX10_tellWindowsAndAnswerLate_9 : decode cX10_tellWindowsAndAnswerLate 9 = .ok (.istore_n 3, 1) := by decide +kernel
theorem dX10_tellWindowsAndAnswerLate_10 : decode cX10_tellWindowsAndAnswerLate 10 = .ok (.iload_n 3, 1) := by decide +kernel
theorem dX10_tellWindowsAndAnswerLate_11 : decode cX10_tellWindowsAndAnswerLate 11 = .ok (.iload_n 2, 1) := by decide +kernel
theorem dX10_tellWindowsAndAnswerLate_12 : decode cX10_tellWindowsAndAnswerLate 12 = .ok (.if_icmp .ge 30, 3) := by decide +kernel
theorem dX10_tellWindowsAndAnswerLate_15 : decode cX10_tellWindowsAndAnswerLate 15 = .ok (.aload_n 1, 1) := by decide +kernel
theorem dX10_tellWindowsAndAnswerLate_16 : decode cX10_tellWindowsAndAnswerLate 16 = .ok (.iload_n 3, 1) := by decide +kernel
theorem dX10_tellWindowsAndAnswerLate_17 : decode cX10_tellWindowsAndAnswerLate 17 = .ok (.aaload, 1) := by decide +kernel
theorem dX10_tellWindowsAndAnswerLate_18 : decode cX10_tellWindowsAndAnswerLate 18 = .ok (.astore 4, 2) := by decide +kernel
theorem dX10_tellWindowsAndAnswerLate_20 : decode cX10_tellWindowsAndAnswerLate 20 = .ok (.aload 4, 2) := by decide +kernel
theorem dX10_tellWindowsAndAnswerLate_22 : decode cX10_tellWindowsAndAnswerLate 22 = .ok (.getfield 48, 3) := by decide +kernel
theorem dX10_tellWindowsAndAnswerLate_25 : decode cX10_tellWindowsAndAnswerLate 25 = .ok (.aload_n 0, 1) := by decide +kernel
theorem dX10_tellWindowsAndAnswerLate_26 : decode cX10_tellWindowsAndAnswerLate 26 = .ok (.getfield 10, 3) := by decide +kernel
theorem dX10_tellWindowsAndAnswerLate_29 : decode cX10_tellWindowsAndAnswerLate 29 = .ok (.aload_n 0, 1) := by decide +kernel
theorem dX10_tellWindowsAndAnswerLate_30 : decode cX10_tellWindowsAndAnswerLate 30 = .ok (.getfield 60, 3) := by decide +kernel
theorem dX10_tellWindowsAndAnswerLate_33 : decode cX10_tellWindowsAndAnswerLate 33 = .ok (.invokevirtual 134, 3) := by decide +kernel
theorem dX10_tellWindowsAndAnswerLate_36 : decode cX10_tellWindowsAndAnswerLate 36 = .ok (.iinc 3 1, 3) := by decide +kernel
theorem dX10_tellWindowsAndAnswerLate_39 : decode cX10_tellWindowsAndAnswerLate 39 = .ok (.goto (-29), 3) := by decide +kernel
theorem dX10_tellWindowsAndAnswerLate_42 : decode cX10_tellWindowsAndAnswerLate 42 = .ok (.aload_n 0, 1) := by decide +kernel
theorem dX10_tellWindowsAndAnswerLate_43 : decode cX10_tellWindowsAndAnswerLate 43 = .ok (.getfield 18, 3) := by decide +kernel
theorem dX10_tellWindowsAndAnswerLate_46 : decode cX10_tellWindowsAndAnswerLate 46 = .ok (.astore_n 1, 1) := by decide +kernel
theorem dX10_tellWindowsAndAnswerLate_47 : decode cX10_tellWindowsAndAnswerLate 47 = .ok (.aload_n 1, 1) := by decide +kernel
theorem dX10_tellWindowsAndAnswerLate_48 : decode cX10_tellWindowsAndAnswerLate 48 = .ok (.arraylength, 1) := by decide +kernel
theorem dX10_tellWindowsAndAnswerLate_49 : decode cX10_tellWindowsAndAnswerLate 49 = .ok (.istore_n 2, 1) := by decide +kernel
theorem dX10_tellWindowsAndAnswerLate_50 : decode cX10_tellWindowsAndAnswerLate 50 = .ok (.iconst 0, 1) := by decide +kernel
theorem dX10_tellWindowsAndAnswerLate_51 : decode cX10_tellWindowsAndAnswerLate 51 = .ok (.istore_n 3, 1) := by decide +kernel
theorem dX10_tellWindowsAndAnswerLate_52 : decode cX10_tellWindowsAndAnswerLate 52 = .ok (.iload_n 3, 1) := by decide +kernel
theorem dX10_tellWindowsAndAnswerLate_53 : decode cX10_tellWindowsAndAnswerLate 53 = .ok (.iload_n 2, 1) := by decide +kernel
theorem dX10_tellWindowsAndAnswerLate_54 : decode cX10_tellWindowsAndAnswerLate 54 = .ok (.if_icmp .ge 30, 3) := by decide +kernel
theorem dX10_tellWindowsAndAnswerLate_57 : decode cX10_tellWindowsAndAnswerLate 57 = .ok (.aload_n 1, 1) := by decide +kernel
theorem dX10_tellWindowsAndAnswerLate_58 : decode cX10_tellWindowsAndAnswerLate 58 = .ok (.iload_n 3, 1) := by decide +kernel
theorem dX10_tellWindowsAndAnswerLate_59 : decode cX10_tellWindowsAndAnswerLate 59 = .ok (.aaload, 1) := by decide +kernel
theorem dX10_tellWindowsAndAnswerLate_60 : decode cX10_tellWindowsAndAnswerLate 60 = .ok (.astore 4, 2) := by decide +kernel
theorem dX10_tellWindowsAndAnswerLate_62 : decode cX10_tellWindowsAndAnswerLate 62 = .ok (.aload 4, 2) := by decide +kernel
theorem dX10_tellWindowsAndAnswerLate_64 : decode cX10_tellWindowsAndAnswerLate 64 = .ok (.getfield 48, 3) := by decide +kernel
theorem dX10_tellWindowsAndAnswerLate_67 : decode cX10_tellWindowsAndAnswerLate 67 = .ok (.aload_n 0, 1) := by decide +kernel
theorem dX10_tellWindowsAndAnswerLate_68 : decode cX10_tellWindowsAndAnswerLate 68 = .ok (.getfield 10, 3) := by decide +kernel
theorem dX10_tellWindowsAndAnswerLate_71 : decode cX10_tellWindowsAndAnswerLate 71 = .ok (.aload_n 0, 1) := by decide +kernel
theorem dX10_tellWindowsAndAnswerLate_72 : decode cX10_tellWindowsAndAnswerLate 72 = .ok (.getfield 60, 3) := by decide +kernel
theorem dX10_tellWindowsAndAnswerLate_75 : decode cX10_tellWindowsAndAnswerLate 75 = .ok (.invokevirtual 137, 3) := by decide +kernel
theorem dX10_tellWindowsAndAnswerLate_78 : decode cX10_tellWindowsAndAnswerLate 78 = .ok (.iinc 3 1, 3) := by decide +kernel
theorem dX10_tellWindowsAndAnswerLate_81 : decode cX10_tellWindowsAndAnswerLate 81 = .ok (.goto (-29), 3) := by decide +kernel
theorem dX10_tellWindowsAndAnswerLate_84 : decode cX10_tellWindowsAndAnswerLate 84 = .ok (.return_, 1) := by decide +kernel
set_option maxRecDepth 20000 in
theorem ggX10_bringAcks_X1_takeDue : GoodIn wsX10_bringAcks wsX1_takeDue := goodIn_r _ [8, 9, 10, 11, 7, 12, 13, 14, 15, 16, 17, 18, 19, 20, 274, 275, 276, 277, 278, 279, 280, 281, 282, 283] (by decide +kernel) (by decide +kernel)
set_option maxRecDepth 20000 in
theorem gX10_bringAcks_X1_takeDue : GoodIn wsX10_bringAcks (wsV RX10 111 RX1 yX1_takeDue wsX1_takeDue) := goodIn_app (goodIn_of _ (by decide +kernel)) ggX10_bringAcks_X1_takeDue
set_option maxRecDepth 20000 in
theorem ggX10_bringAcks_X10_isFlow : GoodIn wsX10_bringAcks wsX10_isFlow := goodIn_r _ [25, 3, 256, 257, 258] (by decide +kernel) (by decide +kernel)
set_option maxRecDepth 20000 in
theorem gX10_bringAcks_X10_isFlow : GoodIn wsX10_bringAcks (wsV RX10 33 RX10 yX10_isFlow wsX10_isFlow) := goodIn_app (goodIn_of _ (by decide +kernel)) ggX10_bringAcks_X10_isFlow
set_option maxRecDepth 20000 in
theorem ggX10_bringAcks_X8_hear : GoodIn wsX10_bringAcks wsX8_hear := goodIn_r _ [30, 31, 32, 33, 34, 35, 36, 37, 38, 39, 40, 41, 42, 29, 43, 44, 45, 46, 47, 48, 49, 50, 51, 52, 53, 54, 55, 56, 57, 58, 59, 60, 61, 62, 63, 64, 65, 66, 67, 68, 69, 70, 71, 72, 73, 74, 75, 76, 77, 78, 79, 80, 81, 82, 83, 84, 85, 86, 87, 88, 89, 90, 91, 92, 93, 94, 95, 96, 97, 98, 99, 100, 101, 102, 103, 104, 105, 106, 107, 108, 109, 110, 111, 112, 113, 114, 115, 116, 117, 118, 119, 120, 121, 122, 123, 124, 125, 126, 127, 128, 129, 130, 131, 132, 133, 134, 135, 136, 137, 138, 139, 140, 141, 142, 143, 144, 145, 146, 147, 148, 149, 150, 151, 152, 153, 154, 155, 156, 157, 158, 159, 160, 161, 162, 163, 164, 165, 166, 167, 168, 169, 170, 171, 172, 173, 16, 17, 7, 18, 13, 19, 20, 174, 175, 176, 177, 178, 179, 180, 181, 182, 183, 184, 185, 186, 187, 188, 189, 190, 191, 192, 193, 194, 195, 196, 197, 198, 199, 200, 201, 202, 203, 204, 205, 206, 207, 208, 209, 210, 211, 212, 213, 214, 215, 216, 217, 218, 219, 220, 221, 222, 223, 224, 225, 226, 227, 228, 229, 230, 231, 232, 233, 234, 235, 236, 237, 238, 239, 240, 241, 242, 243, 244, 245, 246, 247, 248, 249, 250, 251, 252, 253, 254, 277, 278, 279, 280, 281, 282, 283, 286, 287, 288, 289, 290, 291, 292, 293, 294, 295, 296, 297, 298, 299, 300, 301, 302, 303, 304, 305, 306, 307, 308, 309, 310, 311, 312, 313, 314, 315, 316, 259, 260, 261, 262, 263, 264, 265, 266, 267, 268, 269, 270, 271, 272, 273, 274, 275, 276, 317, 318, 319, 320, 321] (by decide +kernel) (by decide +kernel)
set_option maxRecDepth 20000 in
theorem gX10_bringAcks_X8_hear : GoodIn wsX10_bringAcks (wsV RX10 143 RX8 yX8_hear wsX8_hear) := goodIn_app (goodIn_of _ (by decide +kernel)) ggX10_bringAcks_X8_hear
set_option maxRecDepth 20000 in
theorem ggX10_bringAcks_X1_append : GoodIn wsX10_bringAcks wsX1_append := goodIn_r _ [184, 20, 13, 19, 277, 278, 279, 280, 281, 282, 283, 274, 275, 276] (by decide +kernel) (by decide +kernel)
set_option maxRecDepth 20000 in
theorem gX10_bringAcks_X1_append : GoodIn wsX10_bringAcks (wsV RX10 130 RX1 yX1_append wsX1_append) := goodIn_app (goodIn_of _ (by decide +kernel)) ggX10_bringAcks_X1_append
theorem dX10_bringAcks_0 : decode cX10_bringAcks 0 = .ok (.aload_n 0, 1) := by decide +kernel
theorem dX10_bringAcks_1 : decode cX10_bringAcks 1 = .ok (.getfield 10, 3) := by decide +kernel
theorem dX10_bringAcks_4 : decode cX10_bringAcks 4 = .ok (.getfield 140, 3) := by decide +kernel
theorem dX10_bringAcks_7 : decode cX10_bringAcks 7 = .ok (.getfield 106, 3) := by decide +kernel
theorem dX10_bringAcks_10 : decode cX10_bringAcks 10 = .ok (.istore_n 1, 1) := by decide +kernel
theorem dX10_bringAcks_11 : decode cX10_bringAcks 11 = .ok (.iload_n 1, 1) := by decide +kernel
theorem dX10_bringAcks_12 : decode cX10_bringAcks 12 = .ok (.ifCond .le 77, 3) := by decide +kernel
theorem dX10_bringAcks_15 : decode cX10_bringAcks 15 = .ok (.aload_n 0, 1) := by decide +kernel
theorem dX10_bringAcks_16 : decode cX10_bringAcks 16 = .ok (.getfield 10, 3) := by decide +kernel
theorem dX10_bringAcks_19 : decode cX10_bringAcks 19 = .ok (.getfield 140, 3) := by decide +kernel
theorem dX10_bringAcks_22 : decode cX10_bringAcks 22 = .ok (.aload_n 0, 1) := by decide +kernel
theorem dX10_bringAcks_23 : decode cX10_bringAcks 23 = .ok (.getfield 60, 3) := by decide +kernel
theorem dX10_bringAcks_26 : decode cX10_bringAcks 26 = .ok (.invokevirtual 111, 3) := by decide +kernel
theorem dX10_bringAcks_29 : decode cX10_bringAcks 29 = .ok (.astore_n 2, 1) := by decide +kernel
theorem dX10_bringAcks_30 : decode cX10_bringAcks 30 = .ok (.aload_n 2, 1) := by decide +kernel
theorem dX10_bringAcks_31 : decode cX10_bringAcks 31 = .ok (.ifnonnull 6, 3) := by decide +kernel
theorem dX10_bringAcks_34 : decode cX10_bringAcks 34 = .ok (.goto 55, 3) := by decide +kernel
theorem dX10_bringAcks_37 : decode cX10_bringAcks 37 = .ok (.aload_n 0, 1) := by decide +kernel
theorem dX10_bringAcks_38 : decode cX10_bringAcks 38 = .ok (.aload_n 2, 1) := by decide +kernel
theorem dX10_bringAcks_39 : decode cX10_bringAcks 39 = .ok (.getfield 118, 3) := by decide +kernel
theorem dX10_bringAcks_42 : decode cX10_bringAcks 42 = .ok (.invokevirtual 33, 3) := by decide +kernel
theorem dX10_bringAcks_45 : decode cX10_bringAcks 45 = .ok (.ifCond .eq 27, 3) := by decide +kernel
theorem dX10_bringAcks_48 : decode cX10_bringAcks 48 = .ok (.aload_n 0, 1) := by decide +kernel
theorem dX10_bringAcks_49 : decode cX10_bringAcks 49 = .ok (.getfield 18, 3) := by decide +kernel
theorem dX10_bringAcks_52 : decode cX10_bringAcks 52 = .ok (.aload_n 2, 1) := by decide +kernel
theorem dX10_bringAcks_53 : decode cX10_bringAcks 53 = .ok (.getfield 118, 3) := by decide +kernel
theorem dX10_bringAcks_56 : decode cX10_bringAcks 56 = .ok (.aaload, 1) := by decide +kernel
theorem dX10_bringAcks_57 : decode cX10_bringAcks 57 = .ok (.getfield 38, 3) := by decide +kernel
theorem dX10_bringAcks_60 : decode cX10_bringAcks 60 = .ok (.aload_n 2, 1) := by decide +kernel
theorem dX10_bringAcks_61 : decode cX10_bringAcks 61 = .ok (.aload_n 0, 1) := by decide +kernel
theorem dX10_bringAcks_62 : decode cX10_bringAcks 62 = .ok (.getfield 10, 3) := by decide +kernel
theorem dX10_bringAcks_65 : decode cX10_bringAcks 65 = .ok (.aload_n 0, 1) := by decide +kernel
theorem dX10_bringAcks_66 : decode cX10_bringAcks 66 = .ok (.getfield 60, 3) := by decide +kernel
theorem dX10_bringAcks_69 : decode cX10_bringAcks 69 = .ok (.invokevirtual 143, 3) := by decide +kernel
theorem dX10_bringAcks_72 : decode cX10_bringAcks 72 = .ok (.aload_n 0, 1) := by decide +kernel
theorem dX10_bringAcks_73 : decode cX10_bringAcks 73 = .ok (.getfield 10, 3) := by decide +kernel
theorem dX10_bringAcks_76 : decode cX10_bringAcks 76 = .ok (.getfield 127, 3) := by decide +kernel
theorem dX10_bringAcks_79 : decode cX10_bringAcks 79 = .ok (.aload_n 2, 1) := by decide +kernel
theorem dX10_bringAcks_80 : decode cX10_bringAcks 80 = .ok (.invokevirtual 130, 3) := by decide +kernel
theorem dX10_bringAcks_83 : decode cX10_bringAcks 83 = .ok (.iinc 1 (-1), 3) := by decide +kernel
theorem dX10_bringAcks_86 : decode cX10_bringAcks 86 = .ok (.goto (-75), 3) := by decide +kernel
theorem dX10_bringAcks_89 : decode cX10_bringAcks 89 = .ok (.return_, 1) := by decide +kernel
set_option maxRecDepth 20000 in
theorem ggX10_nextBusyTick_X7_nextDue : GoodIn wsX10_nextBusyTick wsX7_nextDue := goodIn_r _ [15, 16, 17, 18, 3, 4, 5, 19, 20, 21, 22, 23, 24, 25, 26, 74, 75, 76, 77, 78, 79, 80, 81, 82, 83, 84, 85, 86, 87, 88, 89, 90, 91, 92, 93, 94, 95, 96, 97, 98] (by decide +kernel) (by decide +kernel)
set_option maxRecDepth 20000 in
theorem gX10_nextBusyTick_X7_nextDue : GoodIn wsX10_nextBusyTick (wsV RX10 146 RX7 yX7_nextDue wsX7_nextDue) := goodIn_app (goodIn_of _ (by decide +kernel)) ggX10_nextBusyTick_X7_nextDue
set_option maxRecDepth 20000 in
theorem ggX10_nextBusyTick_X10_orNever : GoodIn wsX10_nextBusyTick wsX10_orNever := goodIn_r _ [30, 31] (by decide +kernel) (by decide +kernel)
set_option maxRecDepth 20000 in
theorem gX10_nextBusyTick_X10_orNever : GoodIn wsX10_nextBusyTick (va_wsS RX10 159 yX10_orNever wsX10_orNever) := goodIn_app (goodIn_of _ (by decide +kernel)) ggX10_nextBusyTick_X10_orNever
theorem dX10_nextBusyTick_0 : decode cX10_nextBusyTick 0 = .ok (.iload_n 1, 1) := by decide +kernel
theorem dX10_nextBusyTick_1 : decode cX10_nextBusyTick 1 = .ok (.aload_n 0, 1) := by decide +kernel
theorem dX10_nextBusyTick_2 : decode cX10_nextBusyTick 2 = .ok (.getfield 10, 3) := by decide +kernel
theorem dX10_nextBusyTick_5 : decode cX10_nextBusyTick 5 = .ok (.invokevirtual 146, 3) := by decide +kernel
theorem dX10_nextBusyTick_8 : decode cX10_nextBusyTick 8 = .ok (.invokestatic 150, 3) := by decide +kernel
theorem dX10_nextBusyTick_11 : decode cX10_nextBusyTick 11 = .ok (.istore_n 2, 1) := by decide +kernel
theorem dX10_nextBusyTick_12 : decode cX10_nextBusyTick 12 = .ok (.aload_n 0, 1) := by decide +kernel
theorem dX10_nextBusyTick_13 : decode cX10_nextBusyTick 13 = .ok (.getfield 18, 3) := by decide +kernel
theorem dX10_nextBusyTick_16 : decode cX10_nextBusyTick 16 = .ok (.astore_n 3, 1) := by decide +kernel
theorem dX10_nextBusyTick_17 : decode cX10_nextBusyTick 17 = .ok (.aload_n 3, 1) := by decide +kernel
theorem dX10_nextBusyTick_18 : decode cX10_nextBusyTick 18 = .ok (.arraylength, 1) := by decide +kernel
theorem dX10_nextBusyTick_19 : decode cX10_nextBusyTick 19 = .ok (.istore 4, 2) := by decide +kernel
theorem dX10_nextBusyTick_21 : decode cX10_nextBusyTick 21 = .ok (.iconst 0, 1) := by decide +kernel
theorem dX10_nextBusyTick_22 : decode cX10_nextBusyTick 22 = .ok (.istore 5, 2) := by decide +kernel
theorem dX10_nextBusyTick_24 : decode cX10_nextBusyTick 24 = .ok (.iload 5, 2) := by decide +kernel
theorem dX10_nextBusyTick_26 : decode cX10_nextBusyTick 26 = .ok (.iload 4, 2) := by decide +kernel
theorem dX10_nextBusyTick_28 : decode cX10_nextBusyTick 28 = .ok (.if_icmp .ge 50, 3) := by decide +kernel
theorem dX10_nextBusyTick_31 : decode cX10_nextBusyTick 31 = .ok (.aload_n 3, 1) := by decide +kernel
theorem dX10_nextBusyTick_32 : decode cX10_nextBusyTick 32 = .ok (.iload 5, 2) := by decide +kernel
theorem dX10_nextBusyTick_34 : decode cX10_nextBusyTick 34 = .ok (.aaload, 1) := by decide +kernel
theorem dX10_nextBusyTick_35 : decode cX10_nextBusyTick 35 = .ok (.astore 6, 2) := by decide +kernel
theorem dX10_nextBusyTick_37 : decode cX10_nextBusyTick 37 = .ok (.iload_n 2, 1) := by decide +kernel
theorem dX10_nextBusyTick_38 : decode cX10_nextBusyTick 38 = .ok (.aload 6, 2) := by decide +kernel
theorem dX10_nextBusyTick_40 : decode cX10_nextBusyTick 40 = .ok (.getfield 48, 3) := by decide +kernel
theorem dX10_nextBusyTick_43 : decode cX10_nextBusyTick 43 = .ok (.getfield 156, 3) := by decide +kernel
theorem dX10_nextBusyTick_46 : decode cX10_nextBusyTick 46 = .ok (.invokestatic 159, 3) := by decide +kernel
theorem dX10_nextBusyTick_49 : decode cX10_nextBusyTick 49 = .ok (.invokestatic 150, 3) := by decide +kernel
theorem dX10_nextBusyTick_52 : decode cX10_nextBusyTick 52 = .ok (.istore_n 2, 1) := by decide +kernel
theorem dX10_nextBusyTick_53 : decode cX10_nextBusyTick 53 = .ok (.iload_n 2, 1) := by decide +kernel
theorem dX10_nextBusyTick_54 : decode cX10_nextBusyTick 54 = .ok (.aload 6, 2) := by decide +kernel
theorem dX10_nextBusyTick_56 : decode cX10_nextBusyTick 56 = .ok (.getfield 38, 3) := by decide +kernel
theorem dX10_nextBusyTick_59 : decode cX10_nextBusyTick 59 = .ok (.getfield 162, 3) := by decide +kernel
theorem dX10_nextBusyTick_62 : decode cX10_nextBusyTick 62 = .ok (.getfield 166, 3) := by decide +kernel
theorem dX10_nextBusyTick_65 : decode cX10_nextBusyTick 65 = .ok (.invokestatic 159, 3) := by decide +kernel
theorem dX10_nextBusyTick_68 : decode cX10_nextBusyTick 68 = .ok (.invokestatic 150, 3) := by decide +kernel
theorem dX10_nextBusyTick_71 : decode cX10_nextBusyTick 71 = .ok (.istore_n 2, 1) := by decide +kernel
theorem dX10_nextBusyTick_72 : decode cX10_nextBusyTick 72 = .ok (.iinc 5 1, 3) := by decide +kernel
theorem dX10_nextBusyTick_75 : decode cX10_nextBusyTick 75 = .ok (.goto (-51), 3) := by decide +kernel
theorem dX10_nextBusyTick_78 : decode cX10_nextBusyTick 78 = .ok (.aload_n 0, 1) := by decide +kernel
theorem dX10_nextBusyTick_79 : decode cX10_nextBusyTick 79 = .ok (.getfield 60, 3) := by decide +kernel
theorem dX10_nextBusyTick_82 : decode cX10_nextBusyTick 82 = .ok (.iconst 1, 1) := by decide +kernel
theorem dX10_nextBusyTick_83 : decode cX10_nextBusyTick 83 = .ok (.iadd, 1) := by decide +kernel
theorem dX10_nextBusyTick_84 : decode cX10_nextBusyTick 84 = .ok (.iload_n 2, 1) := by decide +kernel
theorem dX10_nextBusyTick_85 : decode cX10_nextBusyTick 85 = .ok (.invokestatic 171, 3) := by decide +kernel
theorem dX10_nextBusyTick_88 : decode cX10_nextBusyTick 88 = .ok (.ireturn, 1) := by decide +kernel
theorem dX10_orNever_0 : decode cX10_orNever 0 = .ok (.iload_n 0, 1) := by decide +kernel
theorem dX10_orNever_1 : decode cX10_orNever 1 = .ok (.iconst (-1), 1) := by decide +kernel
theorem dX10_orNever_2 : decode cX10_orNever 2 = .ok (.if_icmp .ne 8, 3) := by decide +kernel
theorem dX10_orNever_5 : decode cX10_orNever 5 = .ok (.ldc 174, 2) := by decide +kernel
theorem dX10_orNever_7 : decode cX10_orNever 7 = .ok (.goto 4, 3) := by decide +kernel
theorem dX10_orNever_10 : decode cX10_orNever 10 = .ok (.iload_n 0, 1) := by decide +kernel
theorem dX10_orNever_11 : decode cX10_orNever 11 = .ok (.ireturn, 1) := by decide +kernel
theorem dX10_within_0 : decode cX10_within 0 = .ok (.iload_n 0, 1) := by decide +kernel
theorem dX10_within_1 : decode cX10_within 1 = .ok (.iload_n 1, 1) := by decide +kernel
theorem dX10_within_2 : decode cX10_within 2 = .ok (.if_icmp .lt 12, 3) := by decide +kernel
theorem dX10_within_5 : decode cX10_within 5 = .ok (.iload_n 0, 1) := by decide +kernel
theorem dX10_within_6 : decode cX10_within 6 = .ok (.iload_n 2, 1) := by decide +kernel
theorem dX10_within_7 : decode cX10_within 7 = .ok (.if_icmp .gt 7, 3) := by decide +kernel
theorem dX10_within_10 : decode cX10_within 10 = .ok (.iconst 1, 1) := by decide +kernel
theorem dX10_within_11 : decode cX10_within 11 = .ok (.goto 4, 3) := by decide +kernel
theorem dX10_within_14 : decode cX10_within 14 = .ok (.iconst 0, 1) := by decide +kernel
theorem dX10_within_15 : decode cX10_within 15 = .ok (.ireturn, 1) := by decide +kernel
theorem dX11_init_0 : decode cX11_init 0 = .ok (.aload_n 0, 1) := by decide +kernel
theorem dX11_init_1 : decode cX11_init 1 = .ok (.invokespecial 1, 3) := by decide +kernel
theorem dX11_init_4 : decode cX11_init 4 = .ok (.aload_n 0, 1) := by decide +kernel
theorem dX11_init_5 : decode cX11_init 5 = .ok (.bipush 10, 2) := by decide +kernel
theorem dX11_init_7 : decode cX11_init 7 = .ok (.putfield 7, 3) := by decide +kernel
theorem dX11_init_10 : decode cX11_init 10 = .ok (.aload_n 0, 1) := by decide +kernel
theorem dX11_init_11 : decode cX11_init 11 = .ok (.bipush 20, 2) := by decide +kernel
theorem dX11_init_13 : decode cX11_init 13 = .ok (.putfield 13, 3) := by decide +kernel
theorem dX11_init_16 : decode cX11_init 16 = .ok (.aload_n 0, 1) := by decide +kernel
theorem dX11_init_17 : decode cX11_init 17 = .ok (.bipush 20, 2) := by decide +kernel
theorem dX11_init_19 : decode cX11_init 19 = .ok (.putfield 16, 3) := by decide +kernel
theorem dX11_init_22 : decode cX11_init 22 = .ok (.aload_n 0, 1) := by decide +kernel
theorem dX11_init_23 : decode cX11_init 23 = .ok (.bipush 20, 2) := by decide +kernel
theorem dX11_init_25 : decode cX11_init 25 = .ok (.putfield 19, 3) := by decide +kernel
theorem dX11_init_28 : decode cX11_init 28 = .ok (.aload_n 0, 1) := by decide +kernel
theorem dX11_init_29 : decode cX11_init 29 = .ok (.bipush 102, 2) := by decide +kernel
theorem dX11_init_31 : decode cX11_init 31 = .ok (.newarray .int, 2) := by decide +kernel
theorem dX11_init_33 : decode cX11_init 33 = .ok (.putfield 22, 3) := by decide +kernel
theorem dX11_init_36 : decode cX11_init 36 = .ok (.aload_n 0, 1) := by decide +kernel
theorem dX11_init_37 : decode cX11_init 37 = .ok (.bipush 102, 2) := by decide +kernel
theorem dX11_init_39 : decode cX11_init 39 = .ok (.newarray .int, 2) := by decide +kernel
theorem dX11_init_41 : decode cX11_init 41 = .ok (.putfield 26, 3) := by decide +kernel
theorem dX11_init_44 : decode cX11_init 44 = .ok (.aload_n 0, 1) := by decide +kernel
theorem dX11_init_45 : decode cX11_init 45 = .ok (.bipush 102, 2) := by decide +kernel
theorem dX11_init_47 : decode cX11_init 47 = .ok (.newarray .boolean, 2) := by decide +kernel
theorem dX11_init_49 : decode cX11_init 49 = .ok (.putfield 29, 3) := by decide +kernel
theorem dX11_init_52 : decode cX11_init 52 = .ok (.aload_n 0, 1) := by decide +kernel
theorem dX11_init_53 : decode cX11_init 53 = .ok (.sipush 4096, 3) := by decide +kernel
theorem dX11_init_56 : decode cX11_init 56 = .ok (.newarray .int, 2) := by decide +kernel
theorem dX11_init_58 : decode cX11_init 58 = .ok (.putfield 33, 3) := by decide +kernel
theorem dX11_init_61 : decode cX11_init 61 = .ok (.aload_n 0, 1) := by decide +kernel
theorem dX11_init_62 : decode cX11_init 62 = .ok (.sipush 4096, 3) := by decide +kernel
theorem dX11_init_65 : decode cX11_init 65 = .ok (.newarray .int, 2) := by decide +kernel
theorem dX11_init_67 : decode cX11_init 67 = .ok (.putfield 36, 3) := by decide +kernel
theorem dX11_init_70 : decode cX11_init 70 = .ok (.aload_n 0, 1) := by decide +kernel
theorem dX11_init_71 : decode cX11_init 71 = .ok (.sipush 4096, 3) := by decide +kernel
theorem dX11_init_74 : decode cX11_init 74 = .ok (.newarray .int, 2) := by decide +kernel
theorem dX11_init_76 : decode cX11_init 76 = .ok (.putfield 39, 3) := by decide +kernel
theorem dX11_init_79 : decode cX11_init 79 = .ok (.aload_n 0, 1) := by decide +kernel
theorem dX11_init_80 : decode cX11_init 80 = .ok (.sipush 4096, 3) := by decide +kernel
