theorem dX8_lookAtTimer_0 : decode cX8_lookAtTimer 0 = .ok (.aload_n 0, 1) := by decide +kernel
theorem dX8_lookAtTimer_1 : decode cX8_lookAtTimer 1 = .ok (.getfield 28, 3) := by decide +kernel
theorem dX8_lookAtTimer_4 : decode cX8_lookAtTimer 4 = .ok (.getfield 114, 3) := by decide +kernel
theorem dX8_lookAtTimer_7 : decode cX8_lookAtTimer 7 = .ok (.iload_n 2, 1) := by decide +kernel
theorem dX8_lookAtTimer_8 : decode cX8_lookAtTimer 8 = .ok (.if_icmp .eq 4, 3) := by decide +kernel
theorem dX8_lookAtTimer_11 : decode cX8_lookAtTimer 11 = .ok (.return_, 1) := by decide +kernel
theorem dX8_lookAtTimer_12 : decode cX8_lookAtTimer 12 = .ok (.aload_n 0, 1) := by decide +kernel
theorem dX8_lookAtTimer_13 : decode cX8_lookAtTimer 13 = .ok (.getfield 28, 3) := by decide +kernel
theorem dX8_lookAtTimer_16 : decode cX8_lookAtTimer 16 = .ok (.invokevirtual 111, 3) := by decide +kernel
theorem dX8_lookAtTimer_19 : decode cX8_lookAtTimer 19 = .ok (.aload_n 0, 1) := by decide +kernel
theorem dX8_lookAtTimer_20 : decode cX8_lookAtTimer 20 = .ok (.getfield 28, 3) := by decide +kernel
theorem dX8_lookAtTimer_23 : decode cX8_lookAtTimer 23 = .ok (.iconst (-1), 1) := by decide +kernel
theorem dX8_lookAtTimer_24 : decode cX8_lookAtTimer 24 = .ok (.putfield 117, 3) := by decide +kernel
theorem dX8_lookAtTimer_27 : decode cX8_lookAtTimer 27 = .ok (.aload_n 0, 1) := by decide +kernel
theorem dX8_lookAtTimer_28 : decode cX8_lookAtTimer 28 = .ok (.getfield 65, 3) := by decide +kernel
theorem dX8_lookAtTimer_31 : decode cX8_lookAtTimer 31 = .ok (.aload_n 0, 1) := by decide +kernel
theorem dX8_lookAtTimer_32 : decode cX8_lookAtTimer 32 = .ok (.getfield 59, 3) := by decide +kernel
theorem dX8_lookAtTimer_35 : decode cX8_lookAtTimer 35 = .ok (.if_icmp .le 10, 3) := by decide +kernel
theorem dX8_lookAtTimer_38 : decode cX8_lookAtTimer 38 = .ok (.aload_n 0, 1) := by decide +kernel
theorem dX8_lookAtTimer_39 : decode cX8_lookAtTimer 39 = .ok (.invokevirtual 120, 3) := by decide +kernel
theorem dX8_lookAtTimer_42 : decode cX8_lookAtTimer 42 = .ok (.goto 27, 3) := by decide +kernel
theorem dX8_lookAtTimer_45 : decode cX8_lookAtTimer 45 = .ok (.aload_n 0, 1) := by decide +kernel
theorem dX8_lookAtTimer_46 : decode cX8_lookAtTimer 46 = .ok (.getfield 22, 3) := by decide +kernel
theorem dX8_lookAtTimer_49 : decode cX8_lookAtTimer 49 = .ok (.ifCond .ne 20, 3) := by decide +kernel
theorem dX8_lookAtTimer_52 : decode cX8_lookAtTimer 52 = .ok (.aload_n 0, 1) := by decide +kernel
theorem dX8_lookAtTimer_53 : decode cX8_lookAtTimer 53 = .ok (.getfield 65, 3) := by decide +kernel
theorem dX8_lookAtTimer_56 : decode cX8_lookAtTimer 56 = .ok (.aload_n 0, 1) := by decide +kernel
theorem dX8_lookAtTimer_57 : decode cX8_lookAtTimer 57 = .ok (.getfield 52, 3) := by decide +kernel
theorem dX8_lookAtTimer_60 : decode cX8_lookAtTimer 60 = .ok (.if_icmp .ge 9, 3) := by decide +kernel
theorem dX8_lookAtTimer_63 : decode cX8_lookAtTimer 63 = .ok (.aload_n 0, 1) := by decide +kernel
theorem dX8_lookAtTimer_64 : decode cX8_lookAtTimer 64 = .ok (.aload_n 1, 1) := by decide +kernel
theorem dX8_lookAtTimer_65 : decode cX8_lookAtTimer 65 = .ok (.iload_n 2, 1) := by decide +kernel
theorem dX8_lookAtTimer_66 : decode cX8_lookAtTimer 66 = .ok (.invokevirtual 123, 3) := by decide +kernel
theorem dX8_lookAtTimer_69 : decode cX8_lookAtTimer 69 = .ok (.return_, 1) := by decide +kernel
set_option maxRecDepth 20000 in
theorem ggX8_sendWhatMay_X8_nextToSend : GoodIn wsX8_sendWhatMay wsX8_nextToSend := goodIn_r _ [11, 12, 13, 4, 14, 2, 5, 3, 15, 16, 17, 10, 18, 19, 20, 21, 22, 23, 24, 25, 26, 27, 28, 29, 30, 31, 32, 33, 34, 35, 36, 37, 38, 39, 40, 41, 42, 43, 44, 45, 46, 47, 125, 126, 127, 128, 129, 130, 131, 132, 133, 134, 135, 136, 137, 138, 139, 140, 141, 142, 143, 144, 145, 146, 147, 148, 149] (by decide +kernel) (by decide +kernel)
set_option maxRecDepth 20000 in
theorem gX8_sendWhatMay_X8_nextToSend : GoodIn wsX8_sendWhatMay (wsV RX8 127 RX8 yX8_nextToSend wsX8_nextToSend) := goodIn_app (goodIn_of _ (by decide +kernel)) ggX8_sendWhatMay_X8_nextToSend
set_option maxRecDepth 20000 in
theorem ggX8_sendWhatMay_X8_transmit : GoodIn wsX8_sendWhatMay wsX8_transmit := goodIn_r _ [51, 14, 52, 13, 53, 54, 55, 56, 6, 57, 58, 59, 60, 35, 61, 37, 62, 63, 64, 65, 66, 67, 68, 69, 70, 71, 72, 73, 74, 75, 76, 77, 78, 79, 80, 81, 82, 83, 84, 85, 86, 87, 88, 89, 90, 91, 92, 93, 94, 95, 96, 97, 98, 99, 100, 101, 102, 103, 104, 105, 106, 107, 108, 109, 110, 111, 112, 113, 114, 115, 116, 117, 118, 119, 120, 121, 122, 123, 125, 126, 127, 128, 129, 130, 131, 132, 133, 134, 135, 136, 137, 138, 139, 140, 141, 142, 143, 144, 145, 146, 147, 148, 149, 150, 151, 152, 153, 154, 155, 156, 157, 158, 159, 160, 161, 162, 163, 164, 165, 166, 167, 168, 169, 170, 171, 172, 173, 174, 175, 176, 177, 178, 179, 180] (by decide +kernel) (by decide +kernel)
set_option maxRecDepth 20000 in
theorem gX8_sendWhatMay_X8_transmit : GoodIn wsX8_sendWhatMay (wsV RX8 131 RX8 yX8_transmit wsX8_transmit) := goodIn_app (goodIn_of _ (by decide +kernel)) ggX8_sendWhatMay_X8_transmit
set_option maxRecDepth 20000 in
theorem ggX8_sendWhatMay_X9_setIfOff : GoodIn wsX8_sendWhatMay wsX9_setIfOff := goodIn_r _ [72, 73, 74, 75, 76, 65, 77, 78, 150, 151, 152, 153, 154, 155] (by decide +kernel) (by decide +kernel)
set_option maxRecDepth 20000 in
theorem gX8_sendWhatMay_X9_setIfOff : GoodIn wsX8_sendWhatMay (wsV RX8 134 RX9 yX9_setIfOff wsX9_setIfOff) := goodIn_app (goodIn_of _ (by decide +kernel)) ggX8_sendWhatMay_X9_setIfOff
theorem dX8_sendWhatMay_0 : decode cX8_sendWhatMay 0 = .ok (.iconst 0, 1) := by decide +kernel
theorem dX8_sendWhatMay_1 : decode cX8_sendWhatMay 1 = .ok (.istore_n 3, 1) := by decide +kernel
theorem dX8_sendWhatMay_2 : decode cX8_sendWhatMay 2 = .ok (.iload_n 3, 1) := by decide +kernel
theorem dX8_sendWhatMay_3 : decode cX8_sendWhatMay 3 = .ok (.ldc 126, 2) := by decide +kernel
theorem dX8_sendWhatMay_5 : decode cX8_sendWhatMay 5 = .ok (.if_icmp .ge 51, 3) := by decide +kernel
theorem dX8_sendWhatMay_8 : decode cX8_sendWhatMay 8 = .ok (.aload_n 0, 1) := by decide +kernel
theorem dX8_sendWhatMay_9 : decode cX8_sendWhatMay 9 = .ok (.invokevirtual 127, 3) := by decide +kernel
theorem dX8_sendWhatMay_12 : decode cX8_sendWhatMay 12 = .ok (.istore 4, 2) := by decide +kernel
theorem dX8_sendWhatMay_14 : decode cX8_sendWhatMay 14 = .ok (.iload 4, 2) := by decide +kernel
theorem dX8_sendWhatMay_16 : decode cX8_sendWhatMay 16 = .ok (.iconst (-1), 1) := by decide +kernel
theorem dX8_sendWhatMay_17 : decode cX8_sendWhatMay 17 = .ok (.if_icmp .ne 6, 3) := by decide +kernel
theorem dX8_sendWhatMay_20 : decode cX8_sendWhatMay 20 = .ok (.goto 36, 3) := by decide +kernel
theorem dX8_sendWhatMay_23 : decode cX8_sendWhatMay 23 = .ok (.aload_n 0, 1) := by decide +kernel
theorem dX8_sendWhatMay_24 : decode cX8_sendWhatMay 24 = .ok (.iload 4, 2) := by decide +kernel
theorem dX8_sendWhatMay_26 : decode cX8_sendWhatMay 26 = .ok (.aload_n 1, 1) := by decide +kernel
theorem dX8_sendWhatMay_27 : decode cX8_sendWhatMay 27 = .ok (.iload_n 2, 1) := by decide +kernel
theorem dX8_sendWhatMay_28 : decode cX8_sendWhatMay 28 = .ok (.invokevirtual 131, 3) := by decide +kernel
theorem dX8_sendWhatMay_31 : decode cX8_sendWhatMay 31 = .ok (.iload 4, 2) := by decide +kernel
theorem dX8_sendWhatMay_33 : decode cX8_sendWhatMay 33 = .ok (.aload_n 0, 1) := by decide +kernel
theorem dX8_sendWhatMay_34 : decode cX8_sendWhatMay 34 = .ok (.getfield 65, 3) := by decide +kernel
theorem dX8_sendWhatMay_37 : decode cX8_sendWhatMay 37 = .ok (.if_icmp .ne 13, 3) := by decide +kernel
theorem dX8_sendWhatMay_40 : decode cX8_sendWhatMay 40 = .ok (.aload_n 0, 1) := by decide +kernel
theorem dX8_sendWhatMay_41 : decode cX8_sendWhatMay 41 = .ok (.dup, 1) := by decide +kernel
theorem dX8_sendWhatMay_42 : decode cX8_sendWhatMay 42 = .ok (.getfield 65, 3) := by decide +kernel
theorem dX8_sendWhatMay_45 : decode cX8_sendWhatMay 45 = .ok (.iconst 1, 1) := by decide +kernel
theorem dX8_sendWhatMay_46 : decode cX8_sendWhatMay 46 = .ok (.iadd, 1) := by decide +kernel
theorem dX8_sendWhatMay_47 : decode cX8_sendWhatMay 47 = .ok (.putfield 65, 3) := by decide +kernel
theorem dX8_sendWhatMay_50 : decode cX8_sendWhatMay 50 = .ok (.iinc 3 1, 3) := by decide +kernel
theorem dX8_sendWhatMay_53 : decode cX8_sendWhatMay 53 = .ok (.goto (-51), 3) := by decide +kernel
theorem dX8_sendWhatMay_56 : decode cX8_sendWhatMay 56 = .ok (.aload_n 0, 1) := by decide +kernel
theorem dX8_sendWhatMay_57 : decode cX8_sendWhatMay 57 = .ok (.getfield 22, 3) := by decide +kernel
theorem dX8_sendWhatMay_60 : decode cX8_sendWhatMay 60 = .ok (.ifCond .ne 33, 3) := by decide +kernel
theorem dX8_sendWhatMay_63 : decode cX8_sendWhatMay 63 = .ok (.aload_n 0, 1) := by decide +kernel
theorem dX8_sendWhatMay_64 : decode cX8_sendWhatMay 64 = .ok (.getfield 65, 3) := by decide +kernel
theorem dX8_sendWhatMay_67 : decode cX8_sendWhatMay 67 = .ok (.aload_n 0, 1) := by decide +kernel
theorem dX8_sendWhatMay_68 : decode cX8_sendWhatMay 68 = .ok (.getfield 59, 3) := by decide +kernel
theorem dX8_sendWhatMay_71 : decode cX8_sendWhatMay 71 = .ok (.if_icmp .ne 22, 3) := by decide +kernel
theorem dX8_sendWhatMay_74 : decode cX8_sendWhatMay 74 = .ok (.aload_n 0, 1) := by decide +kernel
theorem dX8_sendWhatMay_75 : decode cX8_sendWhatMay 75 = .ok (.getfield 65, 3) := by decide +kernel
theorem dX8_sendWhatMay_78 : decode cX8_sendWhatMay 78 = .ok (.aload_n 0, 1) := by decide +kernel
theorem dX8_sendWhatMay_79 : decode cX8_sendWhatMay 79 = .ok (.getfield 52, 3) := by decide +kernel
theorem dX8_sendWhatMay_82 : decode cX8_sendWhatMay 82 = .ok (.if_icmp .ge 11, 3) := by decide +kernel
theorem dX8_sendWhatMay_85 : decode cX8_sendWhatMay 85 = .ok (.aload_n 0, 1) := by decide +kernel
theorem dX8_sendWhatMay_86 : decode cX8_sendWhatMay 86 = .ok (.getfield 28, 3) := by decide +kernel
theorem dX8_sendWhatMay_89 : decode cX8_sendWhatMay 89 = .ok (.iload_n 2, 1) := by decide +kernel
theorem dX8_sendWhatMay_90 : decode cX8_sendWhatMay 90 = .ok (.invokevirtual 134, 3) := by decide +kernel
theorem dX8_sendWhatMay_93 : decode cX8_sendWhatMay 93 = .ok (.return_, 1) := by decide +kernel
set_option maxRecDepth 20000 in
theorem ggX8_tell_X8_tellMore : GoodIn wsX8_tell wsX8_tellMore := goodIn_r _ [13, 14, 15, 16, 17, 6, 18, 19, 20, 21, 22, 12, 23, 24, 1, 2, 3, 25, 26, 27, 28, 8, 29, 30, 31, 32, 33, 34, 35, 36, 37, 38, 39, 40, 41, 42, 43, 44, 45, 46, 47, 48, 49, 50, 51, 52, 53, 54, 55, 56, 57, 58, 59, 60, 61, 62, 63, 64, 65, 66, 67, 68, 69, 70, 71, 72, 73, 74, 75, 76, 77, 78, 79, 80, 81, 82, 83, 84] (by decide +kernel) (by decide +kernel)
set_option maxRecDepth 20000 in
theorem gX8_tell_X8_tellMore : GoodIn wsX8_tell (wsV RX8 146 RX8 yX8_tellMore wsX8_tellMore) := goodIn_app (goodIn_of _ (by decide +kernel)) ggX8_tell_X8_tellMore
theorem dX8_tell_0 : decode cX8_tell 0 = .ok (.iload_n 1, 1) := by decide +kernel
theorem dX8_tell_1 : decode cX8_tell 1 = .ok (.tableswitch 122 0 9 #[55, 60, 65, 70, 75, 80, 88, 96, 104, 109], 55) := by decide +kernel
theorem dX8_tell_56 : decode cX8_tell 56 = .ok (.aload_n 0, 1) := by decide +kernel
theorem dX8_tell_57 : decode cX8_tell 57 = .ok (.getfield 59, 3) := by decide +kernel
theorem dX8_tell_60 : decode cX8_tell 60 = .ok (.ireturn, 1) := by decide +kernel
theorem dX8_tell_61 : decode cX8_tell 61 = .ok (.aload_n 0, 1) := by decide +kernel
theorem dX8_tell_62 : decode cX8_tell 62 = .ok (.getfield 65, 3) := by decide +kernel
theorem dX8_tell_65 : decode cX8_tell 65 = .ok (.ireturn, 1) := by decide +kernel
theorem dX8_tell_66 : decode cX8_tell 66 = .ok (.aload_n 0, 1) := by decide +kernel
theorem dX8_tell_67 : decode cX8_tell 67 = .ok (.getfield 79, 3) := by decide +kernel
theorem dX8_tell_70 : decode cX8_tell 70 = .ok (.ireturn, 1) := by decide +kernel
theorem dX8_tell_71 : decode cX8_tell 71 = .ok (.aload_n 0, 1) := by decide +kernel
theorem dX8_tell_72 : decode cX8_tell 72 = .ok (.getfield 9, 3) := by decide +kernel
theorem dX8_tell_75 : decode cX8_tell 75 = .ok (.ireturn, 1) := by decide +kernel
theorem dX8_tell_76 : decode cX8_tell 76 = .ok (.aload_n 0, 1) := by decide +kernel
theorem dX8_tell_77 : decode cX8_tell 77 = .ok (.getfield 19, 3) := by decide +kernel
theorem dX8_tell_80 : decode cX8_tell 80 = .ok (.ireturn, 1) := by decide +kernel
theorem dX8_tell_81 : decode cX8_tell 81 = .ok (.aload_n 0, 1) := by decide +kernel
theorem dX8_tell_82 : decode cX8_tell 82 = .ok (.getfield 28, 3) := by decide +kernel
theorem dX8_tell_85 : decode cX8_tell 85 = .ok (.getfield 137, 3) := by decide +kernel
theorem dX8_tell_88 : decode cX8_tell 88 = .ok (.ireturn, 1) := by decide +kernel
theorem dX8_tell_89 : decode cX8_tell 89 = .ok (.aload_n 0, 1) := by decide +kernel
theorem dX8_tell_90 : decode cX8_tell 90 = .ok (.getfield 28, 3) := by decide +kernel
theorem dX8_tell_93 : decode cX8_tell 93 = .ok (.getfield 140, 3) := by decide +kernel
theorem dX8_tell_96 : decode cX8_tell 96 = .ok (.ireturn, 1) := by decide +kernel
theorem dX8_tell_97 : decode cX8_tell 97 = .ok (.aload_n 0, 1) := by decide +kernel
theorem dX8_tell_98 : decode cX8_tell 98 = .ok (.getfield 28, 3) := by decide +kernel
theorem dX8_tell_101 : decode cX8_tell 101 = .ok (.getfield 143, 3) := by decide +kernel
theorem dX8_tell_104 : decode cX8_tell 104 = .ok (.ireturn, 1) := by decide +kernel
theorem dX8_tell_105 : decode cX8_tell 105 = .ok (.aload_n 0, 1) := by decide +kernel
theorem dX8_tell_106 : decode cX8_tell 106 = .ok (.getfield 93, 3) := by decide +kernel
theorem dX8_tell_109 : decode cX8_tell 109 = .ok (.ireturn, 1) := by decide +kernel
theorem dX8_tell_110 : decode cX8_tell 110 = .ok (.aload_n 0, 1) := by decide +kernel
theorem dX8_tell_111 : decode cX8_tell 111 = .ok (.getfield 86, 3) := by decide +kernel
theorem dX8_tell_114 : decode cX8_tell 114 = .ok (.ifCond .eq 7, 3) := by decide +kernel
theorem dX8_tell_117 : decode cX8_tell 117 = .ok (.iconst 1, 1) := by decide +kernel
theorem dX8_tell_118 : decode cX8_tell 118 = .ok (.goto 4, 3) := by decide +kernel
theorem dX8_tell_121 : decode cX8_tell 121 = .ok (.iconst 0, 1) := by decide +kernel
theorem dX8_tell_122 : decode cX8_tell 122 = .ok (.ireturn, 1) := by decide +kernel
theorem dX8_tell_123 : decode cX8_tell 123 = .ok (.aload_n 0, 1) := by decide +kernel
theorem dX8_tell_124 : decode cX8_tell 124 = .ok (.iload_n 1, 1) := by decide +kernel
theorem dX8_tell_125 : decode cX8_tell 125 = .ok (.invokevirtual 146, 3) := by decide +kernel
theorem dX8_tell_128 : decode cX8_tell 128 = .ok (.ireturn, 1) := by decide +kernel
set_option maxRecDepth 20000 in
theorem ggX8_tellMore_X8_out : GoodIn wsX8_tellMore wsX8_out := goodIn_r _ [12, 13, 14, 15, 16, 17, 18, 19, 11, 20, 21, 22, 23, 24, 25, 26, 27, 28, 29, 30, 31, 32, 33, 34, 35, 36, 37, 38, 39, 40, 41, 42, 43, 44, 45, 46, 47, 48, 49, 50, 51, 52, 53, 54, 55, 56, 57, 58, 59, 60, 61, 73, 74, 75, 76, 77] (by decide +kernel) (by decide +kernel)
set_option maxRecDepth 20000 in
theorem gX8_tellMore_X8_out : GoodIn wsX8_tellMore (wsV RX8 168 RX8 yX8_out wsX8_out) := goodIn_app (goodIn_of _ (by decide +kernel)) ggX8_tellMore_X8_out
theorem dX8_tellMore_0 : decode cX8_tellMore 0 = .ok (.iload_n 1, 1) := by decide +kernel
theorem dX8_tellMore_1 : decode cX8_tellMore 1 = .ok (.tableswitch 105 10 18 #[51, 56, 61, 66, 71, 79, 84, 92, 100], 51) := by decide +kernel
theorem dX8_tellMore_52 : decode cX8_tellMore 52 = .ok (.aload_n 0, 1) := by decide +kernel
theorem dX8_tellMore_53 : decode cX8_tellMore 53 = .ok (.getfield 150, 3) := by decide +kernel
theorem dX8_tellMore_56 : decode cX8_tellMore 56 = .ok (.ireturn, 1) := by decide +kernel
theorem dX8_tellMore_57 : decode cX8_tellMore 57 = .ok (.aload_n 0, 1) := by decide +kernel
theorem dX8_tellMore_58 : decode cX8_tellMore 58 = .ok (.getfield 153, 3) := by decide +kernel
theorem dX8_tellMore_61 : decode cX8_tellMore 61 = .ok (.ireturn, 1) := by decide +kernel
theorem dX8_tellMore_62 : decode cX8_tellMore 62 = .ok (.aload_n 0, 1) := by decide +kernel
theorem dX8_tellMore_63 : decode cX8_tellMore 63 = .ok (.getfield 156, 3) := by decide +kernel
theorem dX8_tellMore_66 : decode cX8_tellMore 66 = .ok (.ireturn, 1) := by decide +kernel
theorem dX8_tellMore_67 : decode cX8_tellMore 67 = .ok (.aload_n 0, 1) := by decide +kernel
theorem dX8_tellMore_68 : decode cX8_tellMore 68 = .ok (.getfield 22, 3) := by decide +kernel
theorem dX8_tellMore_71 : decode cX8_tellMore 71 = .ok (.ireturn, 1) := by decide +kernel
theorem dX8_tellMore_72 : decode cX8_tellMore 72 = .ok (.aload_n 0, 1) := by decide +kernel
theorem dX8_tellMore_73 : decode cX8_tellMore 73 = .ok (.getfield 28, 3) := by decide +kernel
theorem dX8_tellMore_76 : decode cX8_tellMore 76 = .ok (.getfield 114, 3) := by decide +kernel
theorem dX8_tellMore_79 : decode cX8_tellMore 79 = .ok (.ireturn, 1) := by decide +kernel
theorem dX8_tellMore_80 : decode cX8_tellMore 80 = .ok (.aload_n 0, 1) := by decide +kernel
theorem dX8_tellMore_81 : decode cX8_tellMore 81 = .ok (.getfield 159, 3) := by decide +kernel
theorem dX8_tellMore_84 : decode cX8_tellMore 84 = .ok (.ireturn, 1) := by decide +kernel
theorem dX8_tellMore_85 : decode cX8_tellMore 85 = .ok (.aload_n 0, 1) := by decide +kernel
theorem dX8_tellMore_86 : decode cX8_tellMore 86 = .ok (.getfield 42, 3) := by decide +kernel
theorem dX8_tellMore_89 : decode cX8_tellMore 89 = .ok (.getfield 162, 3) := by decide +kernel
theorem dX8_tellMore_92 : decode cX8_tellMore 92 = .ok (.ireturn, 1) := by decide +kernel
theorem dX8_tellMore_93 : decode cX8_tellMore 93 = .ok (.aload_n 0, 1) := by decide +kernel
theorem dX8_tellMore_94 : decode cX8_tellMore 94 = .ok (.getfield 42, 3) := by decide +kernel
theorem dX8_tellMore_97 : decode cX8_tellMore 97 = .ok (.getfield 165, 3) := by decide +kernel
theorem dX8_tellMore_100 : decode cX8_tellMore 100 = .ok (.ireturn, 1) := by decide +kernel
theorem dX8_tellMore_101 : decode cX8_tellMore 101 = .ok (.aload_n 0, 1) := by decide +kernel
theorem dX8_tellMore_102 : decode cX8_tellMore 102 = .ok (.invokevirtual 168, 3) := by decide +kernel
theorem dX8_tellMore_105 : decode cX8_tellMore 105 = .ok (.ireturn, 1) := by decide +kernel
theorem dX8_tellMore_106 : decode cX8_tellMore 106 = .ok (.iconst (-1), 1) := by decide +kernel
theorem dX8_tellMore_107 : decode cX8_tellMore 107 = .ok (.ireturn, 1) := by decide +kernel
theorem dX8_goesByBoard_0 : decode cX8_goesByBoard 0 = .ok (.aload_n 0, 1) := by decide +kernel
theorem dX8_goesByBoard_1 : decode cX8_goesByBoard 1 = .ok (.getfield 86, 3) := by decide +kernel
theorem dX8_goesByBoard_4 : decode cX8_goesByBoard 4 = .ok (.ifCond .eq 15, 3) := by decide +kernel
theorem dX8_goesByBoard_7 : decode cX8_goesByBoard 7 = .ok (.aload_n 0, 1) := by decide +kernel
theorem dX8_goesByBoard_8 : decode cX8_goesByBoard 8 = .ok (.getfield 49, 3) := by decide +kernel
theorem dX8_goesByBoard_11 : decode cX8_goesByBoard 11 = .ok (.iconst 3, 1) := by decide +kernel
theorem dX8_goesByBoard_12 : decode cX8_goesByBoard 12 = .ok (.if_icmp .ne 7, 3) := by decide +kernel
theorem dX8_goesByBoard_15 : decode cX8_goesByBoard 15 = .ok (.iconst 1, 1) := by decide +kernel
theorem dX8_goesByBoard_16 : decode cX8_goesByBoard 16 = .ok (.goto 4, 3) := by decide +kernel
theorem dX8_goesByBoard_19 : decode cX8_goesByBoard 19 = .ok (.iconst 0, 1) := by decide +kernel
theorem dX8_goesByBoard_20 : decode cX8_goesByBoard 20 = .ok (.ireturn, 1) := by decide +kernel
set_option maxRecDepth 20000 in
theorem ggX8_out_X8_goesByBoard : GoodIn wsX8_out wsX8_goesByBoard := goodIn_r _ [9, 10, 11, 31, 32, 33, 34, 35, 36, 37, 38, 39, 40, 41, 42, 43, 44, 45, 46, 47, 48, 49, 50] (by decide +kernel) (by decide +kernel)
set_option maxRecDepth 20000 in
theorem gX8_out_X8_goesByBoard : GoodIn wsX8_out (wsV RX8 171 RX8 yX8_goesByBoard wsX8_goesByBoard) := goodIn_app (goodIn_of _ (by decide +kernel)) ggX8_out_X8_goesByBoard
set_option maxRecDepth 20000 in
theorem ggX8_out_X0_pipe : GoodIn wsX8_out wsX0_pipe := goodIn_r _ [16, 17, 18, 19, 20, 21, 22, 23, 24, 25, 26, 27, 15, 28, 29, 30, 51, 52, 53, 54, 55] (by decide +kernel) (by decide +kernel)
set_option maxRecDepth 20000 in
theorem gX8_out_X0_pipe : GoodIn wsX8_out (wsV RX8 174 RX0 yX0_pipe wsX0_pipe) := goodIn_app (goodIn_of _ (by decide +kernel)) ggX8_out_X0_pipe
theorem dX8_out_0 : decode cX8_out 0 = .ok (.aload_n 0, 1) := by decide +kernel
theorem dX8_out_1 : decode cX8_out 1 = .ok (.invokevirtual 171, 3) := by decide +kernel
theorem dX8_out_4 : decode cX8_out 4 = .ok (.ifCond .eq 25, 3) := by decide +kernel
theorem dX8_out_7 : decode cX8_out 7 = .ok (.aload_n 0, 1) := by decide +kernel
theorem dX8_out_8 : decode cX8_out 8 = .ok (.getfield 35, 3) := by decide +kernel
theorem dX8_out_11 : decode cX8_out 11 = .ok (.aload_n 0, 1) := by decide +kernel
theorem dX8_out_12 : decode cX8_out 12 = .ok (.getfield 59, 3) := by decide +kernel
theorem dX8_out_15 : decode cX8_out 15 = .ok (.aload_n 0, 1) := by decide +kernel
theorem dX8_out_16 : decode cX8_out 16 = .ok (.getfield 65, 3) := by decide +kernel
theorem dX8_out_19 : decode cX8_out 19 = .ok (.aload_n 0, 1) := by decide +kernel
theorem dX8_out_20 : decode cX8_out 20 = .ok (.getfield 79, 3) := by decide +kernel
theorem dX8_out_23 : decode cX8_out 23 = .ok (.invokevirtual 174, 3) := by decide +kernel
theorem dX8_out_26 : decode cX8_out 26 = .ok (.goto 12, 3) := by decide +kernel
theorem dX8_out_29 : decode cX8_out 29 = .ok (.aload_n 0, 1) := by decide +kernel
theorem dX8_out_30 : decode cX8_out 30 = .ok (.getfield 65, 3) := by decide +kernel
theorem dX8_out_33 : decode cX8_out 33 = .ok (.aload_n 0, 1) := by decide +kernel
theorem dX8_out_34 : decode cX8_out 34 = .ok (.getfield 59, 3) := by decide +kernel
theorem dX8_out_37 : decode cX8_out 37 = .ok (.isub, 1) := by decide +kernel
theorem dX8_out_38 : decode cX8_out 38 = .ok (.ireturn, 1) := by decide +kernel
set_option maxRecDepth 20000 in
theorem ggX8_nextToSend_X8_out : GoodIn wsX8_nextToSend wsX8_out := goodIn_r _ [12, 2, 3, 5, 4, 13, 14, 15, 11, 16, 17, 18, 19, 20, 21, 22, 23, 24, 25, 26, 27, 28, 29, 30, 31, 32, 33, 34, 35, 36, 37, 42, 43, 44, 45, 46, 47, 48, 49, 50, 51, 52, 53, 54, 55, 56, 57, 58, 59, 60, 61, 62, 63, 64, 65, 66] (by decide +kernel) (by decide +kernel)
set_option maxRecDepth 20000 in
theorem gX8_nextToSend_X8_out : GoodIn wsX8_nextToSend (wsV RX8 168 RX8 yX8_out wsX8_out) := goodIn_app (goodIn_of _ (by decide +kernel)) ggX8_nextToSend_X8_out
set_option maxRecDepth 20000 in
theorem ggX8_nextToSend_X8_goesByBoard : GoodIn wsX8_nextToSend wsX8_goesByBoard := goodIn_r _ [16, 17, 18, 42, 43, 44, 45, 46, 47, 48, 49, 50, 51, 52, 53, 54, 55, 56, 57, 58, 59, 60, 61] (by decide +kernel) (by decide +kernel)
set_option maxRecDepth 20000 in
theorem gX8_nextToSend_X8_goesByBoard : GoodIn wsX8_nextToSend (wsV RX8 171 RX8 yX8_goesByBoard wsX8_goesByBoard) := goodIn_app (goodIn_of _ (by decide +kernel)) ggX8_nextToSend_X8_goesByBoard
set_option maxRecDepth 20000 in
theorem ggX8_nextToSend_X0_leastLost : GoodIn wsX8_nextToSend wsX0_leastLost := goodIn_r _ [41, 25, 32, 33, 34, 22, 35, 36, 37, 24, 26, 27, 28, 29, 30, 31, 62, 63, 64, 65, 66] (by decide +kernel) (by decide +kernel)
set_option maxRecDepth 20000 in
theorem gX8_nextToSend_X0_leastLost : GoodIn wsX8_nextToSend (wsV RX8 178 RX0 yX0_leastLost wsX0_leastLost) := goodIn_app (goodIn_of _ (by decide +kernel)) ggX8_nextToSend_X0_leastLost
theorem dX8_nextToSend_0 : decode cX8_nextToSend 0 = .ok (.aload_n 0, 1) := by decide +kernel
theorem dX8_nextToSend_1 : decode cX8_nextToSend 1 = .ok (.invokevirtual 168, 3) := by decide +kernel
theorem dX8_nextToSend_4 : decode cX8_nextToSend 4 = .ok (.aload_n 0, 1) := by decide +kernel
theorem dX8_nextToSend_5 : decode cX8_nextToSend 5 = .ok (.getfield 9, 3) := by decide +kernel
theorem dX8_nextToSend_8 : decode cX8_nextToSend 8 = .ok (.sipush 1024, 3) := by decide +kernel
theorem dX8_nextToSend_11 : decode cX8_nextToSend 11 = .ok (.idiv, 1) := by decide +kernel
theorem dX8_nextToSend_12 : decode cX8_nextToSend 12 = .ok (.if_icmp .lt 5, 3) := by decide +kernel
theorem dX8_nextToSend_15 : decode cX8_nextToSend 15 = .ok (.iconst (-1), 1) := by decide +kernel
theorem dX8_nextToSend_16 : decode cX8_nextToSend 16 = .ok (.ireturn, 1) := by decide +kernel
theorem dX8_nextToSend_17 : decode cX8_nextToSend 17 = .ok (.aload_n 0, 1) := by decide +kernel
theorem dX8_nextToSend_18 : decode cX8_nextToSend 18 = .ok (.invokevirtual 171, 3) := by decide +kernel
theorem dX8_nextToSend_21 : decode cX8_nextToSend 21 = .ok (.ifCond .eq 21, 3) := by decide +kernel
theorem dX8_nextToSend_24 : decode cX8_nextToSend 24 = .ok (.aload_n 0, 1) := by decide +kernel
theorem dX8_nextToSend_25 : decode cX8_nextToSend 25 = .ok (.getfield 35, 3) := by decide +kernel
theorem dX8_nextToSend_28 : decode cX8_nextToSend 28 = .ok (.aload_n 0, 1) := by decide +kernel
theorem dX8_nextToSend_29 : decode cX8_nextToSend 29 = .ok (.getfield 59, 3) := by decide +kernel
theorem dX8_nextToSend_32 : decode cX8_nextToSend 32 = .ok (.aload_n 0, 1) := by decide +kernel
theorem dX8_nextToSend_33 : decode cX8_nextToSend 33 = .ok (.getfield 79, 3) := by decide +kernel
theorem dX8_nextToSend_36 : decode cX8_nextToSend 36 = .ok (.invokevirtual 178, 3) := by decide +kernel
theorem dX8_nextToSend_39 : decode cX8_nextToSend 39 = .ok (.goto 4, 3) := by decide +kernel
theorem dX8_nextToSend_42 : decode cX8_nextToSend 42 = .ok (.iconst (-1), 1) := by decide +kernel
theorem dX8_nextToSend_43 : decode cX8_nextToSend 43 = .ok (.istore_n 1, 1) := by decide +kernel
theorem dX8_nextToSend_44 : decode cX8_nextToSend 44 = .ok (.iload_n 1, 1) := by decide +kernel
theorem dX8_nextToSend_45 : decode cX8_nextToSend 45 = .ok (.iconst (-1), 1) := by decide +kernel
theorem dX8_nextToSend_46 : decode cX8_nextToSend 46 = .ok (.if_icmp .eq 5, 3) := by decide +kernel
theorem dX8_nextToSend_49 : decode cX8_nextToSend 49 = .ok (.iload_n 1, 1) := by decide +kernel
theorem dX8_nextToSend_50 : decode cX8_nextToSend 50 = .ok (.ireturn, 1) := by decide +kernel
theorem dX8_nextToSend_51 : decode cX8_nextToSend 51 = .ok (.aload_n 0, 1) := by decide +kernel
theorem dX8_nextToSend_52 : decode cX8_nextToSend 52 = .ok (.getfield 65, 3) := by decide +kernel
theorem dX8_nextToSend_55 : decode cX8_nextToSend 55 = .ok (.aload_n 0, 1) := by decide +kernel
theorem dX8_nextToSend_56 : decode cX8_nextToSend 56 = .ok (.getfield 52, 3) := by decide +kernel
theorem dX8_nextToSend_59 : decode cX8_nextToSend 59 = .ok (.if_icmp .ge 26, 3) := by decide +kernel
theorem dX8_nextToSend_62 : decode cX8_nextToSend 62 = .ok (.aload_n 0, 1) := by decide +kernel
theorem dX8_nextToSend_63 : decode cX8_nextToSend 63 = .ok (.getfield 65, 3) := by decide +kernel
theorem dX8_nextToSend_66 : decode cX8_nextToSend 66 = .ok (.aload_n 0, 1) := by decide +kernel
theorem dX8_nextToSend_67 : decode cX8_nextToSend 67 = .ok (.getfield 59, 3) := by decide +kernel
theorem dX8_nextToSend_70 : decode cX8_nextToSend 70 = .ok (.aload_n 0, 1) := by decide +kernel
theorem dX8_nextToSend_71 : decode cX8_nextToSend 71 = .ok (.getfield 22, 3) := by decide +kernel
theorem dX8_nextToSend_74 : decode cX8_nextToSend 74 = .ok (.iadd, 1) := by decide +kernel
theorem dX8_nextToSend_75 : decode cX8_nextToSend 75 = .ok (.if_icmp .ge 10, 3) := by decide +kernel
theorem dX8_nextToSend_78 : decode cX8_nextToSend 78 = .ok (.aload_n 0, 1) := by decide +kernel
theorem dX8_nextToSend_79 : decode cX8_nextToSend 79 = .ok (.getfield 65, 3) := by decide +kernel
theorem dX8_nextToSend_82 : decode cX8_nextToSend 82 = .ok (.goto 4, 3) := by decide +kernel
theorem dX8_nextToSend_85 : decode cX8_nextToSend 85 = .ok (.iconst (-1), 1) := by decide +kernel
theorem dX8_nextToSend_86 : decode cX8_nextToSend 86 = .ok (.ireturn, 1) := by decide +kernel
set_option maxRecDepth 20000 in
theorem ggX8_transmit_X4_put : GoodIn wsX8_transmit wsX4_put := goodIn_r _ [14, 15, 102] (by decide +kernel) (by decide +kernel)
set_option maxRecDepth 20000 in
theorem gX8_transmit_X4_put : GoodIn wsX8_transmit (wsV RX8 186 RX4 yX4_put wsX4_put) := goodIn_app (goodIn_of _ (by decide +kernel)) ggX8_transmit_X4_put
set_option maxRecDepth 20000 in
theorem ggX8_transmit_X9_noteSent : GoodIn wsX8_transmit wsX9_noteSent := goodIn_r _ [20, 21, 22, 23, 24, 25, 19, 26, 27, 28, 29, 30, 31, 32, 103, 104, 105, 106, 107, 108] (by decide +kernel) (by decide +kernel)
set_option maxRecDepth 20000 in
theorem gX8_transmit_X9_noteSent : GoodIn wsX8_transmit (wsV RX8 196 RX9 yX9_noteSent wsX9_noteSent) := goodIn_app (goodIn_of _ (by decide +kernel)) ggX8_transmit_X9_noteSent
set_option maxRecDepth 20000 in
theorem ggX8_transmit_X7_launch : GoodIn wsX8_transmit wsX7_launch := goodIn_r _ [37, 38, 39, 40, 41, 42, 43, 44, 45, 46, 47, 48, 49, 50, 51, 36, 52, 53, 54, 55, 56, 57, 58, 59, 60, 61, 62, 63, 64, 65, 66, 67, 68, 69, 70, 71, 72, 73, 74, 75, 76, 77, 109, 110, 111, 112, 113, 114, 115, 116, 117, 118, 119, 120, 121, 122, 123, 124, 125, 126, 127, 128, 129, 130, 131, 132, 133] (by decide +kernel) (by decide +kernel)
set_option maxRecDepth 20000 in
theorem gX8_transmit_X7_launch : GoodIn wsX8_transmit (wsV RX8 200 RX7 yX7_launch wsX7_launch) := goodIn_app (goodIn_of _ (by decide +kernel)) ggX8_transmit_X7_launch
theorem dX8_transmit_0 : decode cX8_transmit 0 = .ok (.iload_n 1, 1) := by decide +kernel
theorem dX8_transmit_1 : decode cX8_transmit 1 = .ok (.aload_n 0, 1) := by decide +kernel
theorem dX8_transmit_2 : decode cX8_transmit 2 = .ok (.getfield 79, 3) := by decide +kernel
theorem dX8_transmit_5 : decode cX8_transmit 5 = .ok (.if_icmp .ge 7, 3) := by decide +kernel
theorem dX8_transmit_8 : decode cX8_transmit 8 = .ok (.iconst 1, 1) := by decide +kernel
theorem dX8_transmit_9 : decode cX8_transmit 9 = .ok (.goto 4, 3) := by decide +kernel
theorem dX8_transmit_12 : decode cX8_transmit 12 = .ok (.iconst 0, 1) := by decide +kernel
theorem dX8_transmit_13 : decode cX8_transmit 13 = .ok (.istore 4, 2) := by decide +kernel
theorem dX8_transmit_15 : decode cX8_transmit 15 = .ok (.iload 4, 2) := by decide +kernel
theorem dX8_transmit_17 : decode cX8_transmit 17 = .ok (.ifCond .eq 24, 3) := by decide +kernel
theorem dX8_transmit_20 : decode cX8_transmit 20 = .ok (.aload_n 0, 1) := by decide +kernel
theorem dX8_transmit_21 : decode cX8_transmit 21 = .ok (.dup, 1) := by decide +kernel
theorem dX8_transmit_22 : decode cX8_transmit 22 = .ok (.getfield 156, 3) := by decide +kernel
theorem dX8_transmit_25 : decode cX8_transmit 25 = .ok (.iconst 1, 1) := by decide +kernel
theorem dX8_transmit_26 : decode cX8_transmit 26 = .ok (.iadd, 1) := by decide +kernel
theorem dX8_transmit_27 : decode cX8_transmit 27 = .ok (.putfield 156, 3) := by decide +kernel
theorem dX8_transmit_30 : decode cX8_transmit 30 = .ok (.aload_n 0, 1) := by decide +kernel
theorem dX8_transmit_31 : decode cX8_transmit 31 = .ok (.getfield 35, 3) := by decide +kernel
theorem dX8_transmit_34 : decode cX8_transmit 34 = .ok (.getfield 182, 3) := by decide +kernel
theorem dX8_transmit_37 : decode cX8_transmit 37 = .ok (.iload_n 1, 1) := by decide +kernel
theorem dX8_transmit_38 : decode cX8_transmit 38 = .ok (.invokevirtual 186, 3) := by decide +kernel
theorem dX8_transmit_41 : decode cX8_transmit 41 = .ok (.aload_n 0, 1) := by decide +kernel
theorem dX8_transmit_42 : decode cX8_transmit 42 = .ok (.aload_n 0, 1) := by decide +kernel
theorem dX8_transmit_43 : decode cX8_transmit 43 = .ok (.getfield 79, 3) := by decide +kernel
theorem dX8_transmit_46 : decode cX8_transmit 46 = .ok (.iload_n 1, 1) := by decide +kernel
theorem dX8_transmit_47 : decode cX8_transmit 47 = .ok (.iconst 1, 1) := by decide +kernel
theorem dX8_transmit_48 : decode cX8_transmit 48 = .ok (.iadd, 1) := by decide +kernel
theorem dX8_transmit_49 : decode cX8_transmit 49 = .ok (.invokestatic 191, 3) := by decide +kernel
theorem dX8_transmit_52 : decode cX8_transmit 52 = .ok (.putfield 79, 3) := by decide +kernel
theorem dX8_transmit_55 : decode cX8_transmit 55 = .ok (.aload_n 0, 1) := by decide +kernel
theorem dX8_transmit_56 : decode cX8_transmit 56 = .ok (.getfield 28, 3) := by decide +kernel
theorem dX8_transmit_59 : decode cX8_transmit 59 = .ok (.iload_n 1, 1) := by decide +kernel
theorem dX8_transmit_60 : decode cX8_transmit 60 = .ok (.iload 4, 2) := by decide +kernel
theorem dX8_transmit_62 : decode cX8_transmit 62 = .ok (.iload_n 3, 1) := by decide +kernel
theorem dX8_transmit_63 : decode cX8_transmit 63 = .ok (.invokevirtual 196, 3) := by decide +kernel
theorem dX8_transmit_66 : decode cX8_transmit 66 = .ok (.aload_n 2, 1) := by decide +kernel
theorem dX8_transmit_67 : decode cX8_transmit 67 = .ok (.aload_n 0, 1) := by decide +kernel
theorem dX8_transmit_68 : decode cX8_transmit 68 = .ok (.getfield 46, 3) := by decide +kernel
theorem dX8_transmit_71 : decode cX8_transmit 71 = .ok (.iload_n 1, 1) := by decide +kernel
theorem dX8_transmit_72 : decode cX8_transmit 72 = .ok (.iconst 0, 1) := by decide +kernel
theorem dX8_transmit_73 : decode cX8_transmit 73 = .ok (.iload_n 3, 1) := by decide +kernel
theorem dX8_transmit_74 : decode cX8_transmit 74 = .ok (.invokevirtual 200, 3) := by decide +kernel
theorem dX8_transmit_77 : decode cX8_transmit 77 = .ok (.return_, 1) := by decide +kernel
set_option maxRecDepth 20000 in
theorem ggX8_probe_X7_launch : GoodIn wsX8_probe wsX7_launch := goodIn_r _ [14, 15, 16, 17, 18, 19, 20, 21, 22, 23, 24, 25, 26, 27, 28, 13, 29, 30, 31, 32, 33, 34, 35, 36, 37, 38, 39, 40, 41, 42, 43, 44, 45, 46, 47, 48, 49, 50, 51, 52, 53, 54, 90, 91, 92, 93, 94, 95, 96, 97, 98, 99, 100, 101, 102, 103, 104, 105, 106, 107, 108, 109, 110, 111, 112, 113, 114] (by decide +kernel) (by decide +kernel)
set_option maxRecDepth 20000 in
theorem gX8_probe_X7_launch : GoodIn wsX8_probe (wsV RX8 200 RX7 yX7_launch wsX7_launch) := goodIn_app (goodIn_of _ (by decide +kernel)) ggX8_probe_X7_launch
set_option maxRecDepth 20000 in
theorem ggX8_probe_X9_doubleRto : GoodIn wsX8_probe wsX9_doubleRto := goodIn_r _ [59, 60, 61, 62, 63, 6, 64, 115, 116, 117, 118, 119, 120] (by decide +kernel) (by decide +kernel)
set_option maxRecDepth 20000 in
theorem gX8_probe_X9_doubleRto : GoodIn wsX8_probe (wsV RX8 206 RX9 yX9_doubleRto wsX9_doubleRto) := goodIn_app (goodIn_of _ (by decide +kernel)) ggX8_probe_X9_doubleRto
set_option maxRecDepth 20000 in
theorem ggX8_probe_X9_set : GoodIn wsX8_probe wsX9_set := goodIn_r _ [68, 61, 69, 115, 116, 117, 118, 119, 120] (by decide +kernel) (by decide +kernel)
set_option maxRecDepth 20000 in
theorem gX8_probe_X9_set : GoodIn wsX8_probe (wsV RX8 209 RX9 yX9_set wsX9_set) := goodIn_app (goodIn_of _ (by decide +kernel)) ggX8_probe_X9_set
theorem dX8_probe_0 : decode cX8_probe 0 = .ok (.aload_n 0, 1) := by decide +kernel
theorem dX8_probe_1 : decode cX8_probe 1 = .ok (.dup, 1) := by decide +kernel
theorem dX8_probe_2 : decode cX8_probe 2 = .ok (.getfield 159, 3) := by decide +kernel
theorem dX8_probe_5 : decode cX8_probe 5 = .ok (.iconst 1, 1) := by decide +kernel
theorem dX8_probe_6 : decode cX8_probe 6 = .ok (.iadd, 1) := by decide +kernel
theorem dX8_probe_7 : decode cX8_probe 7 = .ok (.putfield 159, 3) := by decide +kernel
theorem dX8_probe_10 : decode cX8_probe 10 = .ok (.aload_n 0, 1) := by decide +kernel
theorem dX8_probe_11 : decode cX8_probe 11 = .ok (.aload_n 0, 1) := by decide +kernel
theorem dX8_probe_12 : decode cX8_probe 12 = .ok (.getfield 79, 3) := by decide +kernel
theorem dX8_probe_15 : decode cX8_probe 15 = .ok (.aload_n 0, 1) := by decide +kernel
theorem dX8_probe_16 : decode cX8_probe 16 = .ok (.getfield 65, 3) := by decide +kernel
theorem dX8_probe_19 : decode cX8_probe 19 = .ok (.iconst 1, 1) := by decide +kernel
theorem dX8_probe_20 : decode cX8_probe 20 = .ok (.iadd, 1) := by decide +kernel
theorem dX8_probe_21 : decode cX8_probe 21 = .ok (.invokestatic 191, 3) := by decide +kernel
theorem dX8_probe_24 : decode cX8_probe 24 = .ok (.putfield 79, 3) := by decide +kernel
theorem dX8_probe_27 : decode cX8_probe 27 = .ok (.aload_n 1, 1) := by decide +kernel
theorem dX8_probe_28 : decode cX8_probe 28 = .ok (.aload_n 0, 1) := by decide +kernel
theorem dX8_probe_29 : decode cX8_probe 29 = .ok (.getfield 46, 3) := by decide +kernel
theorem dX8_probe_32 : decode cX8_probe 32 = .ok (.aload_n 0, 1) := by decide +kernel
theorem dX8_probe_33 : decode cX8_probe 33 = .ok (.getfield 65, 3) := by decide +kernel
theorem dX8_probe_36 : decode cX8_probe 36 = .ok (.iconst 1, 1) := by decide +kernel
theorem dX8_probe_37 : decode cX8_probe 37 = .ok (.iload_n 2, 1) := by decide +kernel
theorem dX8_probe_38 : decode cX8_probe 38 = .ok (.invokevirtual 200, 3) := by decide +kernel
theorem dX8_probe_41 : decode cX8_probe 41 = .ok (.aload_n 0, 1) := by decide +kernel
theorem dX8_probe_42 : decode cX8_probe 42 = .ok (.getfield 28, 3) := by decide +kernel
theorem dX8_probe_45 : decode cX8_probe 45 = .ok (.invokevirtual 206, 3) := by decide +kernel
theorem dX8_probe_48 : decode cX8_probe 48 = .ok (.aload_n 0, 1) := by decide +kernel
theorem dX8_probe_49 : decode cX8_probe 49 = .ok (.getfield 28, 3) := by decide +kernel
theorem dX8_probe_52 : decode cX8_probe 52 = .ok (.iload_n 2, 1) := by decide +kernel
theorem dX8_probe_53 : decode cX8_probe 53 = .ok (.invokevirtual 209, 3) := by decide +kernel
theorem dX8_probe_56 : decode cX8_probe 56 = .ok (.return_, 1) := by decide +kernel
set_option maxRecDepth 20000 in
theorem ggX8_goOn_X9_noteTold : GoodIn wsX8_goOn wsX9_noteTold := goodIn_r _ [13, 14, 15, 16, 17, 18, 12, 19, 20, 21, 22, 23, 7, 24, 25, 6, 8, 26, 27, 28, 29, 30, 80, 81, 82, 83, 84, 85] (by decide +kernel) (by decide +kernel)
set_option maxRecDepth 20000 in
theorem gX8_goOn_X9_noteTold : GoodIn wsX8_goOn (wsV RX8 212 RX9 yX9_noteTold wsX9_noteTold) := goodIn_app (goodIn_of _ (by decide +kernel)) ggX8_goOn_X9_noteTold
set_option maxRecDepth 20000 in
theorem ggX8_goOn_X8_goesByBoard : GoodIn wsX8_goOn wsX8_goesByBoard := goodIn_r _ [35, 36, 37, 60, 61, 62, 63, 64, 65, 66, 67, 68, 69, 70, 71, 72, 73, 74, 75, 76, 77, 78, 79] (by decide +kernel) (by decide +kernel)
set_option maxRecDepth 20000 in
theorem gX8_goOn_X8_goesByBoard : GoodIn wsX8_goOn (wsV RX8 171 RX8 yX8_goesByBoard wsX8_goesByBoard) := goodIn_app (goodIn_of _ (by decide +kernel)) ggX8_goOn_X8_goesByBoard
set_option maxRecDepth 20000 in
theorem ggX8_goOn_X0_goOn : GoodIn wsX8_goOn wsX0_goOn := goodIn_r _ [42, 43, 44, 45, 46, 47, 48, 49, 50, 86, 87, 88, 89, 90] (by decide +kernel) (by decide +kernel)
set_option maxRecDepth 20000 in
theorem gX8_goOn_X0_goOn : GoodIn wsX8_goOn (wsV RX8 215 RX0 yX0_goOn wsX0_goOn) := goodIn_app (goodIn_of _ (by decide +kernel)) ggX8_goOn_X0_goOn
set_option maxRecDepth 20000 in
theorem ggX8_goOn_X9_set : GoodIn wsX8_goOn wsX9_set := goodIn_r _ [54, 30, 55, 80, 81, 82, 83, 84, 85] (by decide +kernel) (by decide +kernel)
set_option maxRecDepth 20000 in
theorem gX8_goOn_X9_set : GoodIn wsX8_goOn (wsV RX8 209 RX9 yX9_set wsX9_set) := goodIn_app (goodIn_of _ (by decide +kernel)) ggX8_goOn_X9_set
set_option maxRecDepth 20000 in
theorem ggX8_goOn_X9_putOff : GoodIn wsX8_goOn wsX9_putOff := goodIn_r _ [59, 55, 80, 81, 82, 83, 84, 85] (by decide +kernel) (by decide +kernel)
set_option maxRecDepth 20000 in
theorem gX8_goOn_X9_putOff : GoodIn wsX8_goOn (wsV RX8 111 RX9 yX9_putOff wsX9_putOff) := goodIn_app (goodIn_of _ (by decide +kernel)) ggX8_goOn_X9_putOff
theorem dX8_goOn_0 : decode cX8_goOn 0 = .ok (.aload_n 0, 1) := by decide +kernel
theorem dX8_goOn_1 : decode cX8_goOn 1 = .ok (.getfield 59, 3) := by decide +kernel
theorem dX8_goOn_4 : decode cX8_goOn 4 = .ok (.iload_n 1, 1) := by decide +kernel
theorem dX8_goOn_5 : decode cX8_goOn 5 = .ok (.iadd, 1) := by decide +kernel
theorem dX8_goOn_6 : decode cX8_goOn 6 = .ok (.istore_n 3, 1) := by decide +kernel
theorem dX8_goOn_7 : decode cX8_goOn 7 = .ok (.aload_n 0, 1) := by decide +kernel
theorem dX8_goOn_8 : decode cX8_goOn 8 = .ok (.getfield 28, 3) := by decide +kernel
theorem dX8_goOn_11 : decode cX8_goOn 11 = .ok (.iload_n 3, 1) := by decide +kernel
theorem dX8_goOn_12 : decode cX8_goOn 12 = .ok (.iload_n 2, 1) := by decide +kernel
theorem dX8_goOn_13 : decode cX8_goOn 13 = .ok (.invokevirtual 212, 3) := by decide +kernel
theorem dX8_goOn_16 : decode cX8_goOn 16 = .ok (.aload_n 0, 1) := by decide +kernel
theorem dX8_goOn_17 : decode cX8_goOn 17 = .ok (.invokevirtual 171, 3) := by decide +kernel
theorem dX8_goOn_20 : decode cX8_goOn 20 = .ok (.ifCond .eq 15, 3) := by decide +kernel
theorem dX8_goOn_23 : decode cX8_goOn 23 = .ok (.aload_n 0, 1) := by decide +kernel
theorem dX8_goOn_24 : decode cX8_goOn 24 = .ok (.getfield 35, 3) := by decide +kernel
theorem dX8_goOn_27 : decode cX8_goOn 27 = .ok (.aload_n 0, 1) := by decide +kernel
theorem dX8_goOn_28 : decode cX8_goOn 28 = .ok (.getfield 59, 3) := by decide +kernel
theorem dX8_goOn_31 : decode cX8_goOn 31 = .ok (.iload_n 3, 1) := by decide +kernel
theorem dX8_goOn_32 : decode cX8_goOn 32 = .ok (.invokevirtual 215, 3) := by decide +kernel
theorem dX8_goOn_35 : decode cX8_goOn 35 = .ok (.aload_n 0, 1) := by decide +kernel
theorem dX8_goOn_36 : decode cX8_goOn 36 = .ok (.iload_n 3, 1) := by decide +kernel
theorem dX8_goOn_37 : decode cX8_goOn 37 = .ok (.putfield 59, 3) := by decide +kernel
theorem dX8_goOn_40 : decode cX8_goOn 40 = .ok (.aload_n 0, 1) := by decide +kernel
theorem dX8_goOn_41 : decode cX8_goOn 41 = .ok (.aload_n 0, 1) := by decide +kernel
theorem dX8_goOn_42 : decode cX8_goOn 42 = .ok (.getfield 65, 3) := by decide +kernel
theorem dX8_goOn_45 : decode cX8_goOn 45 = .ok (.iload_n 3, 1) := by decide +kernel
theorem dX8_goOn_46 : decode cX8_goOn 46 = .ok (.invokestatic 191, 3) := by decide +kernel
theorem dX8_goOn_49 : decode cX8_goOn 49 = .ok (.putfield 65, 3) := by decide +kernel
theorem dX8_goOn_52 : decode cX8_goOn 52 = .ok (.aload_n 0, 1) := by decide +kernel
theorem dX8_goOn_53 : decode cX8_goOn 53 = .ok (.getfield 65, 3) := by decide +kernel
theorem dX8_goOn_56 : decode cX8_goOn 56 = .ok (.aload_n 0, 1) := by decide +kernel
theorem dX8_goOn_57 : decode cX8_goOn 57 = .ok (.getfield 59, 3) := by decide +kernel
theorem dX8_goOn_60 : decode cX8_goOn 60 = .ok (.if_icmp .le 14, 3) := by decide +kernel
theorem dX8_goOn_63 : decode cX8_goOn 63 = .ok (.aload_n 0, 1) := by decide +kernel
theorem dX8_goOn_64 : decode cX8_goOn 64 = .ok (.getfield 28, 3) := by decide +kernel
theorem dX8_goOn_67 : decode cX8_goOn 67 = .ok (.iload_n 2, 1) := by decide +kernel
theorem dX8_goOn_68 : decode cX8_goOn 68 = .ok (.invokevirtual 209, 3) := by decide +kernel
theorem dX8_goOn_71 : decode cX8_goOn 71 = .ok (.goto 10, 3) := by decide +kernel
theorem dX8_goOn_74 : decode cX8_goOn 74 = .ok (.aload_n 0, 1) := by decide +kernel
theorem dX8_goOn_75 : decode cX8_goOn 75 = .ok (.getfield 28, 3) := by decide +kernel
theorem dX8_goOn_78 : decode cX8_goOn 78 = .ok (.invokevirtual 111, 3) := by decide +kernel
theorem dX8_goOn_81 : decode cX8_goOn 81 = .ok (.return_, 1) := by decide +kernel
set_option maxRecDepth 20000 in
theorem ggX8_hearInRecovery_X8_setCwnd : GoodIn wsX8_hearInRecovery wsX8_setCwnd := goodIn_r _ [16, 17, 18, 19, 10, 20, 7, 21, 8, 9, 11, 99, 100, 101, 102, 103, 104, 105, 106, 107, 108, 109, 110, 111, 112, 113, 114, 115, 116, 117, 118] (by decide +kernel) (by decide +kernel)
set_option maxRecDepth 20000 in
theorem gX8_hearInRecovery_X8_setCwnd : GoodIn wsX8_hearInRecovery (wsV RX8 219 RX8 yX8_setCwnd wsX8_setCwnd) := goodIn_app (goodIn_of _ (by decide +kernel)) ggX8_hearInRecovery_X8_setCwnd
set_option maxRecDepth 20000 in
theorem ggX8_hearInRecovery_X8_transmit : GoodIn wsX8_hearInRecovery wsX8_transmit := goodIn_r _ [25, 26, 27, 28, 8, 9, 10, 11, 29, 30, 31, 32, 33, 34, 35, 36, 37, 38, 39, 40, 41, 42, 43, 44, 45, 46, 47, 48, 49, 50, 51, 52, 53, 54, 55, 56, 57, 58, 59, 60, 61, 62, 63, 64, 65, 66, 67, 68, 69, 70, 71, 72, 73, 74, 75, 76, 77, 78, 79, 80, 81, 82, 83, 84, 85, 86, 87, 88, 89, 90, 91, 92, 93, 94, 95, 96, 97, 98, 99, 100, 101, 102, 103, 104, 105, 106, 107, 108, 109, 110, 111, 112, 113, 114, 115, 116, 117, 118, 119, 120, 121, 122, 123, 124, 125, 126, 127, 128, 129, 130, 131, 132, 133, 134, 135, 136, 137, 138, 139, 140, 141, 142, 143, 144, 145, 146, 147, 148, 149, 150, 151, 152, 153, 154] (by decide +kernel) (by decide +kernel)
set_option maxRecDepth 20000 in
theorem gX8_hearInRecovery_X8_transmit : GoodIn wsX8_hearInRecovery (wsV RX8 131 RX8 yX8_transmit wsX8_transmit) := goodIn_app (goodIn_of _ (by decide +kernel)) ggX8_hearInRecovery_X8_transmit
theorem dX8_hearInRecovery_0 : decode cX8_hearInRecovery 0 = .ok (.aload_n 0, 1) := by decide +kernel
theorem dX8_hearInRecovery_1 : decode cX8_hearInRecovery 1 = .ok (.getfield 49, 3) := by decide +kernel
theorem dX8_hearInRecovery_4 : decode cX8_hearInRecovery 4 = .ok (.ifCond .eq 14, 3) := by decide +kernel
theorem dX8_hearInRecovery_7 : decode cX8_hearInRecovery 7 = .ok (.aload_n 0, 1) := by decide +kernel
theorem dX8_hearInRecovery_8 : decode cX8_hearInRecovery 8 = .ok (.getfield 59, 3) := by decide +kernel
theorem dX8_hearInRecovery_11 : decode cX8_hearInRecovery 11 = .ok (.aload_n 0, 1) := by decide +kernel
theorem dX8_hearInRecovery_12 : decode cX8_hearInRecovery 12 = .ok (.getfield 216, 3) := by decide +kernel
theorem dX8_hearInRecovery_15 : decode cX8_hearInRecovery 15 = .ok (.if_icmp .lt 24, 3) := by decide +kernel
theorem dX8_hearInRecovery_18 : decode cX8_hearInRecovery 18 = .ok (.aload_n 0, 1) := by decide +kernel
theorem dX8_hearInRecovery_19 : decode cX8_hearInRecovery 19 = .ok (.aload_n 0, 1) := by decide +kernel
theorem dX8_hearInRecovery_20 : decode cX8_hearInRecovery 20 = .ok (.getfield 19, 3) := by decide +kernel
theorem dX8_hearInRecovery_23 : decode cX8_hearInRecovery 23 = .ok (.invokevirtual 219, 3) := by decide +kernel
theorem dX8_hearInRecovery_26 : decode cX8_hearInRecovery 26 = .ok (.aload_n 0, 1) := by decide +kernel
theorem dX8_hearInRecovery_27 : decode cX8_hearInRecovery 27 = .ok (.iconst 0, 1) := by decide +kernel
theorem dX8_hearInRecovery_28 : decode cX8_hearInRecovery 28 = .ok (.putfield 86, 3) := by decide +kernel
theorem dX8_hearInRecovery_31 : decode cX8_hearInRecovery 31 = .ok (.aload_n 0, 1) := by decide +kernel
theorem dX8_hearInRecovery_32 : decode cX8_hearInRecovery 32 = .ok (.iconst 0, 1) := by decide +kernel
theorem dX8_hearInRecovery_33 : decode cX8_hearInRecovery 33 = .ok (.putfield 93, 3) := by decide +kernel
theorem dX8_hearInRecovery_36 : decode cX8_hearInRecovery 36 = .ok (.goto 45, 3) := by decide +kernel
theorem dX8_hearInRecovery_39 : decode cX8_hearInRecovery 39 = .ok (.aload_n 0, 1) := by decide +kernel
theorem dX8_hearInRecovery_40 : decode cX8_hearInRecovery 40 = .ok (.getfield 49, 3) := by decide +kernel
theorem dX8_hearInRecovery_43 : decode cX8_hearInRecovery 43 = .ok (.iconst 3, 1) := by decide +kernel
theorem dX8_hearInRecovery_44 : decode cX8_hearInRecovery 44 = .ok (.if_icmp .eq 37, 3) := by decide +kernel
theorem dX8_hearInRecovery_47 : decode cX8_hearInRecovery 47 = .ok (.aload_n 0, 1) := by decide +kernel
theorem dX8_hearInRecovery_48 : decode cX8_hearInRecovery 48 = .ok (.aload_n 0, 1) := by decide +kernel
theorem dX8_hearInRecovery_49 : decode cX8_hearInRecovery 49 = .ok (.getfield 59, 3) := by decide +kernel
theorem dX8_hearInRecovery_52 : decode cX8_hearInRecovery 52 = .ok (.aload_n 2, 1) := by decide +kernel
theorem dX8_hearInRecovery_53 : decode cX8_hearInRecovery 53 = .ok (.iload_n 3, 1) := by decide +kernel
theorem dX8_hearInRecovery_54 : decode cX8_hearInRecovery 54 = .ok (.invokevirtual 131, 3) := by decide +kernel
theorem dX8_hearInRecovery_57 : decode cX8_hearInRecovery 57 = .ok (.aload_n 0, 1) := by decide +kernel
theorem dX8_hearInRecovery_58 : decode cX8_hearInRecovery 58 = .ok (.sipush 1024, 3) := by decide +kernel
theorem dX8_hearInRecovery_61 : decode cX8_hearInRecovery 61 = .ok (.aload_n 0, 1) := by decide +kernel
theorem dX8_hearInRecovery_62 : decode cX8_hearInRecovery 62 = .ok (.getfield 9, 3) := by decide +kernel
theorem dX8_hearInRecovery_65 : decode cX8_hearInRecovery 65 = .ok (.sipush 1024, 3) := by decide +kernel
theorem dX8_hearInRecovery_68 : decode cX8_hearInRecovery 68 = .ok (.iload_n 1, 1) := by decide +kernel
theorem dX8_hearInRecovery_69 : decode cX8_hearInRecovery 69 = .ok (.imul, 1) := by decide +kernel
theorem dX8_hearInRecovery_70 : decode cX8_hearInRecovery 70 = .ok (.isub, 1) := by decide +kernel
theorem dX8_hearInRecovery_71 : decode cX8_hearInRecovery 71 = .ok (.sipush 1024, 3) := by decide +kernel
theorem dX8_hearInRecovery_74 : decode cX8_hearInRecovery 74 = .ok (.iadd, 1) := by decide +kernel
theorem dX8_hearInRecovery_75 : decode cX8_hearInRecovery 75 = .ok (.invokestatic 191, 3) := by decide +kernel
theorem dX8_hearInRecovery_78 : decode cX8_hearInRecovery 78 = .ok (.invokevirtual 219, 3) := by decide +kernel
theorem dX8_hearInRecovery_81 : decode cX8_hearInRecovery 81 = .ok (.return_, 1) := by decide +kernel
set_option maxRecDepth 20000 in
theorem ggX8_grow_X8_setCwnd : GoodIn wsX8_grow wsX8_setCwnd := goodIn_r _ [15, 16, 17, 18, 9, 19, 1, 20, 7, 8, 10, 55, 56, 57, 58, 59, 60, 61, 62, 63, 64, 65, 66, 67, 68, 69, 70, 71, 72, 73, 74] (by decide +kernel) (by decide +kernel)
set_option maxRecDepth 20000 in
theorem gX8_grow_X8_setCwnd : GoodIn wsX8_grow (wsV RX8 219 RX8 yX8_setCwnd wsX8_setCwnd) := goodIn_app (goodIn_of _ (by decide +kernel)) ggX8_grow_X8_setCwnd
set_option maxRecDepth 20000 in
theorem ggX8_grow_X2_grow : GoodIn wsX8_grow wsX2_grow := goodIn_r _ [25, 26, 27, 28, 29, 30, 18, 9, 19, 31, 8, 10, 32, 33, 34, 35, 36, 37, 38, 39, 40, 41, 42, 43, 44, 45, 46, 24, 47, 48, 49, 50, 51, 52, 53, 54, 81, 82, 83, 84, 85] (by decide +kernel) (by decide +kernel)
set_option maxRecDepth 20000 in
theorem gX8_grow_X2_grow : GoodIn wsX8_grow (wsV RX8 222 RX2 yX2_grow wsX2_grow) := goodIn_app (goodIn_of _ (by decide +kernel)) ggX8_grow_X2_grow
theorem dX8_grow_0 : decode cX8_grow 0 = .ok (.aload_n 0, 1) := by decide +kernel
theorem dX8_grow_1 : decode cX8_grow 1 = .ok (.getfield 9, 3) := by decide +kernel
theorem dX8_grow_4 : decode cX8_grow 4 = .ok (.aload_n 0, 1) := by decide +kernel
theorem dX8_grow_5 : decode cX8_grow 5 = .ok (.getfield 19, 3) := by decide +kernel
theorem dX8_grow_8 : decode cX8_grow 8 = .ok (.if_icmp .ge 18, 3) := by decide +kernel
theorem dX8_grow_11 : decode cX8_grow 11 = .ok (.aload_n 0, 1) := by decide +kernel
theorem dX8_grow_12 : decode cX8_grow 12 = .ok (.aload_n 0, 1) := by decide +kernel
theorem dX8_grow_13 : decode cX8_grow 13 = .ok (.getfield 9, 3) := by decide +kernel
theorem dX8_grow_16 : decode cX8_grow 16 = .ok (.sipush 1024, 3) := by decide +kernel
theorem dX8_grow_19 : decode cX8_grow 19 = .ok (.iadd, 1) := by decide +kernel
theorem dX8_grow_20 : decode cX8_grow 20 = .ok (.invokevirtual 219, 3) := by decide +kernel
theorem dX8_grow_23 : decode cX8_grow 23 = .ok (.goto 61, 3) := by decide +kernel
theorem dX8_grow_26 : decode cX8_grow 26 = .ok (.aload_n 0, 1) := by decide +kernel
theorem dX8_grow_27 : decode cX8_grow 27 = .ok (.getfield 49, 3) := by decide +kernel
theorem dX8_grow_30 : decode cX8_grow 30 = .ok (.iconst 2, 1) := by decide +kernel
theorem dX8_grow_31 : decode cX8_grow 31 = .ok (.if_icmp .ne 29, 3) := by decide +kernel
theorem dX8_grow_34 : decode cX8_grow 34 = .ok (.aload_n 0, 1) := by decide +kernel
theorem dX8_grow_35 : decode cX8_grow 35 = .ok (.aload_n 0, 1) := by decide +kernel
theorem dX8_grow_36 : decode cX8_grow 36 = .ok (.getfield 42, 3) := by decide +kernel
theorem dX8_grow_39 : decode cX8_grow 39 = .ok (.aload_n 0, 1) := by decide +kernel
theorem dX8_grow_40 : decode cX8_grow 40 = .ok (.getfield 9, 3) := by decide +kernel
theorem dX8_grow_43 : decode cX8_grow 43 = .ok (.aload_n 0, 1) := by decide +kernel
theorem dX8_grow_44 : decode cX8_grow 44 = .ok (.getfield 28, 3) := by decide +kernel
theorem dX8_grow_47 : decode cX8_grow 47 = .ok (.getfield 140, 3) := by decide +kernel
theorem dX8_grow_50 : decode cX8_grow 50 = .ok (.iload_n 1, 1) := by decide +kernel
theorem dX8_grow_51 : decode cX8_grow 51 = .ok (.invokevirtual 222, 3) := by decide +kernel
theorem dX8_grow_54 : decode cX8_grow 54 = .ok (.invokevirtual 219, 3) := by decide +kernel
theorem dX8_grow_57 : decode cX8_grow 57 = .ok (.goto 27, 3) := by decide +kernel
theorem dX8_grow_60 : decode cX8_grow 60 = .ok (.aload_n 0, 1) := by decide +kernel
theorem dX8_grow_61 : decode cX8_grow 61 = .ok (.aload_n 0, 1) := by decide +kernel
theorem dX8_grow_62 : decode cX8_grow 62 = .ok (.getfield 9, 3) := by decide +kernel
theorem dX8_grow_65 : decode cX8_grow 65 = .ok (.iconst 1, 1) := by decide +kernel
theorem dX8_grow_66 : decode cX8_grow 66 = .ok (.ldc 18, 2) := by decide +kernel
theorem dX8_grow_68 : decode cX8_grow 68 = .ok (.iconst 1, 1) := by decide +kernel
theorem dX8_grow_69 : decode cX8_grow 69 = .ok (.aload_n 0, 1) := by decide +kernel
theorem dX8_grow_70 : decode cX8_grow 70 = .ok (.getfield 9, 3) := by decide +kernel
theorem dX8_grow_73 : decode cX8_grow 73 = .ok (.invokestatic 191, 3) := by decide +kernel
theorem dX8_grow_76 : decode cX8_grow 76 = .ok (.idiv, 1) := by decide +kernel
theorem dX8_grow_77 : decode cX8_grow 77 = .ok (.invokestatic 191, 3) := by decide +kernel
theorem dX8_grow_80 : decode cX8_grow 80 = .ok (.iadd, 1) := by decide +kernel
theorem dX8_grow_81 : decode cX8_grow 81 = .ok (.invokevirtual 219, 3) := by decide +kernel
theorem dX8_grow_84 : decode cX8_grow 84 = .ok (.return_, 1) := by decide +kernel
set_option maxRecDepth 20000 in
theorem ggX8_countDuplicate_X8_setCwnd : GoodIn wsX8_countDuplicate wsX8_setCwnd := goodIn_r _ [9, 10, 11, 12, 13, 14, 4, 15, 16, 17, 18, 19, 20, 21, 22, 23, 24, 25, 26, 27, 28, 29, 30, 31, 32, 33, 34, 35, 36, 37, 38] (by decide +kernel) (by decide +kernel)
set_option maxRecDepth 20000 in
theorem gX8_countDuplicate_X8_setCwnd : GoodIn wsX8_countDuplicate (wsV RX8 219 RX8 yX8_setCwnd wsX8_setCwnd) := goodIn_app (goodIn_of _ (by decide +kernel)) ggX8_countDuplicate_X8_setCwnd
theorem dX8_countDuplicate_0 : decode cX8_countDuplicate 0 = .ok (.aload_n 0, 1) := by decide +kernel
theorem dX8_countDuplicate_1 : decode cX8_countDuplicate 1 = .ok (.dup, 1) := by decide +kernel
theorem dX8_countDuplicate_2 : decode cX8_countDuplicate 2 = .ok (.getfield 93, 3) := by decide +kernel
theorem dX8_countDuplicate_5 : decode cX8_countDuplicate 5 = .ok (.iconst 1, 1) := by decide +kernel
theorem dX8_countDuplicate_6 : decode cX8_countDuplicate 6 = .ok (.iadd, 1) := by decide +kernel
theorem dX8_countDuplicate_7 : decode cX8_countDuplicate 7 = .ok (.putfield 93, 3) := by decide +kernel
theorem dX8_countDuplicate_10 : decode cX8_countDuplicate 10 = .ok (.aload_n 0, 1) := by decide +kernel
theorem dX8_countDuplicate_11 : decode cX8_countDuplicate 11 = .ok (.getfield 86, 3) := by decide +kernel
theorem dX8_countDuplicate_14 : decode cX8_countDuplicate 14 = .ok (.ifCond .eq 23, 3) := by decide +kernel
theorem dX8_countDuplicate_17 : decode cX8_countDuplicate 17 = .ok (.aload_n 0, 1) := by decide +kernel
theorem dX8_countDuplicate_18 : decode cX8_countDuplicate 18 = .ok (.getfield 49, 3) := by decide +kernel
theorem dX8_countDuplicate_21 : decode cX8_countDuplicate 21 = .ok (.iconst 3, 1) := by decide +kernel
theorem dX8_countDuplicate_22 : decode cX8_countDuplicate 22 = .ok (.if_icmp .eq 15, 3) := by decide +kernel
theorem dX8_countDuplicate_25 : decode cX8_countDuplicate 25 = .ok (.aload_n 0, 1) := by decide +kernel
theorem dX8_countDuplicate_26 : decode cX8_countDuplicate 26 = .ok (.aload_n 0, 1) := by decide +kernel
theorem dX8_countDuplicate_27 : decode cX8_countDuplicate 27 = .ok (.getfield 9, 3) := by decide +kernel
theorem dX8_countDuplicate_30 : decode cX8_countDuplicate 30 = .ok (.sipush 1024, 3) := by decide +kernel
theorem dX8_countDuplicate_33 : decode cX8_countDuplicate 33 = .ok (.iadd, 1) := by decide +kernel
theorem dX8_countDuplicate_34 : decode cX8_countDuplicate 34 = .ok (.invokevirtual 219, 3) := by decide +kernel
theorem dX8_countDuplicate_37 : decode cX8_countDuplicate 37 = .ok (.return_, 1) := by decide +kernel
theorem dX8_startsRecovery_0 : decode cX8_startsRecovery 0 = .ok (.aload_n 0, 1) := by decide +kernel
theorem dX8_startsRecovery_1 : decode cX8_startsRecovery 1 = .ok (.getfield 86, 3) := by decide +kernel
theorem dX8_startsRecovery_4 : decode cX8_startsRecovery 4 = .ok (.ifCond .ne 33, 3) := by decide +kernel
theorem dX8_startsRecovery_7 : decode cX8_startsRecovery 7 = .ok (.aload_n 0, 1) := by decide +kernel
theorem dX8_startsRecovery_8 : decode cX8_startsRecovery 8 = .ok (.getfield 93, 3) := by decide +kernel
theorem dX8_startsRecovery_11 : decode cX8_startsRecovery 11 = .ok (.iconst 3, 1) := by decide +kernel
theorem dX8_startsRecovery_12 : decode cX8_startsRecovery 12 = .ok (.if_icmp .ne 25, 3) := by decide +kernel
theorem dX8_startsRecovery_15 : decode cX8_startsRecovery 15 = .ok (.aload_n 0, 1) := by decide +kernel
theorem dX8_startsRecovery_16 : decode cX8_startsRecovery 16 = .ok (.getfield 49, 3) := by decide +kernel
theorem dX8_startsRecovery_19 : decode cX8_startsRecovery 19 = .ok (.ifCond .eq 14, 3) := by decide +kernel
theorem dX8_startsRecovery_22 : decode cX8_startsRecovery 22 = .ok (.aload_n 0, 1) := by decide +kernel
theorem dX8_startsRecovery_23 : decode cX8_startsRecovery 23 = .ok (.getfield 59, 3) := by decide +kernel
theorem dX8_startsRecovery_26 : decode cX8_startsRecovery 26 = .ok (.aload_n 0, 1) := by decide +kernel
theorem dX8_startsRecovery_27 : decode cX8_startsRecovery 27 = .ok (.getfield 216, 3) := by decide +kernel
theorem dX8_startsRecovery_30 : decode cX8_startsRecovery 30 = .ok (.if_icmp .lt 7, 3) := by decide +kernel
theorem dX8_startsRecovery_33 : decode cX8_startsRecovery 33 = .ok (.iconst 1, 1) := by decide +kernel
theorem dX8_startsRecovery_34 : decode cX8_startsRecovery 34 = .ok (.goto 4, 3) := by decide +kernel
theorem dX8_startsRecovery_37 : decode cX8_startsRecovery 37 = .ok (.iconst 0, 1) := by decide +kernel
theorem dX8_startsRecovery_38 : decode cX8_startsRecovery 38 = .ok (.ireturn, 1) := by decide +kernel
set_option maxRecDepth 20000 in
theorem ggX8_beginRecovery_X8_lossThreshold : GoodIn wsX8_beginRecovery wsX8_lossThreshold := goodIn_r _ [13, 8, 14, 15, 16, 7, 17, 18, 19, 20, 21, 22, 23, 24, 25, 26, 27, 28, 124, 125, 126, 127, 128, 129, 130, 131, 132, 133, 134, 135, 136, 137, 138, 139, 140, 141, 142, 143, 144, 145, 146, 147, 148] (by decide +kernel) (by decide +kernel)
set_option maxRecDepth 20000 in
theorem gX8_beginRecovery_X8_lossThreshold : GoodIn wsX8_beginRecovery (wsV RX8 224 RX8 yX8_lossThreshold wsX8_lossThreshold) := goodIn_app (goodIn_of _ (by decide +kernel)) ggX8_beginRecovery_X8_lossThreshold
set_option maxRecDepth 20000 in
theorem ggX8_beginRecovery_X0_beginRecovery : GoodIn wsX8_beginRecovery wsX0_beginRecovery := goodIn_r _ [33, 34, 35, 36, 37, 38, 39, 40, 41, 149, 150, 151, 152, 153] (by decide +kernel) (by decide +kernel)
set_option maxRecDepth 20000 in
theorem gX8_beginRecovery_X0_beginRecovery : GoodIn wsX8_beginRecovery (wsV RX8 227 RX0 yX0_beginRecovery wsX0_beginRecovery) := goodIn_app (goodIn_of _ (by decide +kernel)) ggX8_beginRecovery_X0_beginRecovery
set_option maxRecDepth 20000 in
theorem ggX8_beginRecovery_X8_transmit : GoodIn wsX8_beginRecovery wsX8_transmit := goodIn_r _ [45, 4, 46, 6, 17, 18, 19, 20, 47, 48, 49, 50, 51, 39, 52, 41, 53, 54, 55, 56, 57, 58, 59, 60, 61, 62, 63, 64, 65, 66, 67, 68, 69, 70, 71, 72, 73, 74, 75, 76, 77, 78, 79, 80, 81, 82, 83, 84, 85, 86, 87, 88, 89, 90, 91, 92, 93, 94, 95, 96, 97, 98, 99, 100, 101, 102, 103, 104, 105, 106, 107, 108, 109, 110, 111, 112, 113, 114, 124, 125, 126, 127, 128, 129, 130, 131, 132, 133, 134, 135, 136, 137, 138, 139, 140, 141, 142, 143, 149, 150, 151, 152, 153, 154, 155, 156, 157, 158, 159, 160, 161, 162, 163, 164, 165, 166, 167, 168, 169, 170, 171, 172, 173, 174, 175, 176, 177, 178, 179, 180, 181, 182, 183, 184] (by decide +kernel) (by decide +kernel)
set_option maxRecDepth 20000 in
theorem gX8_beginRecovery_X8_transmit : GoodIn wsX8_beginRecovery (wsV RX8 131 RX8 yX8_transmit wsX8_transmit) := goodIn_app (goodIn_of _ (by decide +kernel)) ggX8_beginRecovery_X8_transmit
set_option maxRecDepth 20000 in
theorem ggX8_beginRecovery_X8_setCwnd : GoodIn wsX8_beginRecovery wsX8_setCwnd := goodIn_r _ [118, 119, 120, 121, 19, 122, 15, 123, 17, 18, 20, 124, 125, 126, 127, 128, 129, 130, 131, 132, 133, 134, 135, 136, 137, 138, 139, 140, 141, 142, 143] (by decide +kernel) (by decide +kernel)
set_option maxRecDepth 20000 in
theorem gX8_beginRecovery_X8_setCwnd : GoodIn wsX8_beginRecovery (wsV RX8 219 RX8 yX8_setCwnd wsX8_setCwnd) := goodIn_app (goodIn_of _ (by decide +kernel)) ggX8_beginRecovery_X8_setCwnd
theorem dX8_beginRecovery_0 : decode cX8_beginRecovery 0 = .ok (.aload_n 0, 1) := by decide +kernel
theorem dX8_beginRecovery_1 : decode cX8_beginRecovery 1 = .ok (.aload_n 0, 1) := by decide +kernel
theorem dX8_beginRecovery_2 : decode cX8_beginRecovery 2 = .ok (.invokevirtual 224, 3) := by decide +kernel
theorem dX8_beginRecovery_5 : decode cX8_beginRecovery 5 = .ok (.putfield 19, 3) := by decide +kernel
theorem dX8_beginRecovery_8 : decode cX8_beginRecovery 8 = .ok (.aload_n 0, 1) := by decide +kernel
theorem dX8_beginRecovery_9 : decode cX8_beginRecovery 9 = .ok (.iconst 1, 1) := by decide +kernel
theorem dX8_beginRecovery_10 : decode cX8_beginRecovery 10 = .ok (.putfield 86, 3) := by decide +kernel
theorem dX8_beginRecovery_13 : decode cX8_beginRecovery 13 = .ok (.aload_n 0, 1) := by decide +kernel
theorem dX8_beginRecovery_14 : decode cX8_beginRecovery 14 = .ok (.dup, 1) := by decide +kernel
theorem dX8_beginRecovery_15 : decode cX8_beginRecovery 15 = .ok (.getfield 153, 3) := by decide +kernel
theorem dX8_beginRecovery_18 : decode cX8_beginRecovery 18 = .ok (.iconst 1, 1) := by decide +kernel
theorem dX8_beginRecovery_19 : decode cX8_beginRecovery 19 = .ok (.iadd, 1) := by decide +kernel
theorem dX8_beginRecovery_20 : decode cX8_beginRecovery 20 = .ok (.putfield 153, 3) := by decide +kernel
theorem dX8_beginRecovery_23 : decode cX8_beginRecovery 23 = .ok (.aload_n 0, 1) := by decide +kernel
theorem dX8_beginRecovery_24 : decode cX8_beginRecovery 24 = .ok (.aload_n 0, 1) := by decide +kernel
theorem dX8_beginRecovery_25 : decode cX8_beginRecovery 25 = .ok (.getfield 79, 3) := by decide +kernel
theorem dX8_beginRecovery_28 : decode cX8_beginRecovery 28 = .ok (.putfield 216, 3) := by decide +kernel
theorem dX8_beginRecovery_31 : decode cX8_beginRecovery 31 = .ok (.aload_n 0, 1) := by decide +kernel
theorem dX8_beginRecovery_32 : decode cX8_beginRecovery 32 = .ok (.getfield 35, 3) := by decide +kernel
theorem dX8_beginRecovery_35 : decode cX8_beginRecovery 35 = .ok (.aload_n 0, 1) := by decide +kernel
theorem dX8_beginRecovery_36 : decode cX8_beginRecovery 36 = .ok (.getfield 59, 3) := by decide +kernel
theorem dX8_beginRecovery_39 : decode cX8_beginRecovery 39 = .ok (.invokevirtual 227, 3) := by decide +kernel
theorem dX8_beginRecovery_42 : decode cX8_beginRecovery 42 = .ok (.aload_n 0, 1) := by decide +kernel
theorem dX8_beginRecovery_43 : decode cX8_beginRecovery 43 = .ok (.aload_n 0, 1) := by decide +kernel
theorem dX8_beginRecovery_44 : decode cX8_beginRecovery 44 = .ok (.getfield 59, 3) := by decide +kernel
theorem dX8_beginRecovery_47 : decode cX8_beginRecovery 47 = .ok (.aload_n 1, 1) := by decide +kernel
theorem dX8_beginRecovery_48 : decode cX8_beginRecovery 48 = .ok (.iload_n 2, 1) := by decide +kernel
theorem dX8_beginRecovery_49 : decode cX8_beginRecovery 49 = .ok (.invokevirtual 131, 3) := by decide +kernel
theorem dX8_beginRecovery_52 : decode cX8_beginRecovery 52 = .ok (.aload_n 0, 1) := by decide +kernel
theorem dX8_beginRecovery_53 : decode cX8_beginRecovery 53 = .ok (.aload_n 0, 1) := by decide +kernel
theorem dX8_beginRecovery_54 : decode cX8_beginRecovery 54 = .ok (.getfield 49, 3) := by decide +kernel
theorem dX8_beginRecovery_57 : decode cX8_beginRecovery 57 = .ok (.iconst 3, 1) := by decide +kernel
theorem dX8_beginRecovery_58 : decode cX8_beginRecovery 58 = .ok (.if_icmp .ne 10, 3) := by decide +kernel
theorem dX8_beginRecovery_61 : decode cX8_beginRecovery 61 = .ok (.aload_n 0, 1) := by decide +kernel
theorem dX8_beginRecovery_62 : decode cX8_beginRecovery 62 = .ok (.getfield 19, 3) := by decide +kernel
theorem dX8_beginRecovery_65 : decode cX8_beginRecovery 65 = .ok (.goto 11, 3) := by decide +kernel
theorem dX8_beginRecovery_68 : decode cX8_beginRecovery 68 = .ok (.aload_n 0, 1) := by decide +kernel
theorem dX8_beginRecovery_69 : decode cX8_beginRecovery 69 = .ok (.getfield 19, 3) := by decide +kernel
theorem dX8_beginRecovery_72 : decode cX8_beginRecovery 72 = .ok (.sipush 3072, 3) := by decide +kernel
theorem dX8_beginRecovery_75 : decode cX8_beginRecovery 75 = .ok (.iadd, 1) := by decide +kernel
theorem dX8_beginRecovery_76 : decode cX8_beginRecovery 76 = .ok (.invokevirtual 219, 3) := by decide +kernel
theorem dX8_beginRecovery_79 : decode cX8_beginRecovery 79 = .ok (.return_, 1) := by decide +kernel
set_option maxRecDepth 20000 in
theorem ggX8_timeOut_X8_lossThreshold : GoodIn wsX8_timeOut wsX8_lossThreshold := goodIn_r _ [15, 16, 17, 18, 9, 8, 19, 20, 21, 22, 23, 24, 25, 26, 27, 28, 29, 30, 61, 62, 63, 64, 65, 66, 67, 68, 69, 70, 71, 72, 73, 74, 75, 76, 77, 78, 79, 80, 81, 82, 83, 84, 85] (by decide +kernel) (by decide +kernel)
set_option maxRecDepth 20000 in
theorem gX8_timeOut_X8_lossThreshold : GoodIn wsX8_timeOut (wsV RX8 224 RX8 yX8_lossThreshold wsX8_lossThreshold) := goodIn_app (goodIn_of _ (by decide +kernel)) ggX8_timeOut_X8_lossThreshold
set_option maxRecDepth 20000 in
theorem ggX8_timeOut_X8_setCwnd : GoodIn wsX8_timeOut wsX8_setCwnd := goodIn_r _ [34, 35, 36, 37, 21, 38, 18, 39, 19, 20, 22, 61, 62, 63, 64, 65, 66, 67, 68, 69, 70, 71, 72, 73, 74, 75, 76, 77, 78, 79, 80] (by decide +kernel) (by decide +kernel)
set_option maxRecDepth 20000 in
theorem gX8_timeOut_X8_setCwnd : GoodIn wsX8_timeOut (wsV RX8 219 RX8 yX8_setCwnd wsX8_setCwnd) := goodIn_app (goodIn_of _ (by decide +kernel)) ggX8_timeOut_X8_setCwnd
set_option maxRecDepth 20000 in
theorem ggX8_timeOut_X9_doubleRto : GoodIn wsX8_timeOut wsX9_doubleRto := goodIn_r _ [44, 45, 46, 47, 37, 21, 38, 86, 87, 88, 89, 90, 91] (by decide +kernel) (by decide +kernel)
set_option maxRecDepth 20000 in
theorem gX8_timeOut_X9_doubleRto : GoodIn wsX8_timeOut (wsV RX8 206 RX9 yX9_doubleRto wsX9_doubleRto) := goodIn_app (goodIn_of _ (by decide +kernel)) ggX8_timeOut_X9_doubleRto
set_option maxRecDepth 20000 in
theorem ggX8_timeOut_X0_forget : GoodIn wsX8_timeOut wsX0_forget := goodIn_r _ [52, 53, 54, 55, 56, 57, 58, 59, 60, 92, 93, 94, 95, 96] (by decide +kernel) (by decide +kernel)
set_option maxRecDepth 20000 in
theorem gX8_timeOut_X0_forget : GoodIn wsX8_timeOut (wsV RX8 229 RX0 yX0_forget wsX0_forget) := goodIn_app (goodIn_of _ (by decide +kernel)) ggX8_timeOut_X0_forget
theorem dX8_timeOut_0 : decode cX8_timeOut 0 = .ok (.aload_n 0, 1) := by decide +kernel
theorem dX8_timeOut_1 : decode cX8_timeOut 1 = .ok (.aload_n 0, 1) := by decide +kernel
theorem dX8_timeOut_2 : decode cX8_timeOut 2 = .ok (.invokevirtual 224, 3) := by decide +kernel
theorem dX8_timeOut_5 : decode cX8_timeOut 5 = .ok (.putfield 19, 3) := by decide +kernel
theorem dX8_timeOut_8 : decode cX8_timeOut 8 = .ok (.aload_n 0, 1) := by decide +kernel
theorem dX8_timeOut_9 : decode cX8_timeOut 9 = .ok (.sipush 1024, 3) := by decide +kernel
theorem dX8_timeOut_12 : decode cX8_timeOut 12 = .ok (.invokevirtual 219, 3) := by decide +kernel
theorem dX8_timeOut_15 : decode cX8_timeOut 15 = .ok (.aload_n 0, 1) := by decide +kernel
theorem dX8_timeOut_16 : decode cX8_timeOut 16 = .ok (.getfield 28, 3) := by decide +kernel
theorem dX8_timeOut_19 : decode cX8_timeOut 19 = .ok (.invokevirtual 206, 3) := by decide +kernel
theorem dX8_timeOut_22 : decode cX8_timeOut 22 = .ok (.aload_n 0, 1) := by decide +kernel
theorem dX8_timeOut_23 : decode cX8_timeOut 23 = .ok (.dup, 1) := by decide +kernel
theorem dX8_timeOut_24 : decode cX8_timeOut 24 = .ok (.getfield 150, 3) := by decide +kernel
theorem dX8_timeOut_27 : decode cX8_timeOut 27 = .ok (.iconst 1, 1) := by decide +kernel
theorem dX8_timeOut_28 : decode cX8_timeOut 28 = .ok (.iadd, 1) := by decide +kernel
theorem dX8_timeOut_29 : decode cX8_timeOut 29 = .ok (.putfield 150, 3) := by decide +kernel
theorem dX8_timeOut_32 : decode cX8_timeOut 32 = .ok (.aload_n 0, 1) := by decide +kernel
theorem dX8_timeOut_33 : decode cX8_timeOut 33 = .ok (.iconst 0, 1) := by decide +kernel
theorem dX8_timeOut_34 : decode cX8_timeOut 34 = .ok (.putfield 86, 3) := by decide +kernel
theorem dX8_timeOut_37 : decode cX8_timeOut 37 = .ok (.aload_n 0, 1) := by decide +kernel
theorem dX8_timeOut_38 : decode cX8_timeOut 38 = .ok (.iconst 0, 1) := by decide +kernel
theorem dX8_timeOut_39 : decode cX8_timeOut 39 = .ok (.putfield 93, 3) := by decide +kernel
theorem dX8_timeOut_42 : decode cX8_timeOut 42 = .ok (.aload_n 0, 1) := by decide +kernel
theorem dX8_timeOut_43 : decode cX8_timeOut 43 = .ok (.aload_n 0, 1) := by decide +kernel
theorem dX8_timeOut_44 : decode cX8_timeOut 44 = .ok (.getfield 79, 3) := by decide +kernel
theorem dX8_timeOut_47 : decode cX8_timeOut 47 = .ok (.putfield 216, 3) := by decide +kernel
theorem dX8_timeOut_50 : decode cX8_timeOut 50 = .ok (.aload_n 0, 1) := by decide +kernel
theorem dX8_timeOut_51 : decode cX8_timeOut 51 = .ok (.aload_n 0, 1) := by decide +kernel
theorem dX8_timeOut_52 : decode cX8_timeOut 52 = .ok (.getfield 59, 3) := by decide +kernel
theorem dX8_timeOut_55 : decode cX8_timeOut 55 = .ok (.putfield 65, 3) := by decide +kernel
theorem dX8_timeOut_58 : decode cX8_timeOut 58 = .ok (.aload_n 0, 1) := by decide +kernel
theorem dX8_timeOut_59 : decode cX8_timeOut 59 = .ok (.getfield 35, 3) := by decide +kernel
theorem dX8_timeOut_62 : decode cX8_timeOut 62 = .ok (.invokevirtual 229, 3) := by decide +kernel
theorem dX8_timeOut_65 : decode cX8_timeOut 65 = .ok (.return_, 1) := by decide +kernel
set_option maxRecDepth 20000 in
theorem ggX8_lossThreshold_X2_noteLoss : GoodIn wsX8_lossThreshold wsX2_noteLoss := goodIn_r _ [14, 15, 16, 17, 7, 8, 9, 38, 39, 40, 41, 42] (by decide +kernel) (by decide +kernel)
set_option maxRecDepth 20000 in
theorem gX8_lossThreshold_X2_noteLoss : GoodIn wsX8_lossThreshold (wsV RX8 232 RX2 yX2_noteLoss wsX2_noteLoss) := goodIn_app (goodIn_of _ (by decide +kernel)) ggX8_lossThreshold_X2_noteLoss
theorem dX8_lossThreshold_0 : decode cX8_lossThreshold 0 = .ok (.aload_n 0, 1) := by decide +kernel
theorem dX8_lossThreshold_1 : decode cX8_lossThreshold 1 = .ok (.getfield 49, 3) := by decide +kernel
theorem dX8_lossThreshold_4 : decode cX8_lossThreshold 4 = .ok (.iconst 2, 1) := by decide +kernel
theorem dX8_lossThreshold_5 : decode cX8_lossThreshold 5 = .ok (.if_icmp .ne 15, 3) := by decide +kernel
theorem dX8_lossThreshold_8 : decode cX8_lossThreshold 8 = .ok (.aload_n 0, 1) := by decide +kernel
theorem dX8_lossThreshold_9 : decode cX8_lossThreshold 9 = .ok (.getfield 42, 3) := by decide +kernel
theorem dX8_lossThreshold_12 : decode cX8_lossThreshold 12 = .ok (.aload_n 0, 1) := by decide +kernel
theorem dX8_lossThreshold_13 : decode cX8_lossThreshold 13 = .ok (.getfield 9, 3) := by decide +kernel
theorem dX8_lossThreshold_16 : decode cX8_lossThreshold 16 = .ok (.invokevirtual 232, 3) := by decide +kernel
theorem dX8_lossThreshold_19 : decode cX8_lossThreshold 19 = .ok (.ireturn, 1) := by decide +kernel
theorem dX8_lossThreshold_20 : decode cX8_lossThreshold 20 = .ok (.sipush 2048, 3) := by decide +kernel
theorem dX8_lossThreshold_23 : decode cX8_lossThreshold 23 = .ok (.aload_n 0, 1) := by decide +kernel
theorem dX8_lossThreshold_24 : decode cX8_lossThreshold 24 = .ok (.getfield 65, 3) := by decide +kernel
theorem dX8_lossThreshold_27 : decode cX8_lossThreshold 27 = .ok (.aload_n 0, 1) := by decide +kernel
theorem dX8_lossThreshold_28 : decode cX8_lossThreshold 28 = .ok (.getfield 59, 3) := by decide +kernel
theorem dX8_lossThreshold_31 : decode cX8_lossThreshold 31 = .ok (.isub, 1) := by decide +kernel
theorem dX8_lossThreshold_32 : decode cX8_lossThreshold 32 = .ok (.sipush 512, 3) := by decide +kernel
theorem dX8_lossThreshold_35 : decode cX8_lossThreshold 35 = .ok (.imul, 1) := by decide +kernel
theorem dX8_lossThreshold_36 : decode cX8_lossThreshold 36 = .ok (.invokestatic 191, 3) := by decide +kernel
theorem dX8_lossThreshold_39 : decode cX8_lossThreshold 39 = .ok (.ireturn, 1) := by decide +kernel
theorem dX8_setCwnd_0 : decode cX8_setCwnd 0 = .ok (.aload_n 0, 1) := by decide +kernel
theorem dX8_setCwnd_1 : decode cX8_setCwnd 1 = .ok (.ldc 235, 2) := by decide +kernel
theorem dX8_setCwnd_3 : decode cX8_setCwnd 3 = .ok (.iload_n 1, 1) := by decide +kernel
theorem dX8_setCwnd_4 : decode cX8_setCwnd 4 = .ok (.invokestatic 236, 3) := by decide +kernel
theorem dX8_setCwnd_7 : decode cX8_setCwnd 7 = .ok (.putfield 9, 3) := by decide +kernel
theorem dX8_setCwnd_10 : decode cX8_setCwnd 10 = .ok (.aload_n 0, 1) := by decide +kernel
theorem dX8_setCwnd_11 : decode cX8_setCwnd 11 = .ok (.aload_n 0, 1) := by decide +kernel
theorem dX8_setCwnd_12 : decode cX8_setCwnd 12 = .ok (.getfield 15, 3) := by decide +kernel
theorem dX8_setCwnd_15 : decode cX8_setCwnd 15 = .ok (.aload_n 0, 1) := by decide +kernel
theorem dX8_setCwnd_16 : decode cX8_setCwnd 16 = .ok (.getfield 9, 3) := by decide +kernel
theorem dX8_setCwnd_19 : decode cX8_setCwnd 19 = .ok (.invokestatic 191, 3) := by decide +kernel
theorem dX8_setCwnd_22 : decode cX8_setCwnd 22 = .ok (.putfield 15, 3) := by decide +kernel
theorem dX8_setCwnd_25 : decode cX8_setCwnd 25 = .ok (.return_, 1) := by decide +kernel
theorem dX9_init_0 : decode cX9_init 0 = .ok (.aload_n 0, 1) := by decide +kernel
theorem dX9_init_1 : decode cX9_init 1 = .ok (.invokespecial 3, 3) := by decide +kernel
theorem dX9_init_4 : decode cX9_init 4 = .ok (.aload_n 0, 1) := by decide +kernel
theorem dX9_init_5 : decode cX9_init 5 = .ok (.sipush 1000, 3) := by decide +kernel
theorem dX9_init_8 : decode cX9_init 8 = .ok (.putfield 9, 3) := by decide +kernel
theorem dX9_init_11 : decode cX9_init 11 = .ok (.aload_n 0, 1) := by decide +kernel
theorem dX9_init_12 : decode cX9_init 12 = .ok (.iconst (-1), 1) := by decide +kernel
theorem dX9_init_13 : decode cX9_init 13 = .ok (.putfield 15, 3) := by decide +kernel
theorem dX9_init_16 : decode cX9_init 16 = .ok (.aload_n 0, 1) := by decide +kernel
theorem dX9_init_17 : decode cX9_init 17 = .ok (.iconst (-1), 1) := by decide +kernel
theorem dX9_init_18 : decode cX9_init 18 = .ok (.putfield 18, 3) := by decide +kernel
theorem dX9_init_21 : decode cX9_init 21 = .ok (.return_, 1) := by decide +kernel
theorem dX9_set_0 : decode cX9_set 0 = .ok (.aload_n 0, 1) := by decide +kernel
theorem dX9_set_1 : decode cX9_set 1 = .ok (.iload_n 1, 1) := by decide +kernel
theorem dX9_set_2 : decode cX9_set 2 = .ok (.aload_n 0, 1) := by decide +kernel
theorem dX9_set_3 : decode cX9_set 3 = .ok (.getfield 9, 3) := by decide +kernel
theorem dX9_set_6 : decode cX9_set 6 = .ok (.iadd, 1) := by decide +kernel
theorem dX9_set_7 : decode cX9_set 7 = .ok (.putfield 15, 3) := by decide +kernel
theorem dX9_set_10 : decode cX9_set 10 = .ok (.return_, 1) := by decide +kernel
set_option maxRecDepth 20000 in
theorem ggX9_setIfOff_X9_set : GoodIn wsX9_setIfOff wsX9_set := goodIn_r _ [6, 7, 1, 8, 9, 10, 11, 12, 13] (by decide +kernel) (by decide +kernel)
set_option maxRecDepth 20000 in
theorem gX9_setIfOff_X9_set : GoodIn wsX9_setIfOff (wsV RX9 21 RX9 yX9_set wsX9_set) := goodIn_app (goodIn_of _ (by decide +kernel)) ggX9_setIfOff_X9_set
theorem dX9_setIfOff_0 : decode cX9_setIfOff 0 = .ok (.aload_n 0, 1) := by decide +kernel
theorem dX9_setIfOff_1 : decode cX9_setIfOff 1 = .ok (.getfield 15, 3) := by decide +kernel
theorem dX9_setIfOff_4 : decode cX9_setIfOff 4 = .ok (.iconst (-1), 1) := by decide +kernel
theorem dX9_setIfOff_5 : decode cX9_setIfOff 5 = .ok (.if_icmp .ne 8, 3) := by decide +kernel
theorem dX9_setIfOff_8 : decode cX9_setIfOff 8 = .ok (.aload_n 0, 1) := by decide +kernel
theorem dX9_setIfOff_9 : decode cX9_setIfOff 9 = .ok (.iload_n 1, 1) := by decide +kernel
theorem dX9_setIfOff_10 : decode cX9_setIfOff 10 = .ok (.invokevirtual 21, 3) := by decide +kernel
theorem dX9_setIfOff_13 : decode cX9_setIfOff 13 = .ok (.return_, 1) := by decide +kernel
theorem dX9_putOff_0 : decode cX9_putOff 0 = .ok (.aload_n 0, 1) := by decide +kernel
theorem dX9_putOff_1 : decode cX9_putOff 1 = .ok (.iconst (-1), 1) := by decide +kernel
theorem dX9_putOff_2 : decode cX9_putOff 2 = .ok (.putfield 15, 3) := by decide +kernel
theorem dX9_putOff_5 : decode cX9_putOff 5 = .ok (.return_, 1) := by decide +kernel
theorem dX9_doubleRto_0 : decode cX9_doubleRto 0 = .ok (.aload_n 0, 1) := by decide +kernel
theorem dX9_doubleRto_1 : decode cX9_doubleRto 1 = .ok (.ldc 25, 2) := by decide +kernel
theorem dX9_doubleRto_3 : decode cX9_doubleRto 3 = .ok (.aload_n 0, 1) := by decide +kernel
theorem dX9_doubleRto_4 : decode cX9_doubleRto 4 = .ok (.getfield 9, 3) := by decide +kernel
theorem dX9_doubleRto_7 : decode cX9_doubleRto 7 = .ok (.iconst 2, 1) := by decide +kernel
theorem dX9_doubleRto_8 : decode cX9_doubleRto 8 = .ok (.imul, 1) := by decide +kernel
theorem dX9_doubleRto_9 : decode cX9_doubleRto 9 = .ok (.invokestatic 26, 3) := by decide +kernel
theorem dX9_doubleRto_12 : decode cX9_doubleRto 12 = .ok (.putfield 9, 3) := by decide +kernel
theorem dX9_doubleRto_15 : decode cX9_doubleRto 15 = .ok (.return_, 1) := by decide +kernel
set_option maxRecDepth 20000 in
theorem ggX9_noteSent_X9_setIfOff : GoodIn wsX9_noteSent wsX9_setIfOff := goodIn_r _ [7, 8, 9, 10, 11, 6, 12, 13, 14, 15, 16, 17, 18, 19] (by decide +kernel) (by decide +kernel)
set_option maxRecDepth 20000 in
theorem gX9_noteSent_X9_setIfOff : GoodIn wsX9_noteSent (wsV RX9 35 RX9 yX9_setIfOff wsX9_setIfOff) := goodIn_app (goodIn_of _ (by decide +kernel)) ggX9_noteSent_X9_setIfOff
theorem dX9_noteSent_0 : decode cX9_noteSent 0 = .ok (.iload_n 2, 1) := by decide +kernel
theorem dX9_noteSent_1 : decode cX9_noteSent 1 = .ok (.ifCond .eq 26, 3) := by decide +kernel
theorem dX9_noteSent_4 : decode cX9_noteSent 4 = .ok (.aload_n 0, 1) := by decide +kernel
theorem dX9_noteSent_5 : decode cX9_noteSent 5 = .ok (.iload_n 1, 1) := by decide +kernel
theorem dX9_noteSent_6 : decode cX9_noteSent 6 = .ok (.aload_n 0, 1) := by decide +kernel
theorem dX9_noteSent_7 : decode cX9_noteSent 7 = .ok (.getfield 18, 3) := by decide +kernel
theorem dX9_noteSent_10 : decode cX9_noteSent 10 = .ok (.if_icmp .ne 7, 3) := by decide +kernel
theorem dX9_noteSent_13 : decode cX9_noteSent 13 = .ok (.iconst (-1), 1) := by decide +kernel
theorem dX9_noteSent_14 : decode cX9_noteSent 14 = .ok (.goto 7, 3) := by decide +kernel
theorem dX9_noteSent_17 : decode cX9_noteSent 17 = .ok (.aload_n 0, 1) := by decide +kernel
theorem dX9_noteSent_18 : decode cX9_noteSent 18 = .ok (.getfield 18, 3) := by decide +kernel
theorem dX9_noteSent_21 : decode cX9_noteSent 21 = .ok (.putfield 18, 3) := by decide +kernel
theorem dX9_noteSent_24 : decode cX9_noteSent 24 = .ok (.goto 21, 3) := by decide +kernel
theorem dX9_noteSent_27 : decode cX9_noteSent 27 = .ok (.aload_n 0, 1) := by decide +kernel
theorem dX9_noteSent_28 : decode cX9_noteSent 28 = .ok (.getfield 18, 3) := by decide +kernel
theorem dX9_noteSent_31 : decode cX9_noteSent 31 = .ok (.iconst (-1), 1) := by decide +kernel
theorem dX9_noteSent_32 : decode cX9_noteSent 32 = .ok (.if_icmp .ne 13, 3) := by decide +kernel
theorem dX9_noteSent_35 : decode cX9_noteSent 35 = .ok (.aload_n 0, 1) := by decide +kernel
theorem dX9_noteSent_36 : decode cX9_noteSent 36 = .ok (.iload_n 1, 1) := by decide +kernel
theorem dX9_noteSent_37 : decode cX9_noteSent 37 = .ok (.putfield 18, 3) := by decide +kernel
theorem dX9_noteSent_40 : decode cX9_noteSent 40 = .ok (.aload_n 0, 1) := by decide +kernel
theorem dX9_noteSent_41 : decode cX9_noteSent 41 = .ok (.iload_n 3, 1) := by decide +kernel
theorem dX9_noteSent_42 : decode cX9_noteSent 42 = .ok (.putfield 32, 3) := by decide +kernel
theorem dX9_noteSent_45 : decode cX9_noteSent 45 = .ok (.aload_n 0, 1) := by decide +kernel
theorem dX9_noteSent_46 : decode cX9_noteSent 46 = .ok (.iload_n 3, 1) := by decide +kernel
theorem dX9_noteSent_47 : decode cX9_noteSent 47 = .ok (.invokevirtual 35, 3) := by decide +kernel
theorem dX9_noteSent_50 : decode cX9_noteSent 50 = .ok (.return_, 1) := by decide +kernel
set_option maxRecDepth 20000 in
theorem ggX9_noteTold_X9_learn : GoodIn wsX9_noteTold wsX9_learn := goodIn_r _ [7, 8, 9, 10, 11, 12, 13, 14, 15, 16, 17, 18, 19, 20, 21, 22, 23, 24, 25, 26, 27] (by decide +kernel) (by decide +kernel)
set_option maxRecDepth 20000 in
theorem gX9_noteTold_X9_learn : GoodIn wsX9_noteTold (wsV RX9 38 RX9 yX9_learn wsX9_learn) := goodIn_app (goodIn_of _ (by decide +kernel)) ggX9_noteTold_X9_learn
