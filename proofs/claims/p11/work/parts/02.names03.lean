theorem dX11_send_2 : decode cX11_send 2 = .ok (.invokevirtual 195, 3) := by decide +kernel
theorem dX11_send_5 : decode cX11_send 5 = .ok (.ifCond .eq 26, 3) := by decide +kernel
theorem dX11_send_8 : decode cX11_send 8 = .ok (.iload_n 2, 1) := by decide +kernel
theorem dX11_send_9 : decode cX11_send 9 = .ok (.iconst 1, 1) := by decide +kernel
theorem dX11_send_10 : decode cX11_send 10 = .ok (.ldc 199, 2) := by decide +kernel
theorem dX11_send_12 : decode cX11_send 12 = .ok (.invokestatic 187, 3) := by decide +kernel
theorem dX11_send_15 : decode cX11_send 15 = .ok (.ifCond .eq 16, 3) := by decide +kernel
theorem dX11_send_18 : decode cX11_send 18 = .ok (.aload_n 0, 1) := by decide +kernel
theorem dX11_send_19 : decode cX11_send 19 = .ok (.getfield 97, 3) := by decide +kernel
theorem dX11_send_22 : decode cX11_send 22 = .ok (.iload_n 1, 1) := by decide +kernel
theorem dX11_send_23 : decode cX11_send 23 = .ok (.iaload, 1) := by decide +kernel
theorem dX11_send_24 : decode cX11_send 24 = .ok (.iload_n 2, 1) := by decide +kernel
theorem dX11_send_25 : decode cX11_send 25 = .ok (.iadd, 1) := by decide +kernel
theorem dX11_send_26 : decode cX11_send 26 = .ok (.ldc 200, 2) := by decide +kernel
theorem dX11_send_28 : decode cX11_send 28 = .ok (.if_icmp .le 5, 3) := by decide +kernel
theorem dX11_send_31 : decode cX11_send 31 = .ok (.iconst (-1), 1) := by decide +kernel
theorem dX11_send_32 : decode cX11_send 32 = .ok (.ireturn, 1) := by decide +kernel
theorem dX11_send_33 : decode cX11_send 33 = .ok (.aload_n 0, 1) := by decide +kernel
theorem dX11_send_34 : decode cX11_send 34 = .ok (.getfield 97, 3) := by decide +kernel
theorem dX11_send_37 : decode cX11_send 37 = .ok (.iload_n 1, 1) := by decide +kernel
theorem dX11_send_38 : decode cX11_send 38 = .ok (.dup2, 1) := by decide +kernel
theorem dX11_send_39 : decode cX11_send 39 = .ok (.iaload, 1) := by decide +kernel
theorem dX11_send_40 : decode cX11_send 40 = .ok (.iload_n 2, 1) := by decide +kernel
theorem dX11_send_41 : decode cX11_send 41 = .ok (.iadd, 1) := by decide +kernel
theorem dX11_send_42 : decode cX11_send 42 = .ok (.iastore, 1) := by decide +kernel
theorem dX11_send_43 : decode cX11_send 43 = .ok (.aload_n 0, 1) := by decide +kernel
theorem dX11_send_44 : decode cX11_send 44 = .ok (.getfield 97, 3) := by decide +kernel
theorem dX11_send_47 : decode cX11_send 47 = .ok (.iload_n 1, 1) := by decide +kernel
theorem dX11_send_48 : decode cX11_send 48 = .ok (.iaload, 1) := by decide +kernel
theorem dX11_send_49 : decode cX11_send 49 = .ok (.ireturn, 1) := by decide +kernel
theorem dX11_window_0 : decode cX11_window 0 = .ok (.aload_n 0, 1) := by decide +kernel
theorem dX11_window_1 : decode cX11_window 1 = .ok (.iload_n 1, 1) := by decide +kernel
theorem dX11_window_2 : decode cX11_window 2 = .ok (.invokevirtual 195, 3) := by decide +kernel
theorem dX11_window_5 : decode cX11_window 5 = .ok (.ifCond .eq 14, 3) := by decide +kernel
theorem dX11_window_8 : decode cX11_window 8 = .ok (.iload_n 2, 1) := by decide +kernel
theorem dX11_window_9 : decode cX11_window 9 = .ok (.iconst 0, 1) := by decide +kernel
theorem dX11_window_10 : decode cX11_window 10 = .ok (.sipush 200, 3) := by decide +kernel
theorem dX11_window_13 : decode cX11_window 13 = .ok (.invokestatic 187, 3) := by decide +kernel
theorem dX11_window_16 : decode cX11_window 16 = .ok (.ifCond .ne 5, 3) := by decide +kernel
theorem dX11_window_19 : decode cX11_window 19 = .ok (.iconst (-1), 1) := by decide +kernel
theorem dX11_window_20 : decode cX11_window 20 = .ok (.ireturn, 1) := by decide +kernel
theorem dX11_window_21 : decode cX11_window 21 = .ok (.aload_n 0, 1) := by decide +kernel
theorem dX11_window_22 : decode cX11_window 22 = .ok (.getfield 73, 3) := by decide +kernel
theorem dX11_window_25 : decode cX11_window 25 = .ok (.iload_n 1, 1) := by decide +kernel
theorem dX11_window_26 : decode cX11_window 26 = .ok (.iaload, 1) := by decide +kernel
theorem dX11_window_27 : decode cX11_window 27 = .ok (.istore_n 3, 1) := by decide +kernel
theorem dX11_window_28 : decode cX11_window 28 = .ok (.aload_n 0, 1) := by decide +kernel
theorem dX11_window_29 : decode cX11_window 29 = .ok (.getfield 73, 3) := by decide +kernel
theorem dX11_window_32 : decode cX11_window 32 = .ok (.iload_n 1, 1) := by decide +kernel
theorem dX11_window_33 : decode cX11_window 33 = .ok (.iload_n 2, 1) := by decide +kernel
theorem dX11_window_34 : decode cX11_window 34 = .ok (.iastore, 1) := by decide +kernel
theorem dX11_window_35 : decode cX11_window 35 = .ok (.aload_n 0, 1) := by decide +kernel
theorem dX11_window_36 : decode cX11_window 36 = .ok (.getfield 91, 3) := by decide +kernel
theorem dX11_window_39 : decode cX11_window 39 = .ok (.iload_n 1, 1) := by decide +kernel
theorem dX11_window_40 : decode cX11_window 40 = .ok (.aload_n 0, 1) := by decide +kernel
theorem dX11_window_41 : decode cX11_window 41 = .ok (.getfield 91, 3) := by decide +kernel
theorem dX11_window_44 : decode cX11_window 44 = .ok (.iload_n 1, 1) := by decide +kernel
theorem dX11_window_45 : decode cX11_window 45 = .ok (.baload, 1) := by decide +kernel
theorem dX11_window_46 : decode cX11_window 46 = .ok (.ifCond .ne 8, 3) := by decide +kernel
theorem dX11_window_49 : decode cX11_window 49 = .ok (.iload_n 3, 1) := by decide +kernel
theorem dX11_window_50 : decode cX11_window 50 = .ok (.iload_n 2, 1) := by decide +kernel
theorem dX11_window_51 : decode cX11_window 51 = .ok (.if_icmp .eq 7, 3) := by decide +kernel
theorem dX11_window_54 : decode cX11_window 54 = .ok (.iconst 1, 1) := by decide +kernel
theorem dX11_window_55 : decode cX11_window 55 = .ok (.goto 4, 3) := by decide +kernel
theorem dX11_window_58 : decode cX11_window 58 = .ok (.iconst 0, 1) := by decide +kernel
theorem dX11_window_59 : decode cX11_window 59 = .ok (.bastore, 1) := by decide +kernel
theorem dX11_window_60 : decode cX11_window 60 = .ok (.iload_n 3, 1) := by decide +kernel
theorem dX11_window_61 : decode cX11_window 61 = .ok (.ireturn, 1) := by decide +kernel
theorem dX11_lose_0 : decode cX11_lose 0 = .ok (.iload_n 1, 1) := by decide +kernel
theorem dX11_lose_1 : decode cX11_lose 1 = .ok (.aload_n 0, 1) := by decide +kernel
theorem dX11_lose_2 : decode cX11_lose 2 = .ok (.getfield 201, 3) := by decide +kernel
theorem dX11_lose_5 : decode cX11_lose 5 = .ok (.if_icmp .ge 5, 3) := by decide +kernel
theorem dX11_lose_8 : decode cX11_lose 8 = .ok (.iconst 0, 1) := by decide +kernel
theorem dX11_lose_9 : decode cX11_lose 9 = .ok (.ireturn, 1) := by decide +kernel
theorem dX11_lose_10 : decode cX11_lose 10 = .ok (.iconst 0, 1) := by decide +kernel
theorem dX11_lose_11 : decode cX11_lose 11 = .ok (.istore_n 2, 1) := by decide +kernel
theorem dX11_lose_12 : decode cX11_lose 12 = .ok (.iload_n 2, 1) := by decide +kernel
theorem dX11_lose_13 : decode cX11_lose 13 = .ok (.aload_n 0, 1) := by decide +kernel
theorem dX11_lose_14 : decode cX11_lose 14 = .ok (.getfield 204, 3) := by decide +kernel
theorem dX11_lose_17 : decode cX11_lose 17 = .ok (.if_icmp .ge 21, 3) := by decide +kernel
theorem dX11_lose_20 : decode cX11_lose 20 = .ok (.aload_n 0, 1) := by decide +kernel
theorem dX11_lose_21 : decode cX11_lose 21 = .ok (.getfield 64, 3) := by decide +kernel
theorem dX11_lose_24 : decode cX11_lose 24 = .ok (.iload_n 2, 1) := by decide +kernel
theorem dX11_lose_25 : decode cX11_lose 25 = .ok (.iaload, 1) := by decide +kernel
theorem dX11_lose_26 : decode cX11_lose 26 = .ok (.iload_n 1, 1) := by decide +kernel
theorem dX11_lose_27 : decode cX11_lose 27 = .ok (.if_icmp .ne 5, 3) := by decide +kernel
theorem dX11_lose_30 : decode cX11_lose 30 = .ok (.iconst 1, 1) := by decide +kernel
theorem dX11_lose_31 : decode cX11_lose 31 = .ok (.ireturn, 1) := by decide +kernel
theorem dX11_lose_32 : decode cX11_lose 32 = .ok (.iinc 2 1, 3) := by decide +kernel
theorem dX11_lose_35 : decode cX11_lose 35 = .ok (.goto (-23), 3) := by decide +kernel
theorem dX11_lose_38 : decode cX11_lose 38 = .ok (.aload_n 0, 1) := by decide +kernel
theorem dX11_lose_39 : decode cX11_lose 39 = .ok (.getfield 204, 3) := by decide +kernel
theorem dX11_lose_42 : decode cX11_lose 42 = .ok (.bipush 64, 2) := by decide +kernel
theorem dX11_lose_44 : decode cX11_lose 44 = .ok (.if_icmp .ne 5, 3) := by decide +kernel
theorem dX11_lose_47 : decode cX11_lose 47 = .ok (.iconst 0, 1) := by decide +kernel
theorem dX11_lose_48 : decode cX11_lose 48 = .ok (.ireturn, 1) := by decide +kernel
theorem dX11_lose_49 : decode cX11_lose 49 = .ok (.aload_n 0, 1) := by decide +kernel
theorem dX11_lose_50 : decode cX11_lose 50 = .ok (.getfield 64, 3) := by decide +kernel
theorem dX11_lose_53 : decode cX11_lose 53 = .ok (.aload_n 0, 1) := by decide +kernel
theorem dX11_lose_54 : decode cX11_lose 54 = .ok (.getfield 204, 3) := by decide +kernel
theorem dX11_lose_57 : decode cX11_lose 57 = .ok (.iload_n 1, 1) := by decide +kernel
theorem dX11_lose_58 : decode cX11_lose 58 = .ok (.iastore, 1) := by decide +kernel
theorem dX11_lose_59 : decode cX11_lose 59 = .ok (.aload_n 0, 1) := by decide +kernel
theorem dX11_lose_60 : decode cX11_lose 60 = .ok (.dup, 1) := by decide +kernel
theorem dX11_lose_61 : decode cX11_lose 61 = .ok (.getfield 204, 3) := by decide +kernel
theorem dX11_lose_64 : decode cX11_lose 64 = .ok (.iconst 1, 1) := by decide +kernel
theorem dX11_lose_65 : decode cX11_lose 65 = .ok (.iadd, 1) := by decide +kernel
theorem dX11_lose_66 : decode cX11_lose 66 = .ok (.putfield 204, 3) := by decide +kernel
theorem dX11_lose_69 : decode cX11_lose 69 = .ok (.iconst 1, 1) := by decide +kernel
theorem dX11_lose_70 : decode cX11_lose 70 = .ok (.ireturn, 1) := by decide +kernel
theorem dX11_run_0 : decode cX11_run 0 = .ok (.iload_n 1, 1) := by decide +kernel
theorem dX11_run_1 : decode cX11_run 1 = .ok (.iconst 1, 1) := by decide +kernel
theorem dX11_run_2 : decode cX11_run 2 = .ok (.sipush 20000, 3) := by decide +kernel
theorem dX11_run_5 : decode cX11_run 5 = .ok (.invokestatic 187, 3) := by decide +kernel
theorem dX11_run_8 : decode cX11_run 8 = .ok (.ifCond .eq 14, 3) := by decide +kernel
theorem dX11_run_11 : decode cX11_run 11 = .ok (.aload_n 0, 1) := by decide +kernel
theorem dX11_run_12 : decode cX11_run 12 = .ok (.getfield 207, 3) := by decide +kernel
theorem dX11_run_15 : decode cX11_run 15 = .ok (.iload_n 1, 1) := by decide +kernel
theorem dX11_run_16 : decode cX11_run 16 = .ok (.iadd, 1) := by decide +kernel
theorem dX11_run_17 : decode cX11_run 17 = .ok (.ldc 210, 2) := by decide +kernel
theorem dX11_run_19 : decode cX11_run 19 = .ok (.if_icmp .le 5, 3) := by decide +kernel
theorem dX11_run_22 : decode cX11_run 22 = .ok (.iconst (-1), 1) := by decide +kernel
theorem dX11_run_23 : decode cX11_run 23 = .ok (.ireturn, 1) := by decide +kernel
theorem dX11_run_24 : decode cX11_run 24 = .ok (.aload_n 0, 1) := by decide +kernel
theorem dX11_run_25 : decode cX11_run 25 = .ok (.getfield 201, 3) := by decide +kernel
theorem dX11_run_28 : decode cX11_run 28 = .ok (.istore_n 2, 1) := by decide +kernel
theorem dX11_run_29 : decode cX11_run 29 = .ok (.iconst 0, 1) := by decide +kernel
theorem dX11_run_30 : decode cX11_run 30 = .ok (.istore_n 3, 1) := by decide +kernel
theorem dX11_run_31 : decode cX11_run 31 = .ok (.iload_n 3, 1) := by decide +kernel
theorem dX11_run_32 : decode cX11_run 32 = .ok (.iload_n 1, 1) := by decide +kernel
theorem dX11_run_33 : decode cX11_run 33 = .ok (.if_icmp .ge 97, 3) := by decide +kernel
theorem dX11_run_36 : decode cX11_run 36 = .ok (.aload_n 0, 1) := by decide +kernel
theorem dX11_run_37 : decode cX11_run 37 = .ok (.invokevirtual 211, 3) := by decide +kernel
theorem dX11_run_40 : decode cX11_run 40 = .ok (.aload_n 0, 1) := by decide +kernel
theorem dX11_run_41 : decode cX11_run 41 = .ok (.invokevirtual 214, 3) := by decide +kernel
theorem dX11_run_44 : decode cX11_run 44 = .ok (.aload_n 0, 1) := by decide +kernel
theorem dX11_run_45 : decode cX11_run 45 = .ok (.invokevirtual 217, 3) := by decide +kernel
theorem dX11_run_48 : decode cX11_run 48 = .ok (.aload_n 0, 1) := by decide +kernel
theorem dX11_run_49 : decode cX11_run 49 = .ok (.invokevirtual 220, 3) := by decide +kernel
theorem dX11_run_52 : decode cX11_run 52 = .ok (.iconst 0, 1) := by decide +kernel
theorem dX11_run_53 : decode cX11_run 53 = .ok (.istore 4, 2) := by decide +kernel
theorem dX11_run_55 : decode cX11_run 55 = .ok (.iload 4, 2) := by decide +kernel
theorem dX11_run_57 : decode cX11_run 57 = .ok (.aload_n 0, 1) := by decide +kernel
theorem dX11_run_58 : decode cX11_run 58 = .ok (.getfield 191, 3) := by decide +kernel
theorem dX11_run_61 : decode cX11_run 61 = .ok (.if_icmp .ge 29, 3) := by decide +kernel
theorem dX11_run_64 : decode cX11_run 64 = .ok (.aload_n 0, 1) := by decide +kernel
theorem dX11_run_65 : decode cX11_run 65 = .ok (.getfield 151, 3) := by decide +kernel
theorem dX11_run_68 : decode cX11_run 68 = .ok (.iload 4, 2) := by decide +kernel
theorem dX11_run_70 : decode cX11_run 70 = .ok (.iaload, 1) := by decide +kernel
theorem dX11_run_71 : decode cX11_run 71 = .ok (.aload_n 0, 1) := by decide +kernel
theorem dX11_run_72 : decode cX11_run 72 = .ok (.getfield 207, 3) := by decide +kernel
theorem dX11_run_75 : decode cX11_run 75 = .ok (.if_icmp .ne 9, 3) := by decide +kernel
theorem dX11_run_78 : decode cX11_run 78 = .ok (.aload_n 0, 1) := by decide +kernel
theorem dX11_run_79 : decode cX11_run 79 = .ok (.iload 4, 2) := by decide +kernel
theorem dX11_run_81 : decode cX11_run 81 = .ok (.invokevirtual 223, 3) := by decide +kernel
theorem dX11_run_84 : decode cX11_run 84 = .ok (.iinc 4 1, 3) := by decide +kernel
theorem dX11_run_87 : decode cX11_run 87 = .ok (.goto (-32), 3) := by decide +kernel
theorem dX11_run_90 : decode cX11_run 90 = .ok (.iconst 0, 1) := by decide +kernel
theorem dX11_run_91 : decode cX11_run 91 = .ok (.istore 4, 2) := by decide +kernel
theorem dX11_run_93 : decode cX11_run 93 = .ok (.iload 4, 2) := by decide +kernel
theorem dX11_run_95 : decode cX11_run 95 = .ok (.aload_n 0, 1) := by decide +kernel
theorem dX11_run_96 : decode cX11_run 96 = .ok (.getfield 191, 3) := by decide +kernel
theorem dX11_run_99 : decode cX11_run 99 = .ok (.if_icmp .ge 15, 3) := by decide +kernel
theorem dX11_run_102 : decode cX11_run 102 = .ok (.aload_n 0, 1) := by decide +kernel
theorem dX11_run_103 : decode cX11_run 103 = .ok (.iload 4, 2) := by decide +kernel
theorem dX11_run_105 : decode cX11_run 105 = .ok (.invokevirtual 227, 3) := by decide +kernel
theorem dX11_run_108 : decode cX11_run 108 = .ok (.iinc 4 1, 3) := by decide +kernel
theorem dX11_run_111 : decode cX11_run 111 = .ok (.goto (-18), 3) := by decide +kernel
theorem dX11_run_114 : decode cX11_run 114 = .ok (.aload_n 0, 1) := by decide +kernel
theorem dX11_run_115 : decode cX11_run 115 = .ok (.dup, 1) := by decide +kernel
theorem dX11_run_116 : decode cX11_run 116 = .ok (.getfield 207, 3) := by decide +kernel
theorem dX11_run_119 : decode cX11_run 119 = .ok (.iconst 1, 1) := by decide +kernel
theorem dX11_run_120 : decode cX11_run 120 = .ok (.iadd, 1) := by decide +kernel
theorem dX11_run_121 : decode cX11_run 121 = .ok (.putfield 207, 3) := by decide +kernel
theorem dX11_run_124 : decode cX11_run 124 = .ok (.iinc 3 1, 3) := by decide +kernel
theorem dX11_run_127 : decode cX11_run 127 = .ok (.goto (-96), 3) := by decide +kernel
theorem dX11_run_130 : decode cX11_run 130 = .ok (.aload_n 0, 1) := by decide +kernel
theorem dX11_run_131 : decode cX11_run 131 = .ok (.getfield 201, 3) := by decide +kernel
theorem dX11_run_134 : decode cX11_run 134 = .ok (.iload_n 2, 1) := by decide +kernel
theorem dX11_run_135 : decode cX11_run 135 = .ok (.isub, 1) := by decide +kernel
theorem dX11_run_136 : decode cX11_run 136 = .ok (.ireturn, 1) := by decide +kernel
theorem dX11_goes_0 : decode cX11_goes 0 = .ok (.aload_n 0, 1) := by decide +kernel
theorem dX11_goes_1 : decode cX11_goes 1 = .ok (.getfield 230, 3) := by decide +kernel
theorem dX11_goes_4 : decode cX11_goes 4 = .ok (.ifCond .eq 14, 3) := by decide +kernel
theorem dX11_goes_7 : decode cX11_goes 7 = .ok (.aload_n 0, 1) := by decide +kernel
theorem dX11_goes_8 : decode cX11_goes 8 = .ok (.getfield 233, 3) := by decide +kernel
theorem dX11_goes_11 : decode cX11_goes 11 = .ok (.aload_n 0, 1) := by decide +kernel
theorem dX11_goes_12 : decode cX11_goes 12 = .ok (.getfield 207, 3) := by decide +kernel
theorem dX11_goes_15 : decode cX11_goes 15 = .ok (.if_icmp .eq 4, 3) := by decide +kernel
theorem dX11_goes_18 : decode cX11_goes 18 = .ok (.return_, 1) := by decide +kernel
theorem dX11_goes_19 : decode cX11_goes 19 = .ok (.aload_n 0, 1) := by decide +kernel
theorem dX11_goes_20 : decode cX11_goes 20 = .ok (.getfield 236, 3) := by decide +kernel
theorem dX11_goes_23 : decode cX11_goes 23 = .ok (.sipush 4096, 3) := by decide +kernel
theorem dX11_goes_26 : decode cX11_goes 26 = .ok (.if_icmp .ne 7, 3) := by decide +kernel
theorem dX11_goes_29 : decode cX11_goes 29 = .ok (.aload_n 0, 1) := by decide +kernel
theorem dX11_goes_30 : decode cX11_goes 30 = .ok (.invokevirtual 239, 3) := by decide +kernel
theorem dX11_goes_33 : decode cX11_goes 33 = .ok (.aload_n 0, 1) := by decide +kernel
theorem dX11_goes_34 : decode cX11_goes 34 = .ok (.aload_n 0, 1) := by decide +kernel
theorem dX11_goes_35 : decode cX11_goes 35 = .ok (.getfield 242, 3) := by decide +kernel
theorem dX11_goes_38 : decode cX11_goes 38 = .ok (.aload_n 0, 1) := by decide +kernel
theorem dX11_goes_39 : decode cX11_goes 39 = .ok (.getfield 236, 3) := by decide +kernel
theorem dX11_goes_42 : decode cX11_goes 42 = .ok (.if_icmp .ge 37, 3) := by decide +kernel
theorem dX11_goes_45 : decode cX11_goes 45 = .ok (.aload_n 0, 1) := by decide +kernel
theorem dX11_goes_46 : decode cX11_goes 46 = .ok (.getfield 245, 3) := by decide +kernel
theorem dX11_goes_49 : decode cX11_goes 49 = .ok (.ifCond .ne 26, 3) := by decide +kernel
theorem dX11_goes_52 : decode cX11_goes 52 = .ok (.aload_n 0, 1) := by decide +kernel
theorem dX11_goes_53 : decode cX11_goes 53 = .ok (.getfield 33, 3) := by decide +kernel
theorem dX11_goes_56 : decode cX11_goes 56 = .ok (.aload_n 0, 1) := by decide +kernel
theorem dX11_goes_57 : decode cX11_goes 57 = .ok (.getfield 236, 3) := by decide +kernel
theorem dX11_goes_60 : decode cX11_goes 60 = .ok (.iconst 1, 1) := by decide +kernel
theorem dX11_goes_61 : decode cX11_goes 61 = .ok (.isub, 1) := by decide +kernel
theorem dX11_goes_62 : decode cX11_goes 62 = .ok (.iaload, 1) := by decide +kernel
theorem dX11_goes_63 : decode cX11_goes 63 = .ok (.aload_n 0, 1) := by decide +kernel
theorem dX11_goes_64 : decode cX11_goes 64 = .ok (.getfield 207, 3) := by decide +kernel
theorem dX11_goes_67 : decode cX11_goes 67 = .ok (.aload_n 0, 1) := by decide +kernel
theorem dX11_goes_68 : decode cX11_goes 68 = .ok (.getfield 16, 3) := by decide +kernel
theorem dX11_goes_71 : decode cX11_goes 71 = .ok (.iadd, 1) := by decide +kernel
theorem dX11_goes_72 : decode cX11_goes 72 = .ok (.if_icmp .le 7, 3) := by decide +kernel
theorem dX11_goes_75 : decode cX11_goes 75 = .ok (.iconst 1, 1) := by decide +kernel
theorem dX11_goes_76 : decode cX11_goes 76 = .ok (.goto 4, 3) := by decide +kernel
theorem dX11_goes_79 : decode cX11_goes 79 = .ok (.iconst 0, 1) := by decide +kernel
theorem dX11_goes_80 : decode cX11_goes 80 = .ok (.putfield 245, 3) := by decide +kernel
theorem dX11_goes_83 : decode cX11_goes 83 = .ok (.aload_n 0, 1) := by decide +kernel
theorem dX11_goes_84 : decode cX11_goes 84 = .ok (.getfield 33, 3) := by decide +kernel
theorem dX11_goes_87 : decode cX11_goes 87 = .ok (.aload_n 0, 1) := by decide +kernel
theorem dX11_goes_88 : decode cX11_goes 88 = .ok (.getfield 236, 3) := by decide +kernel
theorem dX11_goes_91 : decode cX11_goes 91 = .ok (.aload_n 0, 1) := by decide +kernel
theorem dX11_goes_92 : decode cX11_goes 92 = .ok (.getfield 207, 3) := by decide +kernel
theorem dX11_goes_95 : decode cX11_goes 95 = .ok (.aload_n 0, 1) := by decide +kernel
theorem dX11_goes_96 : decode cX11_goes 96 = .ok (.getfield 16, 3) := by decide +kernel
theorem dX11_goes_99 : decode cX11_goes 99 = .ok (.iadd, 1) := by decide +kernel
theorem dX11_goes_100 : decode cX11_goes 100 = .ok (.iastore, 1) := by decide +kernel
theorem dX11_goes_101 : decode cX11_goes 101 = .ok (.aload_n 0, 1) := by decide +kernel
theorem dX11_goes_102 : decode cX11_goes 102 = .ok (.getfield 36, 3) := by decide +kernel
theorem dX11_goes_105 : decode cX11_goes 105 = .ok (.aload_n 0, 1) := by decide +kernel
theorem dX11_goes_106 : decode cX11_goes 106 = .ok (.getfield 236, 3) := by decide +kernel
theorem dX11_goes_109 : decode cX11_goes 109 = .ok (.aload_n 0, 1) := by decide +kernel
theorem dX11_goes_110 : decode cX11_goes 110 = .ok (.getfield 22, 3) := by decide +kernel
theorem dX11_goes_113 : decode cX11_goes 113 = .ok (.iconst 0, 1) := by decide +kernel
theorem dX11_goes_114 : decode cX11_goes 114 = .ok (.iaload, 1) := by decide +kernel
theorem dX11_goes_115 : decode cX11_goes 115 = .ok (.iastore, 1) := by decide +kernel
theorem dX11_goes_116 : decode cX11_goes 116 = .ok (.aload_n 0, 1) := by decide +kernel
theorem dX11_goes_117 : decode cX11_goes 117 = .ok (.getfield 39, 3) := by decide +kernel
theorem dX11_goes_120 : decode cX11_goes 120 = .ok (.aload_n 0, 1) := by decide +kernel
theorem dX11_goes_121 : decode cX11_goes 121 = .ok (.getfield 236, 3) := by decide +kernel
theorem dX11_goes_124 : decode cX11_goes 124 = .ok (.aload_n 0, 1) := by decide +kernel
theorem dX11_goes_125 : decode cX11_goes 125 = .ok (.getfield 26, 3) := by decide +kernel
theorem dX11_goes_128 : decode cX11_goes 128 = .ok (.iconst 0, 1) := by decide +kernel
theorem dX11_goes_129 : decode cX11_goes 129 = .ok (.iaload, 1) := by decide +kernel
theorem dX11_goes_130 : decode cX11_goes 130 = .ok (.iastore, 1) := by decide +kernel
theorem dX11_goes_131 : decode cX11_goes 131 = .ok (.aload_n 0, 1) := by decide +kernel
theorem dX11_goes_132 : decode cX11_goes 132 = .ok (.getfield 42, 3) := by decide +kernel
theorem dX11_goes_135 : decode cX11_goes 135 = .ok (.aload_n 0, 1) := by decide +kernel
theorem dX11_goes_136 : decode cX11_goes 136 = .ok (.getfield 236, 3) := by decide +kernel
theorem dX11_goes_139 : decode cX11_goes 139 = .ok (.aload_n 0, 1) := by decide +kernel
theorem dX11_goes_140 : decode cX11_goes 140 = .ok (.getfield 29, 3) := by decide +kernel
theorem dX11_goes_143 : decode cX11_goes 143 = .ok (.iconst 0, 1) := by decide +kernel
theorem dX11_goes_144 : decode cX11_goes 144 = .ok (.baload, 1) := by decide +kernel
theorem dX11_goes_145 : decode cX11_goes 145 = .ok (.bastore, 1) := by decide +kernel
theorem dX11_goes_146 : decode cX11_goes 146 = .ok (.aload_n 0, 1) := by decide +kernel
theorem dX11_goes_147 : decode cX11_goes 147 = .ok (.dup, 1) := by decide +kernel
theorem dX11_goes_148 : decode cX11_goes 148 = .ok (.getfield 236, 3) := by decide +kernel
theorem dX11_goes_151 : decode cX11_goes 151 = .ok (.iconst 1, 1) := by decide +kernel
theorem dX11_goes_152 : decode cX11_goes 152 = .ok (.iadd, 1) := by decide +kernel
theorem dX11_goes_153 : decode cX11_goes 153 = .ok (.putfield 236, 3) := by decide +kernel
theorem dX11_goes_156 : decode cX11_goes 156 = .ok (.aload_n 0, 1) := by decide +kernel
theorem dX11_goes_157 : decode cX11_goes 157 = .ok (.dup, 1) := by decide +kernel
theorem dX11_goes_158 : decode cX11_goes 158 = .ok (.getfield 230, 3) := by decide +kernel
theorem dX11_goes_161 : decode cX11_goes 161 = .ok (.iconst 1, 1) := by decide +kernel
theorem dX11_goes_162 : decode cX11_goes 162 = .ok (.isub, 1) := by decide +kernel
theorem dX11_goes_163 : decode cX11_goes 163 = .ok (.putfield 230, 3) := by decide +kernel
theorem dX11_goes_166 : decode cX11_goes 166 = .ok (.iconst 0, 1) := by decide +kernel
theorem dX11_goes_167 : decode cX11_goes 167 = .ok (.istore_n 1, 1) := by decide +kernel
theorem dX11_goes_168 : decode cX11_goes 168 = .ok (.iload_n 1, 1) := by decide +kernel
theorem dX11_goes_169 : decode cX11_goes 169 = .ok (.aload_n 0, 1) := by decide +kernel
theorem dX11_goes_170 : decode cX11_goes 170 = .ok (.getfield 230, 3) := by decide +kernel
theorem dX11_goes_173 : decode cX11_goes 173 = .ok (.if_icmp .ge 51, 3) := by decide +kernel
theorem dX11_goes_176 : decode cX11_goes 176 = .ok (.aload_n 0, 1) := by decide +kernel
theorem dX11_goes_177 : decode cX11_goes 177 = .ok (.getfield 22, 3) := by decide +kernel
theorem dX11_goes_180 : decode cX11_goes 180 = .ok (.iload_n 1, 1) := by decide +kernel
theorem dX11_goes_181 : decode cX11_goes 181 = .ok (.aload_n 0, 1) := by decide +kernel
theorem dX11_goes_182 : decode cX11_goes 182 = .ok (.getfield 22, 3) := by decide +kernel
theorem dX11_goes_185 : decode cX11_goes 185 = .ok (.iload_n 1, 1) := by decide +kernel
theorem dX11_goes_186 : decode cX11_goes 186 = .ok (.iconst 1, 1) := by decide +kernel
theorem dX11_goes_187 : decode cX11_goes 187 = .ok (.iadd, 1) := by decide +kernel
theorem dX11_goes_188 : decode cX11_goes 188 = .ok (.iaload, 1) := by decide +kernel
theorem dX11_goes_189 : decode cX11_goes 189 = .ok (.iastore, 1) := by decide +kernel
theorem dX11_goes_190 : decode cX11_goes 190 = .ok (.aload_n 0, 1) := by decide +kernel
theorem dX11_goes_191 : decode cX11_goes 191 = .ok (.getfield 26, 3) := by decide +kernel
theorem dX11_goes_194 : decode cX11_goes 194 = .ok (.iload_n 1, 1) := by decide +kernel
theorem dX11_goes_195 : decode cX11_goes 195 = .ok (.aload_n 0, 1) := by decide +kernel
theorem dX11_goes_196 : decode cX11_goes 196 = .ok (.getfield 26, 3) := by decide +kernel
theorem dX11_goes_199 : decode cX11_goes 199 = .ok (.iload_n 1, 1) := by decide +kernel
theorem dX11_goes_200 : decode cX11_goes 200 = .ok (.iconst 1, 1) := by decide +kernel
theorem dX11_goes_201 : decode cX11_goes 201 = .ok (.iadd, 1) := by decide +kernel
theorem dX11_goes_202 : decode cX11_goes 202 = .ok (.iaload, 1) := by decide +kernel
theorem dX11_goes_203 : decode cX11_goes 203 = .ok (.iastore, 1) := by decide +kernel
theorem dX11_goes_204 : decode cX11_goes 204 = .ok (.aload_n 0, 1) := by decide +kernel
theorem dX11_goes_205 : decode cX11_goes 205 = .ok (.getfield 29, 3) := by decide +kernel
theorem dX11_goes_208 : decode cX11_goes 208 = .ok (.iload_n 1, 1) := by decide +kernel
theorem dX11_goes_209 : decode cX11_goes 209 = .ok (.aload_n 0, 1) := by decide +kernel
theorem dX11_goes_210 : decode cX11_goes 210 = .ok (.getfield 29, 3) := by decide +kernel
theorem dX11_goes_213 : decode cX11_goes 213 = .ok (.iload_n 1, 1) := by decide +kernel
theorem dX11_goes_214 : decode cX11_goes 214 = .ok (.iconst 1, 1) := by decide +kernel
theorem dX11_goes_215 : decode cX11_goes 215 = .ok (.iadd, 1) := by decide +kernel
theorem dX11_goes_216 : decode cX11_goes 216 = .ok (.baload, 1) := by decide +kernel
theorem dX11_goes_217 : decode cX11_goes 217 = .ok (.bastore, 1) := by decide +kernel
theorem dX11_goes_218 : decode cX11_goes 218 = .ok (.iinc 1 1, 3) := by decide +kernel
theorem dX11_goes_221 : decode cX11_goes 221 = .ok (.goto (-53), 3) := by decide +kernel
theorem dX11_goes_224 : decode cX11_goes 224 = .ok (.aload_n 0, 1) := by decide +kernel
theorem dX11_goes_225 : decode cX11_goes 225 = .ok (.aload_n 0, 1) := by decide +kernel
theorem dX11_goes_226 : decode cX11_goes 226 = .ok (.getfield 207, 3) := by decide +kernel
theorem dX11_goes_229 : decode cX11_goes 229 = .ok (.aload_n 0, 1) := by decide +kernel
theorem dX11_goes_230 : decode cX11_goes 230 = .ok (.getfield 7, 3) := by decide +kernel
theorem dX11_goes_233 : decode cX11_goes 233 = .ok (.iadd, 1) := by decide +kernel
theorem dX11_goes_234 : decode cX11_goes 234 = .ok (.putfield 233, 3) := by decide +kernel
theorem dX11_goes_237 : decode cX11_goes 237 = .ok (.return_, 1) := by decide +kernel
theorem dX11_way_0 : decode cX11_way 0 = .ok (.aload_n 0, 1) := by decide +kernel
theorem dX11_way_1 : decode cX11_way 1 = .ok (.getfield 33, 3) := by decide +kernel
theorem dX11_way_4 : decode cX11_way 4 = .ok (.iload_n 1, 1) := by decide +kernel
theorem dX11_way_5 : decode cX11_way 5 = .ok (.aload_n 0, 1) := by decide +kernel
theorem dX11_way_6 : decode cX11_way 6 = .ok (.getfield 33, 3) := by decide +kernel
theorem dX11_way_9 : decode cX11_way 9 = .ok (.iload_n 2, 1) := by decide +kernel
theorem dX11_way_10 : decode cX11_way 10 = .ok (.iaload, 1) := by decide +kernel
theorem dX11_way_11 : decode cX11_way 11 = .ok (.iastore, 1) := by decide +kernel
theorem dX11_way_12 : decode cX11_way 12 = .ok (.aload_n 0, 1) := by decide +kernel
theorem dX11_way_13 : decode cX11_way 13 = .ok (.getfield 36, 3) := by decide +kernel
theorem dX11_way_16 : decode cX11_way 16 = .ok (.iload_n 1, 1) := by decide +kernel
theorem dX11_way_17 : decode cX11_way 17 = .ok (.aload_n 0, 1) := by decide +kernel
theorem dX11_way_18 : decode cX11_way 18 = .ok (.getfield 36, 3) := by decide +kernel
theorem dX11_way_21 : decode cX11_way 21 = .ok (.iload_n 2, 1) := by decide +kernel
theorem dX11_way_22 : decode cX11_way 22 = .ok (.iaload, 1) := by decide +kernel
theorem dX11_way_23 : decode cX11_way 23 = .ok (.iastore, 1) := by decide +kernel
theorem dX11_way_24 : decode cX11_way 24 = .ok (.aload_n 0, 1) := by decide +kernel
theorem dX11_way_25 : decode cX11_way 25 = .ok (.getfield 39, 3) := by decide +kernel
theorem dX11_way_28 : decode cX11_way 28 = .ok (.iload_n 1, 1) := by decide +kernel
theorem dX11_way_29 : decode cX11_way 29 = .ok (.aload_n 0, 1) := by decide +kernel
theorem dX11_way_30 : decode cX11_way 30 = .ok (.getfield 39, 3) := by decide +kernel
theorem dX11_way_33 : decode cX11_way 33 = .ok (.iload_n 2, 1) := by decide +kernel
theorem dX11_way_34 : decode cX11_way 34 = .ok (.iaload, 1) := by decide +kernel
theorem dX11_way_35 : decode cX11_way 35 = .ok (.iastore, 1) := by decide +kernel
theorem dX11_way_36 : decode cX11_way 36 = .ok (.aload_n 0, 1) := by decide +kernel
theorem dX11_way_37 : decode cX11_way 37 = .ok (.getfield 42, 3) := by decide +kernel
theorem dX11_way_40 : decode cX11_way 40 = .ok (.iload_n 1, 1) := by decide +kernel
theorem dX11_way_41 : decode cX11_way 41 = .ok (.aload_n 0, 1) := by decide +kernel
theorem dX11_way_42 : decode cX11_way 42 = .ok (.getfield 42, 3) := by decide +kernel
theorem dX11_way_45 : decode cX11_way 45 = .ok (.iload_n 2, 1) := by decide +kernel
theorem dX11_way_46 : decode cX11_way 46 = .ok (.baload, 1) := by decide +kernel
theorem dX11_way_47 : decode cX11_way 47 = .ok (.bastore, 1) := by decide +kernel
theorem dX11_way_48 : decode cX11_way 48 = .ok (.return_, 1) := by decide +kernel
theorem dX11_wayDown_0 : decode cX11_wayDown 0 = .ok (.iconst 0, 1) := by decide +kernel
theorem dX11_wayDown_1 : decode cX11_wayDown 1 = .ok (.istore_n 1, 1) := by decide +kernel
theorem dX11_wayDown_2 : decode cX11_wayDown 2 = .ok (.aload_n 0, 1) := by decide +kernel
theorem dX11_wayDown_3 : decode cX11_wayDown 3 = .ok (.getfield 242, 3) := by decide +kernel
theorem dX11_wayDown_6 : decode cX11_wayDown 6 = .ok (.istore_n 2, 1) := by decide +kernel
theorem dX11_wayDown_7 : decode cX11_wayDown 7 = .ok (.iload_n 2, 1) := by decide +kernel
theorem dX11_wayDown_8 : decode cX11_wayDown 8 = .ok (.aload_n 0, 1) := by decide +kernel
theorem dX11_wayDown_9 : decode cX11_wayDown 9 = .ok (.getfield 236, 3) := by decide +kernel
theorem dX11_wayDown_12 : decode cX11_wayDown 12 = .ok (.if_icmp .ge 18, 3) := by decide +kernel
theorem dX11_wayDown_15 : decode cX11_wayDown 15 = .ok (.aload_n 0, 1) := by decide +kernel
theorem dX11_wayDown_16 : decode cX11_wayDown 16 = .ok (.iload_n 1, 1) := by decide +kernel
theorem dX11_wayDown_17 : decode cX11_wayDown 17 = .ok (.iload_n 2, 1) := by decide +kernel
theorem dX11_wayDown_18 : decode cX11_wayDown 18 = .ok (.invokevirtual 249, 3) := by decide +kernel
theorem dX11_wayDown_21 : decode cX11_wayDown 21 = .ok (.iinc 1 1, 3) := by decide +kernel
theorem dX11_wayDown_24 : decode cX11_wayDown 24 = .ok (.iinc 2 1, 3) := by decide +kernel
theorem dX11_wayDown_27 : decode cX11_wayDown 27 = .ok (.goto (-20), 3) := by decide +kernel
theorem dX11_wayDown_30 : decode cX11_wayDown 30 = .ok (.aload_n 0, 1) := by decide +kernel
theorem dX11_wayDown_31 : decode cX11_wayDown 31 = .ok (.iconst 0, 1) := by decide +kernel
theorem dX11_wayDown_32 : decode cX11_wayDown 32 = .ok (.putfield 242, 3) := by decide +kernel
theorem dX11_wayDown_35 : decode cX11_wayDown 35 = .ok (.aload_n 0, 1) := by decide +kernel
theorem dX11_wayDown_36 : decode cX11_wayDown 36 = .ok (.iload_n 1, 1) := by decide +kernel
theorem dX11_wayDown_37 : decode cX11_wayDown 37 = .ok (.putfield 236, 3) := by decide +kernel
theorem dX11_wayDown_40 : decode cX11_wayDown 40 = .ok (.return_, 1) := by decide +kernel
theorem dX11_comes_0 : decode cX11_comes 0 = .ok (.aload_n 0, 1) := by decide +kernel
theorem dX11_comes_1 : decode cX11_comes 1 = .ok (.getfield 245, 3) := by decide +kernel
theorem dX11_comes_4 : decode cX11_comes 4 = .ok (.ifCond .ne 81, 3) := by decide +kernel
theorem dX11_comes_7 : decode cX11_comes 7 = .ok (.aload_n 0, 1) := by decide +kernel
theorem dX11_comes_8 : decode cX11_comes 8 = .ok (.getfield 242, 3) := by decide +kernel
theorem dX11_comes_11 : decode cX11_comes 11 = .ok (.aload_n 0, 1) := by decide +kernel
theorem dX11_comes_12 : decode cX11_comes 12 = .ok (.getfield 236, 3) := by decide +kernel
theorem dX11_comes_15 : decode cX11_comes 15 = .ok (.if_icmp .ge 69, 3) := by decide +kernel
theorem dX11_comes_18 : decode cX11_comes 18 = .ok (.aload_n 0, 1) := by decide +kernel
theorem dX11_comes_19 : decode cX11_comes 19 = .ok (.getfield 33, 3) := by decide +kernel
theorem dX11_comes_22 : decode cX11_comes 22 = .ok (.aload_n 0, 1) := by decide +kernel
theorem dX11_comes_23 : decode cX11_comes 23 = .ok (.getfield 242, 3) := by decide +kernel
theorem dX11_comes_26 : decode cX11_comes 26 = .ok (.iaload, 1) := by decide +kernel
theorem dX11_comes_27 : decode cX11_comes 27 = .ok (.aload_n 0, 1) := by decide +kernel
theorem dX11_comes_28 : decode cX11_comes 28 = .ok (.getfield 207, 3) := by decide +kernel
theorem dX11_comes_31 : decode cX11_comes 31 = .ok (.if_icmp .ne 53, 3) := by decide +kernel
theorem dX11_comes_34 : decode cX11_comes 34 = .ok (.aload_n 0, 1) := by decide +kernel
theorem dX11_comes_35 : decode cX11_comes 35 = .ok (.dup, 1) := by decide +kernel
theorem dX11_comes_36 : decode cX11_comes 36 = .ok (.getfield 242, 3) := by decide +kernel
theorem dX11_comes_39 : decode cX11_comes 39 = .ok (.iconst 1, 1) := by decide +kernel
theorem dX11_comes_40 : decode cX11_comes 40 = .ok (.iadd, 1) := by decide +kernel
theorem dX11_comes_41 : decode cX11_comes 41 = .ok (.putfield 242, 3) := by decide +kernel
theorem dX11_comes_44 : decode cX11_comes 44 = .ok (.aload_n 0, 1) := by decide +kernel
theorem dX11_comes_45 : decode cX11_comes 45 = .ok (.aload_n 0, 1) := by decide +kernel
theorem dX11_comes_46 : decode cX11_comes 46 = .ok (.getfield 36, 3) := by decide +kernel
theorem dX11_comes_49 : decode cX11_comes 49 = .ok (.aload_n 0, 1) := by decide +kernel
theorem dX11_comes_50 : decode cX11_comes 50 = .ok (.getfield 242, 3) := by decide +kernel
theorem dX11_comes_53 : decode cX11_comes 53 = .ok (.iconst 1, 1) := by decide +kernel
theorem dX11_comes_54 : decode cX11_comes 54 = .ok (.isub, 1) := by decide +kernel
theorem dX11_comes_55 : decode cX11_comes 55 = .ok (.iaload, 1) := by decide +kernel
theorem dX11_comes_56 : decode cX11_comes 56 = .ok (.aload_n 0, 1) := by decide +kernel
theorem dX11_comes_57 : decode cX11_comes 57 = .ok (.getfield 39, 3) := by decide +kernel
theorem dX11_comes_60 : decode cX11_comes 60 = .ok (.aload_n 0, 1) := by decide +kernel
theorem dX11_comes_61 : decode cX11_comes 61 = .ok (.getfield 242, 3) := by decide +kernel
theorem dX11_comes_64 : decode cX11_comes 64 = .ok (.iconst 1, 1) := by decide +kernel
theorem dX11_comes_65 : decode cX11_comes 65 = .ok (.isub, 1) := by decide +kernel
theorem dX11_comes_66 : decode cX11_comes 66 = .ok (.iaload, 1) := by decide +kernel
theorem dX11_comes_67 : decode cX11_comes 67 = .ok (.aload_n 0, 1) := by decide +kernel
theorem dX11_comes_68 : decode cX11_comes 68 = .ok (.getfield 42, 3) := by decide +kernel
theorem dX11_comes_71 : decode cX11_comes 71 = .ok (.aload_n 0, 1) := by decide +kernel
theorem dX11_comes_72 : decode cX11_comes 72 = .ok (.getfield 242, 3) := by decide +kernel
theorem dX11_comes_75 : decode cX11_comes 75 = .ok (.iconst 1, 1) := by decide +kernel
theorem dX11_comes_76 : decode cX11_comes 76 = .ok (.isub, 1) := by decide +kernel
theorem dX11_comes_77 : decode cX11_comes 77 = .ok (.baload, 1) := by decide +kernel
theorem dX11_comes_78 : decode cX11_comes 78 = .ok (.invokevirtual 253, 3) := by decide +kernel
theorem dX11_comes_81 : decode cX11_comes 81 = .ok (.goto (-74), 3) := by decide +kernel
theorem dX11_comes_84 : decode cX11_comes 84 = .ok (.return_, 1) := by decide +kernel
theorem dX11_comes_85 : decode cX11_comes 85 = .ok (.aload_n 0, 1) := by decide +kernel
theorem dX11_comes_86 : decode cX11_comes 86 = .ok (.getfield 242, 3) := by decide +kernel
theorem dX11_comes_89 : decode cX11_comes 89 = .ok (.istore_n 1, 1) := by decide +kernel
theorem dX11_comes_90 : decode cX11_comes 90 = .ok (.aload_n 0, 1) := by decide +kernel
theorem dX11_comes_91 : decode cX11_comes 91 = .ok (.getfield 242, 3) := by decide +kernel
theorem dX11_comes_94 : decode cX11_comes 94 = .ok (.istore_n 2, 1) := by decide +kernel
theorem dX11_comes_95 : decode cX11_comes 95 = .ok (.iload_n 2, 1) := by decide +kernel
theorem dX11_comes_96 : decode cX11_comes 96 = .ok (.aload_n 0, 1) := by decide +kernel
theorem dX11_comes_97 : decode cX11_comes 97 = .ok (.getfield 236, 3) := by decide +kernel
theorem dX11_comes_100 : decode cX11_comes 100 = .ok (.if_icmp .ge 56, 3) := by decide +kernel
theorem dX11_comes_103 : decode cX11_comes 103 = .ok (.aload_n 0, 1) := by decide +kernel
theorem dX11_comes_104 : decode cX11_comes 104 = .ok (.getfield 33, 3) := by decide +kernel
theorem dX11_comes_107 : decode cX11_comes 107 = .ok (.iload_n 2, 1) := by decide +kernel
theorem dX11_comes_108 : decode cX11_comes 108 = .ok (.iaload, 1) := by decide +kernel
theorem dX11_comes_109 : decode cX11_comes 109 = .ok (.aload_n 0, 1) := by decide +kernel
theorem dX11_comes_110 : decode cX11_comes 110 = .ok (.getfield 207, 3) := by decide +kernel
theorem dX11_comes_113 : decode cX11_comes 113 = .ok (.if_icmp .ne 28, 3) := by decide +kernel
theorem dX11_comes_116 : decode cX11_comes 116 = .ok (.aload_n 0, 1) := by decide +kernel
theorem dX11_comes_117 : decode cX11_comes 117 = .ok (.aload_n 0, 1) := by decide +kernel
theorem dX11_comes_118 : decode cX11_comes 118 = .ok (.getfield 36, 3) := by decide +kernel
theorem dX11_comes_121 : decode cX11_comes 121 = .ok (.iload_n 2, 1) := by decide +kernel
theorem dX11_comes_122 : decode cX11_comes 122 = .ok (.iaload, 1) := by decide +kernel
theorem dX11_comes_123 : decode cX11_comes 123 = .ok (.aload_n 0, 1) := by decide +kernel
theorem dX11_comes_124 : decode cX11_comes 124 = .ok (.getfield 39, 3) := by decide +kernel
theorem dX11_comes_127 : decode cX11_comes 127 = .ok (.iload_n 2, 1) := by decide +kernel
theorem dX11_comes_128 : decode cX11_comes 128 = .ok (.iaload, 1) := by decide +kernel
theorem dX11_comes_129 : decode cX11_comes 129 = .ok (.aload_n 0, 1) := by decide +kernel
theorem dX11_comes_130 : decode cX11_comes 130 = .ok (.getfield 42, 3) := by decide +kernel
theorem dX11_comes_133 : decode cX11_comes 133 = .ok (.iload_n 2, 1) := by decide +kernel
theorem dX11_comes_134 : decode cX11_comes 134 = .ok (.baload, 1) := by decide +kernel
theorem dX11_comes_135 : decode cX11_comes 135 = .ok (.invokevirtual 253, 3) := by decide +kernel
theorem dX11_comes_138 : decode cX11_comes 138 = .ok (.goto 12, 3) := by decide +kernel
theorem dX11_comes_141 : decode cX11_comes 141 = .ok (.aload_n 0, 1) := by decide +kernel
theorem dX11_comes_142 : decode cX11_comes 142 = .ok (.iload_n 1, 1) := by decide +kernel
theorem dX11_comes_143 : decode cX11_comes 143 = .ok (.iload_n 2, 1) := by decide +kernel
theorem dX11_comes_144 : decode cX11_comes 144 = .ok (.invokevirtual 249, 3) := by decide +kernel
theorem dX11_comes_147 : decode cX11_comes 147 = .ok (.iinc 1 1, 3) := by decide +kernel
theorem dX11_comes_150 : decode cX11_comes 150 = .ok (.iinc 2 1, 3) := by decide +kernel
theorem dX11_comes_153 : decode cX11_comes 153 = .ok (.goto (-58), 3) := by decide +kernel
theorem dX11_comes_156 : decode cX11_comes 156 = .ok (.aload_n 0, 1) := by decide +kernel
theorem dX11_comes_157 : decode cX11_comes 157 = .ok (.iload_n 1, 1) := by decide +kernel
theorem dX11_comes_158 : decode cX11_comes 158 = .ok (.putfield 236, 3) := by decide +kernel
theorem dX11_comes_161 : decode cX11_comes 161 = .ok (.return_, 1) := by decide +kernel
theorem dX11_keptMany_0 : decode cX11_keptMany 0 = .ok (.iconst 0, 1) := by decide +kernel
theorem dX11_keptMany_1 : decode cX11_keptMany 1 = .ok (.istore_n 2, 1) := by decide +kernel
theorem dX11_keptMany_2 : decode cX11_keptMany 2 = .ok (.iconst 0, 1) := by decide +kernel
theorem dX11_keptMany_3 : decode cX11_keptMany 3 = .ok (.istore_n 3, 1) := by decide +kernel
theorem dX11_keptMany_4 : decode cX11_keptMany 4 = .ok (.iload_n 3, 1) := by decide +kernel
theorem dX11_keptMany_5 : decode cX11_keptMany 5 = .ok (.sipush 200, 3) := by decide +kernel
theorem dX11_keptMany_8 : decode cX11_keptMany 8 = .ok (.if_icmp .ge 32, 3) := by decide +kernel
theorem dX11_keptMany_11 : decode cX11_keptMany 11 = .ok (.iload_n 2, 1) := by decide +kernel
theorem dX11_keptMany_12 : decode cX11_keptMany 12 = .ok (.aload_n 0, 1) := by decide +kernel
theorem dX11_keptMany_13 : decode cX11_keptMany 13 = .ok (.getfield 76, 3) := by decide +kernel
theorem dX11_keptMany_16 : decode cX11_keptMany 16 = .ok (.sipush 200, 3) := by decide +kernel
theorem dX11_keptMany_19 : decode cX11_keptMany 19 = .ok (.iload_n 1, 1) := by decide +kernel
theorem dX11_keptMany_20 : decode cX11_keptMany 20 = .ok (.imul, 1) := by decide +kernel
theorem dX11_keptMany_21 : decode cX11_keptMany 21 = .ok (.iload_n 3, 1) := by decide +kernel
theorem dX11_keptMany_22 : decode cX11_keptMany 22 = .ok (.iadd, 1) := by decide +kernel
theorem dX11_keptMany_23 : decode cX11_keptMany 23 = .ok (.baload, 1) := by decide +kernel
theorem dX11_keptMany_24 : decode cX11_keptMany 24 = .ok (.ifCond .eq 7, 3) := by decide +kernel
theorem dX11_keptMany_27 : decode cX11_keptMany 27 = .ok (.iconst 1, 1) := by decide +kernel
theorem dX11_keptMany_28 : decode cX11_keptMany 28 = .ok (.goto 4, 3) := by decide +kernel
theorem dX11_keptMany_31 : decode cX11_keptMany 31 = .ok (.iconst 0, 1) := by decide +kernel
theorem dX11_keptMany_32 : decode cX11_keptMany 32 = .ok (.iadd, 1) := by decide +kernel
theorem dX11_keptMany_33 : decode cX11_keptMany 33 = .ok (.istore_n 2, 1) := by decide +kernel
theorem dX11_keptMany_34 : decode cX11_keptMany 34 = .ok (.iinc 3 1, 3) := by decide +kernel
theorem dX11_keptMany_37 : decode cX11_keptMany 37 = .ok (.goto (-33), 3) := by decide +kernel
theorem dX11_keptMany_40 : decode cX11_keptMany 40 = .ok (.iload_n 2, 1) := by decide +kernel
theorem dX11_keptMany_41 : decode cX11_keptMany 41 = .ok (.ireturn, 1) := by decide +kernel
theorem dX11_receives_0 : decode cX11_receives 0 = .ok (.aload_n 0, 1) := by decide +kernel
theorem dX11_receives_1 : decode cX11_receives 1 = .ok (.dup, 1) := by decide +kernel
theorem dX11_receives_2 : decode cX11_receives 2 = .ok (.getfield 257, 3) := by decide +kernel
theorem dX11_receives_5 : decode cX11_receives 5 = .ok (.iconst 1, 1) := by decide +kernel
theorem dX11_receives_6 : decode cX11_receives 6 = .ok (.iadd, 1) := by decide +kernel
theorem dX11_receives_7 : decode cX11_receives 7 = .ok (.putfield 257, 3) := by decide +kernel
theorem dX11_receives_10 : decode cX11_receives 10 = .ok (.aload_n 0, 1) := by decide +kernel
theorem dX11_receives_11 : decode cX11_receives 11 = .ok (.getfield 82, 3) := by decide +kernel
theorem dX11_receives_14 : decode cX11_receives 14 = .ok (.iload_n 1, 1) := by decide +kernel
theorem dX11_receives_15 : decode cX11_receives 15 = .ok (.dup2, 1) := by decide +kernel
theorem dX11_receives_16 : decode cX11_receives 16 = .ok (.iaload, 1) := by decide +kernel
theorem dX11_receives_17 : decode cX11_receives 17 = .ok (.iconst 1, 1) := by decide +kernel
theorem dX11_receives_18 : decode cX11_receives 18 = .ok (.iadd, 1) := by decide +kernel
theorem dX11_receives_19 : decode cX11_receives 19 = .ok (.iastore, 1) := by decide +kernel
theorem dX11_receives_20 : decode cX11_receives 20 = .ok (.aload_n 0, 1) := by decide +kernel
theorem dX11_receives_21 : decode cX11_receives 21 = .ok (.iload_n 1, 1) := by decide +kernel
theorem dX11_receives_22 : decode cX11_receives 22 = .ok (.invokevirtual 260, 3) := by decide +kernel
theorem dX11_receives_25 : decode cX11_receives 25 = .ok (.ifCond .ne 7, 3) := by decide +kernel
theorem dX11_receives_28 : decode cX11_receives 28 = .ok (.iconst 1, 1) := by decide +kernel
theorem dX11_receives_29 : decode cX11_receives 29 = .ok (.goto 4, 3) := by decide +kernel
theorem dX11_receives_32 : decode cX11_receives 32 = .ok (.iconst 0, 1) := by decide +kernel
theorem dX11_receives_33 : decode cX11_receives 33 = .ok (.istore 4, 2) := by decide +kernel
theorem dX11_receives_35 : decode cX11_receives 35 = .ok (.iconst 0, 1) := by decide +kernel
theorem dX11_receives_36 : decode cX11_receives 36 = .ok (.istore 5, 2) := by decide +kernel
theorem dX11_receives_38 : decode cX11_receives 38 = .ok (.iload_n 2, 1) := by decide +kernel
theorem dX11_receives_39 : decode cX11_receives 39 = .ok (.aload_n 0, 1) := by decide +kernel
theorem dX11_receives_40 : decode cX11_receives 40 = .ok (.getfield 70, 3) := by decide +kernel
theorem dX11_receives_43 : decode cX11_receives 43 = .ok (.iload_n 1, 1) := by decide +kernel
theorem dX11_receives_44 : decode cX11_receives 44 = .ok (.iaload, 1) := by decide +kernel
theorem dX11_receives_45 : decode cX11_receives 45 = .ok (.isub, 1) := by decide +kernel
theorem dX11_receives_46 : decode cX11_receives 46 = .ok (.istore 6, 2) := by decide +kernel
theorem dX11_receives_48 : decode cX11_receives 48 = .ok (.iload 6, 2) := by decide +kernel
theorem dX11_receives_50 : decode cX11_receives 50 = .ok (.ifCond .lt 30, 3) := by decide +kernel
theorem dX11_receives_53 : decode cX11_receives 53 = .ok (.iload 6, 2) := by decide +kernel
theorem dX11_receives_55 : decode cX11_receives 55 = .ok (.aload_n 0, 1) := by decide +kernel
theorem dX11_receives_56 : decode cX11_receives 56 = .ok (.getfield 73, 3) := by decide +kernel
theorem dX11_receives_59 : decode cX11_receives 59 = .ok (.iload_n 1, 1) := by decide +kernel
theorem dX11_receives_60 : decode cX11_receives 60 = .ok (.iaload, 1) := by decide +kernel
theorem dX11_receives_61 : decode cX11_receives 61 = .ok (.if_icmp .ge 19, 3) := by decide +kernel
theorem dX11_receives_64 : decode cX11_receives 64 = .ok (.aload_n 0, 1) := by decide +kernel
theorem dX11_receives_65 : decode cX11_receives 65 = .ok (.getfield 76, 3) := by decide +kernel
theorem dX11_receives_68 : decode cX11_receives 68 = .ok (.sipush 200, 3) := by decide +kernel
theorem dX11_receives_71 : decode cX11_receives 71 = .ok (.iload_n 1, 1) := by decide +kernel
theorem dX11_receives_72 : decode cX11_receives 72 = .ok (.imul, 1) := by decide +kernel
theorem dX11_receives_73 : decode cX11_receives 73 = .ok (.iload 6, 2) := by decide +kernel
theorem dX11_receives_75 : decode cX11_receives 75 = .ok (.iadd, 1) := by decide +kernel
theorem dX11_receives_76 : decode cX11_receives 76 = .ok (.baload, 1) := by decide +kernel
theorem dX11_receives_77 : decode cX11_receives 77 = .ok (.ifCond .eq 16, 3) := by decide +kernel
theorem dX11_receives_80 : decode cX11_receives 80 = .ok (.aload_n 0, 1) := by decide +kernel
theorem dX11_receives_81 : decode cX11_receives 81 = .ok (.getfield 85, 3) := by decide +kernel
theorem dX11_receives_84 : decode cX11_receives 84 = .ok (.iload_n 1, 1) := by decide +kernel
theorem dX11_receives_85 : decode cX11_receives 85 = .ok (.dup2, 1) := by decide +kernel
theorem dX11_receives_86 : decode cX11_receives 86 = .ok (.iaload, 1) := by decide +kernel
theorem dX11_receives_87 : decode cX11_receives 87 = .ok (.iconst 1, 1) := by decide +kernel
theorem dX11_receives_88 : decode cX11_receives 88 = .ok (.iadd, 1) := by decide +kernel
theorem dX11_receives_89 : decode cX11_receives 89 = .ok (.iastore, 1) := by decide +kernel
theorem dX11_receives_90 : decode cX11_receives 90 = .ok (.goto 125, 3) := by decide +kernel
theorem dX11_receives_93 : decode cX11_receives 93 = .ok (.iload 6, 2) := by decide +kernel
theorem dX11_receives_95 : decode cX11_receives 95 = .ok (.ifCond .le 20, 3) := by decide +kernel
theorem dX11_receives_98 : decode cX11_receives 98 = .ok (.aload_n 0, 1) := by decide +kernel
theorem dX11_receives_99 : decode cX11_receives 99 = .ok (.getfield 76, 3) := by decide +kernel
theorem dX11_receives_102 : decode cX11_receives 102 = .ok (.sipush 200, 3) := by decide +kernel
theorem dX11_receives_105 : decode cX11_receives 105 = .ok (.iload_n 1, 1) := by decide +kernel
theorem dX11_receives_106 : decode cX11_receives 106 = .ok (.imul, 1) := by decide +kernel
theorem dX11_receives_107 : decode cX11_receives 107 = .ok (.iload 6, 2) := by decide +kernel
theorem dX11_receives_109 : decode cX11_receives 109 = .ok (.iadd, 1) := by decide +kernel
theorem dX11_receives_110 : decode cX11_receives 110 = .ok (.iconst 1, 1) := by decide +kernel
theorem dX11_receives_111 : decode cX11_receives 111 = .ok (.bastore, 1) := by decide +kernel
theorem dX11_receives_112 : decode cX11_receives 112 = .ok (.goto 103, 3) := by decide +kernel
theorem dX11_receives_115 : decode cX11_receives 115 = .ok (.iconst 1, 1) := by decide +kernel
theorem dX11_receives_116 : decode cX11_receives 116 = .ok (.istore 5, 2) := by decide +kernel
theorem dX11_receives_118 : decode cX11_receives 118 = .ok (.aload_n 0, 1) := by decide +kernel
theorem dX11_receives_119 : decode cX11_receives 119 = .ok (.getfield 76, 3) := by decide +kernel
theorem dX11_receives_122 : decode cX11_receives 122 = .ok (.sipush 200, 3) := by decide +kernel
theorem dX11_receives_125 : decode cX11_receives 125 = .ok (.iload_n 1, 1) := by decide +kernel
theorem dX11_receives_126 : decode cX11_receives 126 = .ok (.imul, 1) := by decide +kernel
theorem dX11_receives_127 : decode cX11_receives 127 = .ok (.iconst 1, 1) := by decide +kernel
theorem dX11_receives_128 : decode cX11_receives 128 = .ok (.bastore, 1) := by decide +kernel
theorem dX11_receives_129 : decode cX11_receives 129 = .ok (.aload_n 0, 1) := by decide +kernel
theorem dX11_receives_130 : decode cX11_receives 130 = .ok (.getfield 76, 3) := by decide +kernel
theorem dX11_receives_133 : decode cX11_receives 133 = .ok (.sipush 200, 3) := by decide +kernel
theorem dX11_receives_136 : decode cX11_receives 136 = .ok (.iload_n 1, 1) := by decide +kernel
theorem dX11_receives_137 : decode cX11_receives 137 = .ok (.imul, 1) := by decide +kernel
theorem dX11_receives_138 : decode cX11_receives 138 = .ok (.baload, 1) := by decide +kernel
theorem dX11_receives_139 : decode cX11_receives 139 = .ok (.ifCond .eq 76, 3) := by decide +kernel
theorem dX11_receives_142 : decode cX11_receives 142 = .ok (.iconst 0, 1) := by decide +kernel
theorem dX11_receives_143 : decode cX11_receives 143 = .ok (.istore 7, 2) := by decide +kernel
theorem dX11_receives_145 : decode cX11_receives 145 = .ok (.iload 7, 2) := by decide +kernel
theorem dX11_receives_147 : decode cX11_receives 147 = .ok (.sipush 199, 3) := by decide +kernel
theorem dX11_receives_150 : decode cX11_receives 150 = .ok (.if_icmp .ge 37, 3) := by decide +kernel
theorem dX11_receives_153 : decode cX11_receives 153 = .ok (.aload_n 0, 1) := by decide +kernel
theorem dX11_receives_154 : decode cX11_receives 154 = .ok (.getfield 76, 3) := by decide +kernel
theorem dX11_receives_157 : decode cX11_receives 157 = .ok (.sipush 200, 3) := by decide +kernel
theorem dX11_receives_160 : decode cX11_receives 160 = .ok (.iload_n 1, 1) := by decide +kernel
theorem dX11_receives_161 : decode cX11_receives 161 = .ok (.imul, 1) := by decide +kernel
theorem dX11_receives_162 : decode cX11_receives 162 = .ok (.iload 7, 2) := by decide +kernel
theorem dX11_receives_164 : decode cX11_receives 164 = .ok (.iadd, 1) := by decide +kernel
theorem dX11_receives_165 : decode cX11_receives 165 = .ok (.aload_n 0, 1) := by decide +kernel
theorem dX11_receives_166 : decode cX11_receives 166 = .ok (.getfield 76, 3) := by decide +kernel
theorem dX11_receives_169 : decode cX11_receives 169 = .ok (.sipush 200, 3) := by decide +kernel
theorem dX11_receives_172 : decode cX11_receives 172 = .ok (.iload_n 1, 1) := by decide +kernel
theorem dX11_receives_173 : decode cX11_receives 173 = .ok (.imul, 1) := by decide +kernel
theorem dX11_receives_174 : decode cX11_receives 174 = .ok (.iload 7, 2) := by decide +kernel
theorem dX11_receives_176 : decode cX11_receives 176 = .ok (.iadd, 1) := by decide +kernel
theorem dX11_receives_177 : decode cX11_receives 177 = .ok (.iconst 1, 1) := by decide +kernel
theorem dX11_receives_178 : decode cX11_receives 178 = .ok (.iadd, 1) := by decide +kernel
theorem dX11_receives_179 : decode cX11_receives 179 = .ok (.baload, 1) := by decide +kernel
theorem dX11_receives_180 : decode cX11_receives 180 = .ok (.bastore, 1) := by decide +kernel
theorem dX11_receives_181 : decode cX11_receives 181 = .ok (.iinc 7 1, 3) := by decide +kernel
theorem dX11_receives_184 : decode cX11_receives 184 = .ok (.goto (-39), 3) := by decide +kernel
theorem dX11_receives_187 : decode cX11_receives 187 = .ok (.aload_n 0, 1) := by decide +kernel
theorem dX11_receives_188 : decode cX11_receives 188 = .ok (.getfield 76, 3) := by decide +kernel
theorem dX11_receives_191 : decode cX11_receives 191 = .ok (.sipush 200, 3) := by decide +kernel
theorem dX11_receives_194 : decode cX11_receives 194 = .ok (.iload_n 1, 1) := by decide +kernel
theorem dX11_receives_195 : decode cX11_receives 195 = .ok (.imul, 1) := by decide +kernel
theorem dX11_receives_196 : decode cX11_receives 196 = .ok (.sipush 199, 3) := by decide +kernel
theorem dX11_receives_199 : decode cX11_receives 199 = .ok (.iadd, 1) := by decide +kernel
theorem dX11_receives_200 : decode cX11_receives 200 = .ok (.iconst 0, 1) := by decide +kernel
theorem dX11_receives_201 : decode cX11_receives 201 = .ok (.bastore, 1) := by decide +kernel
theorem dX11_receives_202 : decode cX11_receives 202 = .ok (.aload_n 0, 1) := by decide +kernel
theorem dX11_receives_203 : decode cX11_receives 203 = .ok (.getfield 70, 3) := by decide +kernel
theorem dX11_receives_206 : decode cX11_receives 206 = .ok (.iload_n 1, 1) := by decide +kernel
theorem dX11_receives_207 : decode cX11_receives 207 = .ok (.dup2, 1) := by decide +kernel
theorem dX11_receives_208 : decode cX11_receives 208 = .ok (.iaload, 1) := by decide +kernel
theorem dX11_receives_209 : decode cX11_receives 209 = .ok (.iconst 1, 1) := by decide +kernel
theorem dX11_receives_210 : decode cX11_receives 210 = .ok (.iadd, 1) := by decide +kernel
theorem dX11_receives_211 : decode cX11_receives 211 = .ok (.iastore, 1) := by decide +kernel
theorem dX11_receives_212 : decode cX11_receives 212 = .ok (.goto (-83), 3) := by decide +kernel
theorem dX11_receives_215 : decode cX11_receives 215 = .ok (.aload_n 0, 1) := by decide +kernel
theorem dX11_receives_216 : decode cX11_receives 216 = .ok (.getfield 67, 3) := by decide +kernel
theorem dX11_receives_219 : decode cX11_receives 219 = .ok (.iload_n 1, 1) := by decide +kernel
theorem dX11_receives_220 : decode cX11_receives 220 = .ok (.baload, 1) := by decide +kernel
theorem dX11_receives_221 : decode cX11_receives 221 = .ok (.ifCond .eq 47, 3) := by decide +kernel
theorem dX11_receives_224 : decode cX11_receives 224 = .ok (.iload 5, 2) := by decide +kernel
theorem dX11_receives_226 : decode cX11_receives 226 = .ok (.ifCond .eq 42, 3) := by decide +kernel
theorem dX11_receives_229 : decode cX11_receives 229 = .ok (.iload 4, 2) := by decide +kernel
theorem dX11_receives_231 : decode cX11_receives 231 = .ok (.ifCond .eq 37, 3) := by decide +kernel
theorem dX11_receives_234 : decode cX11_receives 234 = .ok (.aload_n 0, 1) := by decide +kernel
theorem dX11_receives_235 : decode cX11_receives 235 = .ok (.iload_n 1, 1) := by decide +kernel
theorem dX11_receives_236 : decode cX11_receives 236 = .ok (.invokevirtual 260, 3) := by decide +kernel
theorem dX11_receives_239 : decode cX11_receives 239 = .ok (.ifCond .ne 29, 3) := by decide +kernel
theorem dX11_receives_242 : decode cX11_receives 242 = .ok (.aload_n 0, 1) := by decide +kernel
theorem dX11_receives_243 : decode cX11_receives 243 = .ok (.getfield 88, 3) := by decide +kernel
theorem dX11_receives_246 : decode cX11_receives 246 = .ok (.iload_n 1, 1) := by decide +kernel
theorem dX11_receives_247 : decode cX11_receives 247 = .ok (.iaload, 1) := by decide +kernel
theorem dX11_receives_248 : decode cX11_receives 248 = .ok (.iconst (-1), 1) := by decide +kernel
theorem dX11_receives_249 : decode cX11_receives 249 = .ok (.if_icmp .ne 19, 3) := by decide +kernel
theorem dX11_receives_252 : decode cX11_receives 252 = .ok (.aload_n 0, 1) := by decide +kernel
theorem dX11_receives_253 : decode cX11_receives 253 = .ok (.getfield 88, 3) := by decide +kernel
theorem dX11_receives_256 : decode cX11_receives 256 = .ok (.iload_n 1, 1) := by decide +kernel
theorem dX11_receives_257 : decode cX11_receives 257 = .ok (.aload_n 0, 1) := by decide +kernel
theorem dX11_receives_258 : decode cX11_receives 258 = .ok (.getfield 207, 3) := by decide +kernel
theorem dX11_receives_261 : decode cX11_receives 261 = .ok (.bipush 100, 2) := by decide +kernel
theorem dX11_receives_263 : decode cX11_receives 263 = .ok (.iadd, 1) := by decide +kernel
theorem dX11_receives_264 : decode cX11_receives 264 = .ok (.iastore, 1) := by decide +kernel
theorem dX11_receives_265 : decode cX11_receives 265 = .ok (.goto 17, 3) := by decide +kernel
theorem dX11_receives_268 : decode cX11_receives 268 = .ok (.aload_n 0, 1) := by decide +kernel
theorem dX11_receives_269 : decode cX11_receives 269 = .ok (.iload_n 1, 1) := by decide +kernel
theorem dX11_receives_270 : decode cX11_receives 270 = .ok (.iload_n 3, 1) := by decide +kernel
theorem dX11_receives_271 : decode cX11_receives 271 = .ok (.ifCond .ne 7, 3) := by decide +kernel
theorem dX11_receives_274 : decode cX11_receives 274 = .ok (.iconst 1, 1) := by decide +kernel
theorem dX11_receives_275 : decode cX11_receives 275 = .ok (.goto 4, 3) := by decide +kernel
theorem dX11_receives_278 : decode cX11_receives 278 = .ok (.iconst 0, 1) := by decide +kernel
theorem dX11_receives_279 : decode cX11_receives 279 = .ok (.invokevirtual 264, 3) := by decide +kernel
theorem dX11_receives_282 : decode cX11_receives 282 = .ok (.return_, 1) := by decide +kernel
theorem dX11_answer_0 : decode cX11_answer 0 = .ok (.aload_n 0, 1) := by decide +kernel
theorem dX11_answer_1 : decode cX11_answer 1 = .ok (.getfield 88, 3) := by decide +kernel
theorem dX11_answer_4 : decode cX11_answer 4 = .ok (.iload_n 1, 1) := by decide +kernel
theorem dX11_answer_5 : decode cX11_answer 5 = .ok (.iconst (-1), 1) := by decide +kernel
theorem dX11_answer_6 : decode cX11_answer 6 = .ok (.iastore, 1) := by decide +kernel
theorem dX11_answer_7 : decode cX11_answer 7 = .ok (.aload_n 0, 1) := by decide +kernel
theorem dX11_answer_8 : decode cX11_answer 8 = .ok (.getfield 79, 3) := by decide +kernel
theorem dX11_answer_11 : decode cX11_answer 11 = .ok (.iload_n 1, 1) := by decide +kernel
theorem dX11_answer_12 : decode cX11_answer 12 = .ok (.dup2, 1) := by decide +kernel
theorem dX11_answer_13 : decode cX11_answer 13 = .ok (.iaload, 1) := by decide +kernel
theorem dX11_answer_14 : decode cX11_answer 14 = .ok (.iconst 1, 1) := by decide +kernel
theorem dX11_answer_15 : decode cX11_answer 15 = .ok (.iadd, 1) := by decide +kernel
theorem dX11_answer_16 : decode cX11_answer 16 = .ok (.iastore, 1) := by decide +kernel
theorem dX11_answer_17 : decode cX11_answer 17 = .ok (.aload_n 0, 1) := by decide +kernel
theorem dX11_answer_18 : decode cX11_answer 18 = .ok (.getfield 268, 3) := by decide +kernel
theorem dX11_answer_21 : decode cX11_answer 21 = .ok (.sipush 6000, 3) := by decide +kernel
theorem dX11_answer_24 : decode cX11_answer 24 = .ok (.if_icmp .ne 12, 3) := by decide +kernel
theorem dX11_answer_27 : decode cX11_answer 27 = .ok (.aload_n 0, 1) := by decide +kernel
theorem dX11_answer_28 : decode cX11_answer 28 = .ok (.aload_n 0, 1) := by decide +kernel
theorem dX11_answer_29 : decode cX11_answer 29 = .ok (.getfield 271, 3) := by decide +kernel
theorem dX11_answer_32 : decode cX11_answer 32 = .ok (.iconst 0, 1) := by decide +kernel
theorem dX11_answer_33 : decode cX11_answer 33 = .ok (.invokevirtual 274, 3) := by decide +kernel
theorem dX11_answer_36 : decode cX11_answer 36 = .ok (.aload_n 0, 1) := by decide +kernel
theorem dX11_answer_37 : decode cX11_answer 37 = .ok (.aload_n 0, 1) := by decide +kernel
theorem dX11_answer_38 : decode cX11_answer 38 = .ok (.getfield 271, 3) := by decide +kernel
theorem dX11_answer_41 : decode cX11_answer 41 = .ok (.aload_n 0, 1) := by decide +kernel
theorem dX11_answer_42 : decode cX11_answer 42 = .ok (.getfield 268, 3) := by decide +kernel
theorem dX11_answer_45 : decode cX11_answer 45 = .ok (.if_icmp .ge 37, 3) := by decide +kernel
theorem dX11_answer_48 : decode cX11_answer 48 = .ok (.aload_n 0, 1) := by decide +kernel
theorem dX11_answer_49 : decode cX11_answer 49 = .ok (.getfield 277, 3) := by decide +kernel
theorem dX11_answer_52 : decode cX11_answer 52 = .ok (.ifCond .ne 26, 3) := by decide +kernel
theorem dX11_answer_55 : decode cX11_answer 55 = .ok (.aload_n 0, 1) := by decide +kernel
theorem dX11_answer_56 : decode cX11_answer 56 = .ok (.getfield 45, 3) := by decide +kernel
theorem dX11_answer_59 : decode cX11_answer 59 = .ok (.aload_n 0, 1) := by decide +kernel
theorem dX11_answer_60 : decode cX11_answer 60 = .ok (.getfield 268, 3) := by decide +kernel
theorem dX11_answer_63 : decode cX11_answer 63 = .ok (.iconst 1, 1) := by decide +kernel
theorem dX11_answer_64 : decode cX11_answer 64 = .ok (.isub, 1) := by decide +kernel
theorem dX11_answer_65 : decode cX11_answer 65 = .ok (.iaload, 1) := by decide +kernel
theorem dX11_answer_66 : decode cX11_answer 66 = .ok (.aload_n 0, 1) := by decide +kernel
theorem dX11_answer_67 : decode cX11_answer 67 = .ok (.getfield 207, 3) := by decide +kernel
theorem dX11_answer_70 : decode cX11_answer 70 = .ok (.aload_n 0, 1) := by decide +kernel
theorem dX11_answer_71 : decode cX11_answer 71 = .ok (.getfield 19, 3) := by decide +kernel
theorem dX11_answer_74 : decode cX11_answer 74 = .ok (.iadd, 1) := by decide +kernel
theorem dX11_answer_75 : decode cX11_answer 75 = .ok (.if_icmp .le 7, 3) := by decide +kernel
theorem dX11_answer_78 : decode cX11_answer 78 = .ok (.iconst 1, 1) := by decide +kernel
theorem dX11_answer_79 : decode cX11_answer 79 = .ok (.goto 4, 3) := by decide +kernel
theorem dX11_answer_82 : decode cX11_answer 82 = .ok (.iconst 0, 1) := by decide +kernel
theorem dX11_answer_83 : decode cX11_answer 83 = .ok (.putfield 277, 3) := by decide +kernel
theorem dX11_answer_86 : decode cX11_answer 86 = .ok (.aload_n 0, 1) := by decide +kernel
theorem dX11_answer_87 : decode cX11_answer 87 = .ok (.getfield 45, 3) := by decide +kernel
theorem dX11_answer_90 : decode cX11_answer 90 = .ok (.aload_n 0, 1) := by decide +kernel
theorem dX11_answer_91 : decode cX11_answer 91 = .ok (.getfield 268, 3) := by decide +kernel
theorem dX11_answer_94 : decode cX11_answer 94 = .ok (.aload_n 0, 1) := by decide +kernel
theorem dX11_answer_95 : decode cX11_answer 95 = .ok (.getfield 207, 3) := by decide +kernel
theorem dX11_answer_98 : decode cX11_answer 98 = .ok (.aload_n 0, 1) := by decide +kernel
theorem dX11_answer_99 : decode cX11_answer 99 = .ok (.getfield 19, 3) := by decide +kernel
theorem dX11_answer_102 : decode cX11_answer 102 = .ok (.iadd, 1) := by decide +kernel
theorem dX11_answer_103 : decode cX11_answer 103 = .ok (.iastore, 1) := by decide +kernel
theorem dX11_answer_104 : decode cX11_answer 104 = .ok (.aload_n 0, 1) := by decide +kernel
theorem dX11_answer_105 : decode cX11_answer 105 = .ok (.getfield 48, 3) := by decide +kernel
theorem dX11_answer_108 : decode cX11_answer 108 = .ok (.aload_n 0, 1) := by decide +kernel
theorem dX11_answer_109 : decode cX11_answer 109 = .ok (.getfield 268, 3) := by decide +kernel
theorem dX11_answer_112 : decode cX11_answer 112 = .ok (.iload_n 1, 1) := by decide +kernel
theorem dX11_answer_113 : decode cX11_answer 113 = .ok (.iastore, 1) := by decide +kernel
theorem dX11_answer_114 : decode cX11_answer 114 = .ok (.aload_n 0, 1) := by decide +kernel
theorem dX11_answer_115 : decode cX11_answer 115 = .ok (.getfield 51, 3) := by decide +kernel
theorem dX11_answer_118 : decode cX11_answer 118 = .ok (.aload_n 0, 1) := by decide +kernel
theorem dX11_answer_119 : decode cX11_answer 119 = .ok (.getfield 268, 3) := by decide +kernel
theorem dX11_answer_122 : decode cX11_answer 122 = .ok (.aload_n 0, 1) := by decide +kernel
theorem dX11_answer_123 : decode cX11_answer 123 = .ok (.getfield 70, 3) := by decide +kernel
theorem dX11_answer_126 : decode cX11_answer 126 = .ok (.iload_n 1, 1) := by decide +kernel
theorem dX11_answer_127 : decode cX11_answer 127 = .ok (.iaload, 1) := by decide +kernel
theorem dX11_answer_128 : decode cX11_answer 128 = .ok (.iastore, 1) := by decide +kernel
theorem dX11_answer_129 : decode cX11_answer 129 = .ok (.aload_n 0, 1) := by decide +kernel
theorem dX11_answer_130 : decode cX11_answer 130 = .ok (.getfield 54, 3) := by decide +kernel
theorem dX11_answer_133 : decode cX11_answer 133 = .ok (.aload_n 0, 1) := by decide +kernel
theorem dX11_answer_134 : decode cX11_answer 134 = .ok (.getfield 268, 3) := by decide +kernel
theorem dX11_answer_137 : decode cX11_answer 137 = .ok (.aload_n 0, 1) := by decide +kernel
theorem dX11_answer_138 : decode cX11_answer 138 = .ok (.getfield 73, 3) := by decide +kernel
theorem dX11_answer_141 : decode cX11_answer 141 = .ok (.iload_n 1, 1) := by decide +kernel
theorem dX11_answer_142 : decode cX11_answer 142 = .ok (.iaload, 1) := by decide +kernel
theorem dX11_answer_143 : decode cX11_answer 143 = .ok (.iastore, 1) := by decide +kernel
theorem dX11_answer_144 : decode cX11_answer 144 = .ok (.aload_n 0, 1) := by decide +kernel
theorem dX11_answer_145 : decode cX11_answer 145 = .ok (.getfield 57, 3) := by decide +kernel
theorem dX11_answer_148 : decode cX11_answer 148 = .ok (.aload_n 0, 1) := by decide +kernel
theorem dX11_answer_149 : decode cX11_answer 149 = .ok (.getfield 268, 3) := by decide +kernel
theorem dX11_answer_152 : decode cX11_answer 152 = .ok (.iload_n 2, 1) := by decide +kernel
theorem dX11_answer_153 : decode cX11_answer 153 = .ok (.bastore, 1) := by decide +kernel
theorem dX11_answer_154 : decode cX11_answer 154 = .ok (.iconst 0, 1) := by decide +kernel
theorem dX11_answer_155 : decode cX11_answer 155 = .ok (.istore_n 3, 1) := by decide +kernel
theorem dX11_answer_156 : decode cX11_answer 156 = .ok (.iload_n 3, 1) := by decide +kernel
theorem dX11_answer_157 : decode cX11_answer 157 = .ok (.sipush 200, 3) := by decide +kernel
theorem dX11_answer_160 : decode cX11_answer 160 = .ok (.if_icmp .ge 36, 3) := by decide +kernel
theorem dX11_answer_163 : decode cX11_answer 163 = .ok (.aload_n 0, 1) := by decide +kernel
theorem dX11_answer_164 : decode cX11_answer 164 = .ok (.getfield 61, 3) := by decide +kernel
theorem dX11_answer_167 : decode cX11_answer 167 = .ok (.sipush 200, 3) := by decide +kernel
theorem dX11_answer_170 : decode cX11_answer 170 = .ok (.aload_n 0, 1) := by decide +kernel
theorem dX11_answer_171 : decode cX11_answer 171 = .ok (.getfield 268, 3) := by decide +kernel
theorem dX11_answer_174 : decode cX11_answer 174 = .ok (.imul, 1) := by decide +kernel
theorem dX11_answer_175 : decode cX11_answer 175 = .ok (.iload_n 3, 1) := by decide +kernel
theorem dX11_answer_176 : decode cX11_answer 176 = .ok (.iadd, 1) := by decide +kernel
theorem dX11_answer_177 : decode cX11_answer 177 = .ok (.aload_n 0, 1) := by decide +kernel
theorem dX11_answer_178 : decode cX11_answer 178 = .ok (.getfield 76, 3) := by decide +kernel
theorem dX11_answer_181 : decode cX11_answer 181 = .ok (.sipush 200, 3) := by decide +kernel
theorem dX11_answer_184 : decode cX11_answer 184 = .ok (.iload_n 1, 1) := by decide +kernel
theorem dX11_answer_185 : decode cX11_answer 185 = .ok (.imul, 1) := by decide +kernel
theorem dX11_answer_186 : decode cX11_answer 186 = .ok (.iload_n 3, 1) := by decide +kernel
theorem dX11_answer_187 : decode cX11_answer 187 = .ok (.iadd, 1) := by decide +kernel
theorem dX11_answer_188 : decode cX11_answer 188 = .ok (.baload, 1) := by decide +kernel
theorem dX11_answer_189 : decode cX11_answer 189 = .ok (.bastore, 1) := by decide +kernel
theorem dX11_answer_190 : decode cX11_answer 190 = .ok (.iinc 3 1, 3) := by decide +kernel
theorem dX11_answer_193 : decode cX11_answer 193 = .ok (.goto (-37), 3) := by decide +kernel
theorem dX11_answer_196 : decode cX11_answer 196 = .ok (.aload_n 0, 1) := by decide +kernel
theorem dX11_answer_197 : decode cX11_answer 197 = .ok (.dup, 1) := by decide +kernel
theorem dX11_answer_198 : decode cX11_answer 198 = .ok (.getfield 268, 3) := by decide +kernel
theorem dX11_answer_201 : decode cX11_answer 201 = .ok (.iconst 1, 1) := by decide +kernel
theorem dX11_answer_202 : decode cX11_answer 202 = .ok (.iadd, 1) := by decide +kernel
theorem dX11_answer_203 : decode cX11_answer 203 = .ok (.putfield 268, 3) := by decide +kernel
theorem dX11_answer_206 : decode cX11_answer 206 = .ok (.return_, 1) := by decide +kernel
theorem dX11_answers_0 : decode cX11_answers 0 = .ok (.iconst 0, 1) := by decide +kernel
theorem dX11_answers_1 : decode cX11_answers 1 = .ok (.istore_n 1, 1) := by decide +kernel
theorem dX11_answers_2 : decode cX11_answers 2 = .ok (.iload_n 1, 1) := by decide +kernel
theorem dX11_answers_3 : decode cX11_answers 3 = .ok (.aload_n 0, 1) := by decide +kernel
theorem dX11_answers_4 : decode cX11_answers 4 = .ok (.getfield 191, 3) := by decide +kernel
theorem dX11_answers_7 : decode cX11_answers 7 = .ok (.if_icmp .ge 34, 3) := by decide +kernel
theorem dX11_answers_10 : decode cX11_answers 10 = .ok (.aload_n 0, 1) := by decide +kernel
theorem dX11_answers_11 : decode cX11_answers 11 = .ok (.getfield 91, 3) := by decide +kernel
theorem dX11_answers_14 : decode cX11_answers 14 = .ok (.iload_n 1, 1) := by decide +kernel
theorem dX11_answers_15 : decode cX11_answers 15 = .ok (.baload, 1) := by decide +kernel
theorem dX11_answers_16 : decode cX11_answers 16 = .ok (.ifCond .ne 6, 3) := by decide +kernel
theorem dX11_answers_19 : decode cX11_answers 19 = .ok (.goto 16, 3) := by decide +kernel
theorem dX11_answers_22 : decode cX11_answers 22 = .ok (.aload_n 0, 1) := by decide +kernel
theorem dX11_answers_23 : decode cX11_answers 23 = .ok (.getfield 91, 3) := by decide +kernel
theorem dX11_answers_26 : decode cX11_answers 26 = .ok (.iload_n 1, 1) := by decide +kernel
theorem dX11_answers_27 : decode cX11_answers 27 = .ok (.iconst 0, 1) := by decide +kernel
theorem dX11_answers_28 : decode cX11_answers 28 = .ok (.bastore, 1) := by decide +kernel
theorem dX11_answers_29 : decode cX11_answers 29 = .ok (.aload_n 0, 1) := by decide +kernel
theorem dX11_answers_30 : decode cX11_answers 30 = .ok (.iload_n 1, 1) := by decide +kernel
theorem dX11_answers_31 : decode cX11_answers 31 = .ok (.iconst 0, 1) := by decide +kernel
theorem dX11_answers_32 : decode cX11_answers 32 = .ok (.invokevirtual 264, 3) := by decide +kernel
theorem dX11_answers_35 : decode cX11_answers 35 = .ok (.iinc 1 1, 3) := by decide +kernel
theorem dX11_answers_38 : decode cX11_answers 38 = .ok (.goto (-36), 3) := by decide +kernel
theorem dX11_answers_41 : decode cX11_answers 41 = .ok (.iconst 0, 1) := by decide +kernel
theorem dX11_answers_42 : decode cX11_answers 42 = .ok (.istore_n 1, 1) := by decide +kernel
theorem dX11_answers_43 : decode cX11_answers 43 = .ok (.iload_n 1, 1) := by decide +kernel
theorem dX11_answers_44 : decode cX11_answers 44 = .ok (.aload_n 0, 1) := by decide +kernel
theorem dX11_answers_45 : decode cX11_answers 45 = .ok (.getfield 191, 3) := by decide +kernel
theorem dX11_answers_48 : decode cX11_answers 48 = .ok (.if_icmp .ge 28, 3) := by decide +kernel
theorem dX11_answers_51 : decode cX11_answers 51 = .ok (.aload_n 0, 1) := by decide +kernel
theorem dX11_answers_52 : decode cX11_answers 52 = .ok (.getfield 88, 3) := by decide +kernel
theorem dX11_answers_55 : decode cX11_answers 55 = .ok (.iload_n 1, 1) := by decide +kernel
theorem dX11_answers_56 : decode cX11_answers 56 = .ok (.iaload, 1) := by decide +kernel
theorem dX11_answers_57 : decode cX11_answers 57 = .ok (.aload_n 0, 1) := by decide +kernel
theorem dX11_answers_58 : decode cX11_answers 58 = .ok (.getfield 207, 3) := by decide +kernel
theorem dX11_answers_61 : decode cX11_answers 61 = .ok (.if_icmp .ne 9, 3) := by decide +kernel
theorem dX11_answers_64 : decode cX11_answers 64 = .ok (.aload_n 0, 1) := by decide +kernel
theorem dX11_answers_65 : decode cX11_answers 65 = .ok (.iload_n 1, 1) := by decide +kernel
theorem dX11_answers_66 : decode cX11_answers 66 = .ok (.iconst 1, 1) := by decide +kernel
theorem dX11_answers_67 : decode cX11_answers 67 = .ok (.invokevirtual 264, 3) := by decide +kernel
theorem dX11_answers_70 : decode cX11_answers 70 = .ok (.iinc 1 1, 3) := by decide +kernel
theorem dX11_answers_73 : decode cX11_answers 73 = .ok (.goto (-30), 3) := by decide +kernel
theorem dX11_answers_76 : decode cX11_answers 76 = .ok (.return_, 1) := by decide +kernel
theorem dX11_acksDown_0 : decode cX11_acksDown 0 = .ok (.iload_n 2, 1) := by decide +kernel
theorem dX11_acksDown_1 : decode cX11_acksDown 1 = .ok (.ifCond .eq 7, 3) := by decide +kernel
theorem dX11_acksDown_4 : decode cX11_acksDown 4 = .ok (.iload_n 1, 1) := by decide +kernel
theorem dX11_acksDown_5 : decode cX11_acksDown 5 = .ok (.goto 4, 3) := by decide +kernel
theorem dX11_acksDown_8 : decode cX11_acksDown 8 = .ok (.iconst 0, 1) := by decide +kernel
theorem dX11_acksDown_9 : decode cX11_acksDown 9 = .ok (.istore_n 3, 1) := by decide +kernel
theorem dX11_acksDown_10 : decode cX11_acksDown 10 = .ok (.iload_n 1, 1) := by decide +kernel
theorem dX11_acksDown_11 : decode cX11_acksDown 11 = .ok (.istore 4, 2) := by decide +kernel
theorem dX11_acksDown_13 : decode cX11_acksDown 13 = .ok (.iload 4, 2) := by decide +kernel
theorem dX11_acksDown_15 : decode cX11_acksDown 15 = .ok (.aload_n 0, 1) := by decide +kernel
theorem dX11_acksDown_16 : decode cX11_acksDown 16 = .ok (.getfield 268, 3) := by decide +kernel
theorem dX11_acksDown_19 : decode cX11_acksDown 19 = .ok (.if_icmp .ge 161, 3) := by decide +kernel
theorem dX11_acksDown_22 : decode cX11_acksDown 22 = .ok (.iload_n 2, 1) := by decide +kernel
theorem dX11_acksDown_23 : decode cX11_acksDown 23 = .ok (.ifCond .eq 33, 3) := by decide +kernel
theorem dX11_acksDown_26 : decode cX11_acksDown 26 = .ok (.aload_n 0, 1) := by decide +kernel
theorem dX11_acksDown_27 : decode cX11_acksDown 27 = .ok (.getfield 45, 3) := by decide +kernel
theorem dX11_acksDown_30 : decode cX11_acksDown 30 = .ok (.iload 4, 2) := by decide +kernel
theorem dX11_acksDown_32 : decode cX11_acksDown 32 = .ok (.iaload, 1) := by decide +kernel
theorem dX11_acksDown_33 : decode cX11_acksDown 33 = .ok (.aload_n 0, 1) := by decide +kernel
theorem dX11_acksDown_34 : decode cX11_acksDown 34 = .ok (.getfield 207, 3) := by decide +kernel
theorem dX11_acksDown_37 : decode cX11_acksDown 37 = .ok (.if_icmp .ne 19, 3) := by decide +kernel
theorem dX11_acksDown_40 : decode cX11_acksDown 40 = .ok (.aload_n 0, 1) := by decide +kernel
theorem dX11_acksDown_41 : decode cX11_acksDown 41 = .ok (.aload_n 0, 1) := by decide +kernel
theorem dX11_acksDown_42 : decode cX11_acksDown 42 = .ok (.getfield 48, 3) := by decide +kernel
theorem dX11_acksDown_45 : decode cX11_acksDown 45 = .ok (.iload 4, 2) := by decide +kernel
theorem dX11_acksDown_47 : decode cX11_acksDown 47 = .ok (.iaload, 1) := by decide +kernel
theorem dX11_acksDown_48 : decode cX11_acksDown 48 = .ok (.iload 4, 2) := by decide +kernel
theorem dX11_acksDown_50 : decode cX11_acksDown 50 = .ok (.invokevirtual 280, 3) := by decide +kernel
theorem dX11_acksDown_53 : decode cX11_acksDown 53 = .ok (.goto 121, 3) := by decide +kernel
theorem dX11_acksDown_56 : decode cX11_acksDown 56 = .ok (.iload_n 3, 1) := by decide +kernel
theorem dX11_acksDown_57 : decode cX11_acksDown 57 = .ok (.iload 4, 2) := by decide +kernel
theorem dX11_acksDown_59 : decode cX11_acksDown 59 = .ok (.if_icmp .ge 112, 3) := by decide +kernel
theorem dX11_acksDown_62 : decode cX11_acksDown 62 = .ok (.aload_n 0, 1) := by decide +kernel
theorem dX11_acksDown_63 : decode cX11_acksDown 63 = .ok (.getfield 45, 3) := by decide +kernel
theorem dX11_acksDown_66 : decode cX11_acksDown 66 = .ok (.iload_n 3, 1) := by decide +kernel
theorem dX11_acksDown_67 : decode cX11_acksDown 67 = .ok (.aload_n 0, 1) := by decide +kernel
theorem dX11_acksDown_68 : decode cX11_acksDown 68 = .ok (.getfield 45, 3) := by decide +kernel
theorem dX11_acksDown_71 : decode cX11_acksDown 71 = .ok (.iload 4, 2) := by decide +kernel
theorem dX11_acksDown_73 : decode cX11_acksDown 73 = .ok (.iaload, 1) := by decide +kernel
theorem dX11_acksDown_74 : decode cX11_acksDown 74 = .ok (.iastore, 1) := by decide +kernel
theorem dX11_acksDown_75 : decode cX11_acksDown 75 = .ok (.aload_n 0, 1) := by decide +kernel
theorem dX11_acksDown_76 : decode cX11_acksDown 76 = .ok (.getfield 48, 3) := by decide +kernel
theorem dX11_acksDown_79 : decode cX11_acksDown 79 = .ok (.iload_n 3, 1) := by decide +kernel
theorem dX11_acksDown_80 : decode cX11_acksDown 80 = .ok (.aload_n 0, 1) := by decide +kernel
theorem dX11_acksDown_81 : decode cX11_acksDown 81 = .ok (.getfield 48, 3) := by decide +kernel
theorem dX11_acksDown_84 : decode cX11_acksDown 84 = .ok (.iload 4, 2) := by decide +kernel
theorem dX11_acksDown_86 : decode cX11_acksDown 86 = .ok (.iaload, 1) := by decide +kernel
theorem dX11_acksDown_87 : decode cX11_acksDown 87 = .ok (.iastore, 1) := by decide +kernel
theorem dX11_acksDown_88 : decode cX11_acksDown 88 = .ok (.aload_n 0, 1) := by decide +kernel
theorem dX11_acksDown_89 : decode cX11_acksDown 89 = .ok (.getfield 51, 3) := by decide +kernel
theorem dX11_acksDown_92 : decode cX11_acksDown 92 = .ok (.iload_n 3, 1) := by decide +kernel
theorem dX11_acksDown_93 : decode cX11_acksDown 93 = .ok (.aload_n 0, 1) := by decide +kernel
theorem dX11_acksDown_94 : decode cX11_acksDown 94 = .ok (.getfield 51, 3) := by decide +kernel
theorem dX11_acksDown_97 : decode cX11_acksDown 97 = .ok (.iload 4, 2) := by decide +kernel
theorem dX11_acksDown_99 : decode cX11_acksDown 99 = .ok (.iaload, 1) := by decide +kernel
theorem dX11_acksDown_100 : decode cX11_acksDown 100 = .ok (.iastore, 1) := by decide +kernel
theorem dX11_acksDown_101 : decode cX11_acksDown 101 = .ok (.aload_n 0, 1) := by decide +kernel
theorem dX11_acksDown_102 : decode cX11_acksDown 102 = .ok (.getfield 54, 3) := by decide +kernel
theorem dX11_acksDown_105 : decode cX11_acksDown 105 = .ok (.iload_n 3, 1) := by decide +kernel
theorem dX11_acksDown_106 : decode cX11_acksDown 106 = .ok (.aload_n 0, 1) := by decide +kernel
theorem dX11_acksDown_107 : decode cX11_acksDown 107 = .ok (.getfield 54, 3) := by decide +kernel
theorem dX11_acksDown_110 : decode cX11_acksDown 110 = .ok (.iload 4, 2) := by decide +kernel
theorem dX11_acksDown_112 : decode cX11_acksDown 112 = .ok (.iaload, 1) := by decide +kernel
theorem dX11_acksDown_113 : decode cX11_acksDown 113 = .ok (.iastore, 1) := by decide +kernel
theorem dX11_acksDown_114 : decode cX11_acksDown 114 = .ok (.aload_n 0, 1) := by decide +kernel
theorem dX11_acksDown_115 : decode cX11_acksDown 115 = .ok (.getfield 57, 3) := by decide +kernel
theorem dX11_acksDown_118 : decode cX11_acksDown 118 = .ok (.iload_n 3, 1) := by decide +kernel
theorem dX11_acksDown_119 : decode cX11_acksDown 119 = .ok (.aload_n 0, 1) := by decide +kernel
theorem dX11_acksDown_120 : decode cX11_acksDown 120 = .ok (.getfield 57, 3) := by decide +kernel
theorem dX11_acksDown_123 : decode cX11_acksDown 123 = .ok (.iload 4, 2) := by decide +kernel
theorem dX11_acksDown_125 : decode cX11_acksDown 125 = .ok (.baload, 1) := by decide +kernel
theorem dX11_acksDown_126 : decode cX11_acksDown 126 = .ok (.bastore, 1) := by decide +kernel
theorem dX11_acksDown_127 : decode cX11_acksDown 127 = .ok (.iconst 0, 1) := by decide +kernel
theorem dX11_acksDown_128 : decode cX11_acksDown 128 = .ok (.istore 5, 2) := by decide +kernel
theorem dX11_acksDown_130 : decode cX11_acksDown 130 = .ok (.iload 5, 2) := by decide +kernel
theorem dX11_acksDown_132 : decode cX11_acksDown 132 = .ok (.sipush 200, 3) := by decide +kernel
theorem dX11_acksDown_135 : decode cX11_acksDown 135 = .ok (.if_icmp .ge 36, 3) := by decide +kernel
theorem dX11_acksDown_138 : decode cX11_acksDown 138 = .ok (.aload_n 0, 1) := by decide +kernel
theorem dX11_acksDown_139 : decode cX11_acksDown 139 = .ok (.getfield 61, 3) := by decide +kernel
theorem dX11_acksDown_142 : decode cX11_acksDown 142 = .ok (.sipush 200, 3) := by decide +kernel
theorem dX11_acksDown_145 : decode cX11_acksDown 145 = .ok (.iload_n 3, 1) := by decide +kernel
theorem dX11_acksDown_146 : decode cX11_acksDown 146 = .ok (.imul, 1) := by decide +kernel
theorem dX11_acksDown_147 : decode cX11_acksDown 147 = .ok (.iload 5, 2) := by decide +kernel
theorem dX11_acksDown_149 : decode cX11_acksDown 149 = .ok (.iadd, 1) := by decide +kernel
theorem dX11_acksDown_150 : decode cX11_acksDown 150 = .ok (.aload_n 0, 1) := by decide +kernel
theorem dX11_acksDown_151 : decode cX11_acksDown 151 = .ok (.getfield 61, 3) := by decide +kernel
theorem dX11_acksDown_154 : decode cX11_acksDown 154 = .ok (.sipush 200, 3) := by decide +kernel
theorem dX11_acksDown_157 : decode cX11_acksDown 157 = .ok (.iload 4, 2) := by decide +kernel
theorem dX11_acksDown_159 : decode cX11_acksDown 159 = .ok (.imul, 1) := by decide +kernel
theorem dX11_acksDown_160 : decode cX11_acksDown 160 = .ok (.iload 5, 2) := by decide +kernel
theorem dX11_acksDown_162 : decode cX11_acksDown 162 = .ok (.iadd, 1) := by decide +kernel
theorem dX11_acksDown_163 : decode cX11_acksDown 163 = .ok (.baload, 1) := by decide +kernel
theorem dX11_acksDown_164 : decode cX11_acksDown 164 = .ok (.bastore, 1) := by decide +kernel
theorem dX11_acksDown_165 : decode cX11_acksDown 165 = .ok (.iinc 5 1, 3) := by decide +kernel
theorem dX11_acksDown_168 : decode cX11_acksDown 168 = .ok (.goto (-38), 3) := by decide +kernel
theorem dX11_acksDown_171 : decode cX11_acksDown 171 = .ok (.iinc 3 1, 3) := by decide +kernel
theorem dX11_acksDown_174 : decode cX11_acksDown 174 = .ok (.iinc 4 1, 3) := by decide +kernel
theorem dX11_acksDown_177 : decode cX11_acksDown 177 = .ok (.goto (-164), 3) := by decide +kernel
theorem dX11_acksDown_180 : decode cX11_acksDown 180 = .ok (.iload_n 2, 1) := by decide +kernel
theorem dX11_acksDown_181 : decode cX11_acksDown 181 = .ok (.ifCond .ne 8, 3) := by decide +kernel
theorem dX11_acksDown_184 : decode cX11_acksDown 184 = .ok (.aload_n 0, 1) := by decide +kernel
theorem dX11_acksDown_185 : decode cX11_acksDown 185 = .ok (.iconst 0, 1) := by decide +kernel
theorem dX11_acksDown_186 : decode cX11_acksDown 186 = .ok (.putfield 271, 3) := by decide +kernel
theorem dX11_acksDown_189 : decode cX11_acksDown 189 = .ok (.aload_n 0, 1) := by decide +kernel
theorem dX11_acksDown_190 : decode cX11_acksDown 190 = .ok (.iload_n 3, 1) := by decide +kernel
theorem dX11_acksDown_191 : decode cX11_acksDown 191 = .ok (.putfield 268, 3) := by decide +kernel
theorem dX11_acksDown_194 : decode cX11_acksDown 194 = .ok (.return_, 1) := by decide +kernel
theorem dX11_hears_0 : decode cX11_hears 0 = .ok (.aload_n 0, 1) := by decide +kernel
theorem dX11_hears_1 : decode cX11_hears 1 = .ok (.getfield 277, 3) := by decide +kernel
theorem dX11_hears_4 : decode cX11_hears 4 = .ok (.ifCond .eq 13, 3) := by decide +kernel
theorem dX11_hears_7 : decode cX11_hears 7 = .ok (.aload_n 0, 1) := by decide +kernel
theorem dX11_hears_8 : decode cX11_hears 8 = .ok (.aload_n 0, 1) := by decide +kernel
theorem dX11_hears_9 : decode cX11_hears 9 = .ok (.getfield 271, 3) := by decide +kernel
theorem dX11_hears_12 : decode cX11_hears 12 = .ok (.iconst 1, 1) := by decide +kernel
theorem dX11_hears_13 : decode cX11_hears 13 = .ok (.invokevirtual 274, 3) := by decide +kernel
theorem dX11_hears_16 : decode cX11_hears 16 = .ok (.return_, 1) := by decide +kernel
theorem dX11_hears_17 : decode cX11_hears 17 = .ok (.aload_n 0, 1) := by decide +kernel
theorem dX11_hears_18 : decode cX11_hears 18 = .ok (.getfield 271, 3) := by decide +kernel
theorem dX11_hears_21 : decode cX11_hears 21 = .ok (.aload_n 0, 1) := by decide +kernel
theorem dX11_hears_22 : decode cX11_hears 22 = .ok (.getfield 268, 3) := by decide +kernel
theorem dX11_hears_25 : decode cX11_hears 25 = .ok (.if_icmp .ge 53, 3) := by decide +kernel
theorem dX11_hears_28 : decode cX11_hears 28 = .ok (.aload_n 0, 1) := by decide +kernel
theorem dX11_hears_29 : decode cX11_hears 29 = .ok (.getfield 45, 3) := by decide +kernel
theorem dX11_hears_32 : decode cX11_hears 32 = .ok (.aload_n 0, 1) := by decide +kernel
theorem dX11_hears_33 : decode cX11_hears 33 = .ok (.getfield 271, 3) := by decide +kernel
theorem dX11_hears_36 : decode cX11_hears 36 = .ok (.iaload, 1) := by decide +kernel
theorem dX11_hears_37 : decode cX11_hears 37 = .ok (.aload_n 0, 1) := by decide +kernel
theorem dX11_hears_38 : decode cX11_hears 38 = .ok (.getfield 207, 3) := by decide +kernel
theorem dX11_hears_41 : decode cX11_hears 41 = .ok (.if_icmp .ne 37, 3) := by decide +kernel
theorem dX11_hears_44 : decode cX11_hears 44 = .ok (.aload_n 0, 1) := by decide +kernel
theorem dX11_hears_45 : decode cX11_hears 45 = .ok (.dup, 1) := by decide +kernel
theorem dX11_hears_46 : decode cX11_hears 46 = .ok (.getfield 271, 3) := by decide +kernel
theorem dX11_hears_49 : decode cX11_hears 49 = .ok (.iconst 1, 1) := by decide +kernel
theorem dX11_hears_50 : decode cX11_hears 50 = .ok (.iadd, 1) := by decide +kernel
theorem dX11_hears_51 : decode cX11_hears 51 = .ok (.putfield 271, 3) := by decide +kernel
theorem dX11_hears_54 : decode cX11_hears 54 = .ok (.aload_n 0, 1) := by decide +kernel
theorem dX11_hears_55 : decode cX11_hears 55 = .ok (.aload_n 0, 1) := by decide +kernel
theorem dX11_hears_56 : decode cX11_hears 56 = .ok (.getfield 48, 3) := by decide +kernel
theorem dX11_hears_59 : decode cX11_hears 59 = .ok (.aload_n 0, 1) := by decide +kernel
theorem dX11_hears_60 : decode cX11_hears 60 = .ok (.getfield 271, 3) := by decide +kernel
theorem dX11_hears_63 : decode cX11_hears 63 = .ok (.iconst 1, 1) := by decide +kernel
theorem dX11_hears_64 : decode cX11_hears 64 = .ok (.isub, 1) := by decide +kernel
theorem dX11_hears_65 : decode cX11_hears 65 = .ok (.iaload, 1) := by decide +kernel
theorem dX11_hears_66 : decode cX11_hears 66 = .ok (.aload_n 0, 1) := by decide +kernel
theorem dX11_hears_67 : decode cX11_hears 67 = .ok (.getfield 271, 3) := by decide +kernel
theorem dX11_hears_70 : decode cX11_hears 70 = .ok (.iconst 1, 1) := by decide +kernel
theorem dX11_hears_71 : decode cX11_hears 71 = .ok (.isub, 1) := by decide +kernel
theorem dX11_hears_72 : decode cX11_hears 72 = .ok (.invokevirtual 280, 3) := by decide +kernel
theorem dX11_hears_75 : decode cX11_hears 75 = .ok (.goto (-58), 3) := by decide +kernel
theorem dX11_hears_78 : decode cX11_hears 78 = .ok (.return_, 1) := by decide +kernel
theorem dX11_heard_0 : decode cX11_heard 0 = .ok (.aload_n 0, 1) := by decide +kernel
theorem dX11_heard_1 : decode cX11_heard 1 = .ok (.getfield 51, 3) := by decide +kernel
theorem dX11_heard_4 : decode cX11_heard 4 = .ok (.iload_n 2, 1) := by decide +kernel
theorem dX11_heard_5 : decode cX11_heard 5 = .ok (.iaload, 1) := by decide +kernel
theorem dX11_heard_6 : decode cX11_heard 6 = .ok (.istore_n 3, 1) := by decide +kernel
theorem dX11_heard_7 : decode cX11_heard 7 = .ok (.iload_n 3, 1) := by decide +kernel
theorem dX11_heard_8 : decode cX11_heard 8 = .ok (.aload_n 0, 1) := by decide +kernel
theorem dX11_heard_9 : decode cX11_heard 9 = .ok (.getfield 100, 3) := by decide +kernel
theorem dX11_heard_12 : decode cX11_heard 12 = .ok (.iload_n 1, 1) := by decide +kernel
theorem dX11_heard_13 : decode cX11_heard 13 = .ok (.iaload, 1) := by decide +kernel
theorem dX11_heard_14 : decode cX11_heard 14 = .ok (.if_icmp .ge 4, 3) := by decide +kernel
theorem dX11_heard_17 : decode cX11_heard 17 = .ok (.return_, 1) := by decide +kernel
theorem dX11_heard_18 : decode cX11_heard 18 = .ok (.iload_n 3, 1) := by decide +kernel
theorem dX11_heard_19 : decode cX11_heard 19 = .ok (.aload_n 0, 1) := by decide +kernel
theorem dX11_heard_20 : decode cX11_heard 20 = .ok (.getfield 100, 3) := by decide +kernel
theorem dX11_heard_23 : decode cX11_heard 23 = .ok (.iload_n 1, 1) := by decide +kernel
theorem dX11_heard_24 : decode cX11_heard 24 = .ok (.iaload, 1) := by decide +kernel
theorem dX11_heard_25 : decode cX11_heard 25 = .ok (.if_icmp .ne 46, 3) := by decide +kernel
theorem dX11_heard_28 : decode cX11_heard 28 = .ok (.aload_n 0, 1) := by decide +kernel
theorem dX11_heard_29 : decode cX11_heard 29 = .ok (.getfield 54, 3) := by decide +kernel
theorem dX11_heard_32 : decode cX11_heard 32 = .ok (.iload_n 2, 1) := by decide +kernel
theorem dX11_heard_33 : decode cX11_heard 33 = .ok (.iaload, 1) := by decide +kernel
theorem dX11_heard_34 : decode cX11_heard 34 = .ok (.aload_n 0, 1) := by decide +kernel
theorem dX11_heard_35 : decode cX11_heard 35 = .ok (.getfield 148, 3) := by decide +kernel
theorem dX11_heard_38 : decode cX11_heard 38 = .ok (.iload_n 1, 1) := by decide +kernel
theorem dX11_heard_39 : decode cX11_heard 39 = .ok (.iaload, 1) := by decide +kernel
theorem dX11_heard_40 : decode cX11_heard 40 = .ok (.if_icmp .ne 31, 3) := by decide +kernel
theorem dX11_heard_43 : decode cX11_heard 43 = .ok (.aload_n 0, 1) := by decide +kernel
theorem dX11_heard_44 : decode cX11_heard 44 = .ok (.getfield 103, 3) := by decide +kernel
theorem dX11_heard_47 : decode cX11_heard 47 = .ok (.iload_n 1, 1) := by decide +kernel
theorem dX11_heard_48 : decode cX11_heard 48 = .ok (.iaload, 1) := by decide +kernel
theorem dX11_heard_49 : decode cX11_heard 49 = .ok (.aload_n 0, 1) := by decide +kernel
theorem dX11_heard_50 : decode cX11_heard 50 = .ok (.getfield 100, 3) := by decide +kernel
theorem dX11_heard_53 : decode cX11_heard 53 = .ok (.iload_n 1, 1) := by decide +kernel
theorem dX11_heard_54 : decode cX11_heard 54 = .ok (.iaload, 1) := by decide +kernel
theorem dX11_heard_55 : decode cX11_heard 55 = .ok (.if_icmp .le 16, 3) := by decide +kernel
theorem dX11_heard_58 : decode cX11_heard 58 = .ok (.aload_n 0, 1) := by decide +kernel
theorem dX11_heard_59 : decode cX11_heard 59 = .ok (.getfield 57, 3) := by decide +kernel
theorem dX11_heard_62 : decode cX11_heard 62 = .ok (.iload_n 2, 1) := by decide +kernel
theorem dX11_heard_63 : decode cX11_heard 63 = .ok (.baload, 1) := by decide +kernel
theorem dX11_heard_64 : decode cX11_heard 64 = .ok (.ifCond .eq 7, 3) := by decide +kernel
theorem dX11_heard_67 : decode cX11_heard 67 = .ok (.iconst 1, 1) := by decide +kernel
theorem dX11_heard_68 : decode cX11_heard 68 = .ok (.goto 4, 3) := by decide +kernel
theorem dX11_heard_71 : decode cX11_heard 71 = .ok (.iconst 0, 1) := by decide +kernel
theorem dX11_heard_72 : decode cX11_heard 72 = .ok (.istore 4, 2) := by decide +kernel
theorem dX11_heard_74 : decode cX11_heard 74 = .ok (.iload_n 3, 1) := by decide +kernel
theorem dX11_heard_75 : decode cX11_heard 75 = .ok (.aload_n 0, 1) := by decide +kernel
theorem dX11_heard_76 : decode cX11_heard 76 = .ok (.getfield 100, 3) := by decide +kernel
theorem dX11_heard_79 : decode cX11_heard 79 = .ok (.iload_n 1, 1) := by decide +kernel
theorem dX11_heard_80 : decode cX11_heard 80 = .ok (.iaload, 1) := by decide +kernel
theorem dX11_heard_81 : decode cX11_heard 81 = .ok (.isub, 1) := by decide +kernel
theorem dX11_heard_82 : decode cX11_heard 82 = .ok (.istore 5, 2) := by decide +kernel
theorem dX11_heard_84 : decode cX11_heard 84 = .ok (.iload 5, 2) := by decide +kernel
theorem dX11_heard_86 : decode cX11_heard 86 = .ok (.ifCond .le 42, 3) := by decide +kernel
theorem dX11_heard_89 : decode cX11_heard 89 = .ok (.aload_n 0, 1) := by decide +kernel
theorem dX11_heard_90 : decode cX11_heard 90 = .ok (.iload_n 1, 1) := by decide +kernel
theorem dX11_heard_91 : decode cX11_heard 91 = .ok (.iload_n 3, 1) := by decide +kernel
theorem dX11_heard_92 : decode cX11_heard 92 = .ok (.invokevirtual 283, 3) := by decide +kernel
theorem dX11_heard_95 : decode cX11_heard 95 = .ok (.aload_n 0, 1) := by decide +kernel
theorem dX11_heard_96 : decode cX11_heard 96 = .ok (.getfield 100, 3) := by decide +kernel
theorem dX11_heard_99 : decode cX11_heard 99 = .ok (.iload_n 1, 1) := by decide +kernel
theorem dX11_heard_100 : decode cX11_heard 100 = .ok (.iload_n 3, 1) := by decide +kernel
theorem dX11_heard_101 : decode cX11_heard 101 = .ok (.iastore, 1) := by decide +kernel
theorem dX11_heard_102 : decode cX11_heard 102 = .ok (.aload_n 0, 1) := by decide +kernel
theorem dX11_heard_103 : decode cX11_heard 103 = .ok (.getfield 103, 3) := by decide +kernel
theorem dX11_heard_106 : decode cX11_heard 106 = .ok (.iload_n 1, 1) := by decide +kernel
theorem dX11_heard_107 : decode cX11_heard 107 = .ok (.iload_n 3, 1) := by decide +kernel
theorem dX11_heard_108 : decode cX11_heard 108 = .ok (.aload_n 0, 1) := by decide +kernel
theorem dX11_heard_109 : decode cX11_heard 109 = .ok (.getfield 103, 3) := by decide +kernel
theorem dX11_heard_112 : decode cX11_heard 112 = .ok (.iload_n 1, 1) := by decide +kernel
theorem dX11_heard_113 : decode cX11_heard 113 = .ok (.iaload, 1) := by decide +kernel
theorem dX11_heard_114 : decode cX11_heard 114 = .ok (.if_icmp .le 7, 3) := by decide +kernel
theorem dX11_heard_117 : decode cX11_heard 117 = .ok (.iload_n 3, 1) := by decide +kernel
theorem dX11_heard_118 : decode cX11_heard 118 = .ok (.goto 9, 3) := by decide +kernel
theorem dX11_heard_121 : decode cX11_heard 121 = .ok (.aload_n 0, 1) := by decide +kernel
theorem dX11_heard_122 : decode cX11_heard 122 = .ok (.getfield 103, 3) := by decide +kernel
theorem dX11_heard_125 : decode cX11_heard 125 = .ok (.iload_n 1, 1) := by decide +kernel
theorem dX11_heard_126 : decode cX11_heard 126 = .ok (.iaload, 1) := by decide +kernel
theorem dX11_heard_127 : decode cX11_heard 127 = .ok (.iastore, 1) := by decide +kernel
theorem dX11_heard_128 : decode cX11_heard 128 = .ok (.aload_n 0, 1) := by decide +kernel
theorem dX11_heard_129 : decode cX11_heard 129 = .ok (.getfield 148, 3) := by decide +kernel
theorem dX11_heard_132 : decode cX11_heard 132 = .ok (.iload_n 1, 1) := by decide +kernel
theorem dX11_heard_133 : decode cX11_heard 133 = .ok (.aload_n 0, 1) := by decide +kernel
theorem dX11_heard_134 : decode cX11_heard 134 = .ok (.getfield 54, 3) := by decide +kernel
theorem dX11_heard_137 : decode cX11_heard 137 = .ok (.iload_n 2, 1) := by decide +kernel
theorem dX11_heard_138 : decode cX11_heard 138 = .ok (.iaload, 1) := by decide +kernel
theorem dX11_heard_139 : decode cX11_heard 139 = .ok (.iastore, 1) := by decide +kernel
theorem dX11_heard_140 : decode cX11_heard 140 = .ok (.iconst 0, 1) := by decide +kernel
theorem dX11_heard_141 : decode cX11_heard 141 = .ok (.istore 6, 2) := by decide +kernel
theorem dX11_heard_143 : decode cX11_heard 143 = .ok (.iload 6, 2) := by decide +kernel
theorem dX11_heard_145 : decode cX11_heard 145 = .ok (.sipush 200, 3) := by decide +kernel
theorem dX11_heard_148 : decode cX11_heard 148 = .ok (.if_icmp .ge 35, 3) := by decide +kernel
theorem dX11_heard_151 : decode cX11_heard 151 = .ok (.aload_n 0, 1) := by decide +kernel
theorem dX11_heard_152 : decode cX11_heard 152 = .ok (.getfield 181, 3) := by decide +kernel
theorem dX11_heard_155 : decode cX11_heard 155 = .ok (.sipush 200, 3) := by decide +kernel
theorem dX11_heard_158 : decode cX11_heard 158 = .ok (.iload_n 1, 1) := by decide +kernel
theorem dX11_heard_159 : decode cX11_heard 159 = .ok (.imul, 1) := by decide +kernel
theorem dX11_heard_160 : decode cX11_heard 160 = .ok (.iload 6, 2) := by decide +kernel
theorem dX11_heard_162 : decode cX11_heard 162 = .ok (.iadd, 1) := by decide +kernel
theorem dX11_heard_163 : decode cX11_heard 163 = .ok (.aload_n 0, 1) := by decide +kernel
theorem dX11_heard_164 : decode cX11_heard 164 = .ok (.getfield 61, 3) := by decide +kernel
theorem dX11_heard_167 : decode cX11_heard 167 = .ok (.sipush 200, 3) := by decide +kernel
theorem dX11_heard_170 : decode cX11_heard 170 = .ok (.iload_n 2, 1) := by decide +kernel
theorem dX11_heard_171 : decode cX11_heard 171 = .ok (.imul, 1) := by decide +kernel
theorem dX11_heard_172 : decode cX11_heard 172 = .ok (.iload 6, 2) := by decide +kernel
theorem dX11_heard_174 : decode cX11_heard 174 = .ok (.iadd, 1) := by decide +kernel
theorem dX11_heard_175 : decode cX11_heard 175 = .ok (.baload, 1) := by decide +kernel
theorem dX11_heard_176 : decode cX11_heard 176 = .ok (.bastore, 1) := by decide +kernel
theorem dX11_heard_177 : decode cX11_heard 177 = .ok (.iinc 6 1, 3) := by decide +kernel
theorem dX11_heard_180 : decode cX11_heard 180 = .ok (.goto (-37), 3) := by decide +kernel
theorem dX11_heard_183 : decode cX11_heard 183 = .ok (.iload 5, 2) := by decide +kernel
theorem dX11_heard_185 : decode cX11_heard 185 = .ok (.ifCond .le 39, 3) := by decide +kernel
theorem dX11_heard_188 : decode cX11_heard 188 = .ok (.aload_n 0, 1) := by decide +kernel
theorem dX11_heard_189 : decode cX11_heard 189 = .ok (.getfield 151, 3) := by decide +kernel
theorem dX11_heard_192 : decode cX11_heard 192 = .ok (.iload_n 1, 1) := by decide +kernel
theorem dX11_heard_193 : decode cX11_heard 193 = .ok (.aload_n 0, 1) := by decide +kernel
theorem dX11_heard_194 : decode cX11_heard 194 = .ok (.getfield 103, 3) := by decide +kernel
theorem dX11_heard_197 : decode cX11_heard 197 = .ok (.iload_n 1, 1) := by decide +kernel
theorem dX11_heard_198 : decode cX11_heard 198 = .ok (.iaload, 1) := by decide +kernel
theorem dX11_heard_199 : decode cX11_heard 199 = .ok (.aload_n 0, 1) := by decide +kernel
theorem dX11_heard_200 : decode cX11_heard 200 = .ok (.getfield 100, 3) := by decide +kernel
theorem dX11_heard_203 : decode cX11_heard 203 = .ok (.iload_n 1, 1) := by decide +kernel
theorem dX11_heard_204 : decode cX11_heard 204 = .ok (.iaload, 1) := by decide +kernel
theorem dX11_heard_205 : decode cX11_heard 205 = .ok (.if_icmp .le 17, 3) := by decide +kernel
theorem dX11_heard_208 : decode cX11_heard 208 = .ok (.aload_n 0, 1) := by decide +kernel
theorem dX11_heard_209 : decode cX11_heard 209 = .ok (.getfield 207, 3) := by decide +kernel
theorem dX11_heard_212 : decode cX11_heard 212 = .ok (.aload_n 0, 1) := by decide +kernel
theorem dX11_heard_213 : decode cX11_heard 213 = .ok (.getfield 115, 3) := by decide +kernel
theorem dX11_heard_216 : decode cX11_heard 216 = .ok (.iload_n 1, 1) := by decide +kernel
theorem dX11_heard_217 : decode cX11_heard 217 = .ok (.iaload, 1) := by decide +kernel
theorem dX11_heard_218 : decode cX11_heard 218 = .ok (.iadd, 1) := by decide +kernel
theorem dX11_heard_219 : decode cX11_heard 219 = .ok (.goto 4, 3) := by decide +kernel
theorem dX11_heard_222 : decode cX11_heard 222 = .ok (.iconst (-1), 1) := by decide +kernel
theorem dX11_heard_223 : decode cX11_heard 223 = .ok (.iastore, 1) := by decide +kernel
theorem dX11_heard_224 : decode cX11_heard 224 = .ok (.aload_n 0, 1) := by decide +kernel
theorem dX11_heard_225 : decode cX11_heard 225 = .ok (.getfield 148, 3) := by decide +kernel
theorem dX11_heard_228 : decode cX11_heard 228 = .ok (.iload_n 1, 1) := by decide +kernel
theorem dX11_heard_229 : decode cX11_heard 229 = .ok (.iaload, 1) := by decide +kernel
theorem dX11_heard_230 : decode cX11_heard 230 = .ok (.ifCond .le 25, 3) := by decide +kernel
theorem dX11_heard_233 : decode cX11_heard 233 = .ok (.aload_n 0, 1) := by decide +kernel
theorem dX11_heard_234 : decode cX11_heard 234 = .ok (.getfield 103, 3) := by decide +kernel
theorem dX11_heard_237 : decode cX11_heard 237 = .ok (.iload_n 1, 1) := by decide +kernel
theorem dX11_heard_238 : decode cX11_heard 238 = .ok (.iaload, 1) := by decide +kernel
theorem dX11_heard_239 : decode cX11_heard 239 = .ok (.aload_n 0, 1) := by decide +kernel
theorem dX11_heard_240 : decode cX11_heard 240 = .ok (.getfield 100, 3) := by decide +kernel
theorem dX11_heard_243 : decode cX11_heard 243 = .ok (.iload_n 1, 1) := by decide +kernel
theorem dX11_heard_244 : decode cX11_heard 244 = .ok (.iaload, 1) := by decide +kernel
theorem dX11_heard_245 : decode cX11_heard 245 = .ok (.if_icmp .ne 10, 3) := by decide +kernel
theorem dX11_heard_248 : decode cX11_heard 248 = .ok (.aload_n 0, 1) := by decide +kernel
theorem dX11_heard_249 : decode cX11_heard 249 = .ok (.getfield 151, 3) := by decide +kernel
theorem dX11_heard_252 : decode cX11_heard 252 = .ok (.iload_n 1, 1) := by decide +kernel
theorem dX11_heard_253 : decode cX11_heard 253 = .ok (.iconst (-1), 1) := by decide +kernel
theorem dX11_heard_254 : decode cX11_heard 254 = .ok (.iastore, 1) := by decide +kernel
theorem dX11_heard_255 : decode cX11_heard 255 = .ok (.iload 5, 2) := by decide +kernel
theorem dX11_heard_257 : decode cX11_heard 257 = .ok (.ifCond .le 14, 3) := by decide +kernel
theorem dX11_heard_260 : decode cX11_heard 260 = .ok (.aload_n 0, 1) := by decide +kernel
theorem dX11_heard_261 : decode cX11_heard 261 = .ok (.iload_n 1, 1) := by decide +kernel
theorem dX11_heard_262 : decode cX11_heard 262 = .ok (.iload_n 3, 1) := by decide +kernel
theorem dX11_heard_263 : decode cX11_heard 263 = .ok (.iload 5, 2) := by decide +kernel
theorem dX11_heard_265 : decode cX11_heard 265 = .ok (.invokevirtual 286, 3) := by decide +kernel
theorem dX11_heard_268 : decode cX11_heard 268 = .ok (.goto 13, 3) := by decide +kernel
theorem dX11_heard_271 : decode cX11_heard 271 = .ok (.iload 4, 2) := by decide +kernel
theorem dX11_heard_273 : decode cX11_heard 273 = .ok (.ifCond .eq 8, 3) := by decide +kernel
theorem dX11_heard_276 : decode cX11_heard 276 = .ok (.aload_n 0, 1) := by decide +kernel
theorem dX11_heard_277 : decode cX11_heard 277 = .ok (.iload_n 1, 1) := by decide +kernel
theorem dX11_heard_278 : decode cX11_heard 278 = .ok (.invokevirtual 290, 3) := by decide +kernel
theorem dX11_heard_281 : decode cX11_heard 281 = .ok (.return_, 1) := by decide +kernel
theorem dX11_measures_0 : decode cX11_measures 0 = .ok (.aload_n 0, 1) := by decide +kernel
theorem dX11_measures_1 : decode cX11_measures 1 = .ok (.getfield 175, 3) := by decide +kernel
theorem dX11_measures_4 : decode cX11_measures 4 = .ok (.iload_n 1, 1) := by decide +kernel
theorem dX11_measures_5 : decode cX11_measures 5 = .ok (.iaload, 1) := by decide +kernel
theorem dX11_measures_6 : decode cX11_measures 6 = .ok (.iconst (-1), 1) := by decide +kernel
theorem dX11_measures_7 : decode cX11_measures 7 = .ok (.if_icmp .eq 13, 3) := by decide +kernel
theorem dX11_measures_10 : decode cX11_measures 10 = .ok (.iload_n 2, 1) := by decide +kernel
theorem dX11_measures_11 : decode cX11_measures 11 = .ok (.aload_n 0, 1) := by decide +kernel
theorem dX11_measures_12 : decode cX11_measures 12 = .ok (.getfield 175, 3) := by decide +kernel
theorem dX11_measures_15 : decode cX11_measures 15 = .ok (.iload_n 1, 1) := by decide +kernel
theorem dX11_measures_16 : decode cX11_measures 16 = .ok (.iaload, 1) := by decide +kernel
theorem dX11_measures_17 : decode cX11_measures 17 = .ok (.if_icmp .gt 4, 3) := by decide +kernel
theorem dX11_measures_20 : decode cX11_measures 20 = .ok (.return_, 1) := by decide +kernel
theorem dX11_measures_21 : decode cX11_measures 21 = .ok (.aload_n 0, 1) := by decide +kernel
theorem dX11_measures_22 : decode cX11_measures 22 = .ok (.getfield 207, 3) := by decide +kernel
theorem dX11_measures_25 : decode cX11_measures 25 = .ok (.aload_n 0, 1) := by decide +kernel
theorem dX11_measures_26 : decode cX11_measures 26 = .ok (.getfield 178, 3) := by decide +kernel
theorem dX11_measures_29 : decode cX11_measures 29 = .ok (.iload_n 1, 1) := by decide +kernel
theorem dX11_measures_30 : decode cX11_measures 30 = .ok (.iaload, 1) := by decide +kernel
theorem dX11_measures_31 : decode cX11_measures 31 = .ok (.isub, 1) := by decide +kernel
theorem dX11_measures_32 : decode cX11_measures 32 = .ok (.istore_n 3, 1) := by decide +kernel
theorem dX11_measures_33 : decode cX11_measures 33 = .ok (.aload_n 0, 1) := by decide +kernel
theorem dX11_measures_34 : decode cX11_measures 34 = .ok (.getfield 175, 3) := by decide +kernel
theorem dX11_measures_37 : decode cX11_measures 37 = .ok (.iload_n 1, 1) := by decide +kernel
theorem dX11_measures_38 : decode cX11_measures 38 = .ok (.iconst (-1), 1) := by decide +kernel
theorem dX11_measures_39 : decode cX11_measures 39 = .ok (.iastore, 1) := by decide +kernel
theorem dX11_measures_40 : decode cX11_measures 40 = .ok (.aload_n 0, 1) := by decide +kernel
theorem dX11_measures_41 : decode cX11_measures 41 = .ok (.getfield 124, 3) := by decide +kernel
theorem dX11_measures_44 : decode cX11_measures 44 = .ok (.iload_n 1, 1) := by decide +kernel
theorem dX11_measures_45 : decode cX11_measures 45 = .ok (.baload, 1) := by decide +kernel
theorem dX11_measures_46 : decode cX11_measures 46 = .ok (.ifCond .eq 78, 3) := by decide +kernel
theorem dX11_measures_49 : decode cX11_measures 49 = .ok (.aload_n 0, 1) := by decide +kernel
theorem dX11_measures_50 : decode cX11_measures 50 = .ok (.getfield 118, 3) := by decide +kernel
theorem dX11_measures_53 : decode cX11_measures 53 = .ok (.iload_n 1, 1) := by decide +kernel
theorem dX11_measures_54 : decode cX11_measures 54 = .ok (.iaload, 1) := by decide +kernel
theorem dX11_measures_55 : decode cX11_measures 55 = .ok (.bipush 8, 2) := by decide +kernel
theorem dX11_measures_57 : decode cX11_measures 57 = .ok (.idiv, 1) := by decide +kernel
theorem dX11_measures_58 : decode cX11_measures 58 = .ok (.iload_n 3, 1) := by decide +kernel
theorem dX11_measures_59 : decode cX11_measures 59 = .ok (.isub, 1) := by decide +kernel
theorem dX11_measures_60 : decode cX11_measures 60 = .ok (.istore 4, 2) := by decide +kernel
theorem dX11_measures_62 : decode cX11_measures 62 = .ok (.aload_n 0, 1) := by decide +kernel
theorem dX11_measures_63 : decode cX11_measures 63 = .ok (.getfield 121, 3) := by decide +kernel
theorem dX11_measures_66 : decode cX11_measures 66 = .ok (.iload_n 1, 1) := by decide +kernel
theorem dX11_measures_67 : decode cX11_measures 67 = .ok (.aload_n 0, 1) := by decide +kernel
theorem dX11_measures_68 : decode cX11_measures 68 = .ok (.getfield 121, 3) := by decide +kernel
theorem dX11_measures_71 : decode cX11_measures 71 = .ok (.iload_n 1, 1) := by decide +kernel
theorem dX11_measures_72 : decode cX11_measures 72 = .ok (.iaload, 1) := by decide +kernel
theorem dX11_measures_73 : decode cX11_measures 73 = .ok (.aload_n 0, 1) := by decide +kernel
theorem dX11_measures_74 : decode cX11_measures 74 = .ok (.getfield 121, 3) := by decide +kernel
theorem dX11_measures_77 : decode cX11_measures 77 = .ok (.iload_n 1, 1) := by decide +kernel
theorem dX11_measures_78 : decode cX11_measures 78 = .ok (.iaload, 1) := by decide +kernel
theorem dX11_measures_79 : decode cX11_measures 79 = .ok (.iconst 4, 1) := by decide +kernel
theorem dX11_measures_80 : decode cX11_measures 80 = .ok (.idiv, 1) := by decide +kernel
theorem dX11_measures_81 : decode cX11_measures 81 = .ok (.isub, 1) := by decide +kernel
theorem dX11_measures_82 : decode cX11_measures 82 = .ok (.iload 4, 2) := by decide +kernel
theorem dX11_measures_84 : decode cX11_measures 84 = .ok (.ifCond .ge 9, 3) := by decide +kernel
theorem dX11_measures_87 : decode cX11_measures 87 = .ok (.iload 4, 2) := by decide +kernel
theorem dX11_measures_89 : decode cX11_measures 89 = .ok (.ineg, 1) := by decide +kernel
theorem dX11_measures_90 : decode cX11_measures 90 = .ok (.goto 5, 3) := by decide +kernel
theorem dX11_measures_93 : decode cX11_measures 93 = .ok (.iload 4, 2) := by decide +kernel
theorem dX11_measures_95 : decode cX11_measures 95 = .ok (.iadd, 1) := by decide +kernel
theorem dX11_measures_96 : decode cX11_measures 96 = .ok (.iastore, 1) := by decide +kernel
theorem dX11_measures_97 : decode cX11_measures 97 = .ok (.aload_n 0, 1) := by decide +kernel
theorem dX11_measures_98 : decode cX11_measures 98 = .ok (.getfield 118, 3) := by decide +kernel
theorem dX11_measures_101 : decode cX11_measures 101 = .ok (.iload_n 1, 1) := by decide +kernel
theorem dX11_measures_102 : decode cX11_measures 102 = .ok (.aload_n 0, 1) := by decide +kernel
theorem dX11_measures_103 : decode cX11_measures 103 = .ok (.getfield 118, 3) := by decide +kernel
theorem dX11_measures_106 : decode cX11_measures 106 = .ok (.iload_n 1, 1) := by decide +kernel
theorem dX11_measures_107 : decode cX11_measures 107 = .ok (.iaload, 1) := by decide +kernel
theorem dX11_measures_108 : decode cX11_measures 108 = .ok (.aload_n 0, 1) := by decide +kernel
theorem dX11_measures_109 : decode cX11_measures 109 = .ok (.getfield 118, 3) := by decide +kernel
theorem dX11_measures_112 : decode cX11_measures 112 = .ok (.iload_n 1, 1) := by decide +kernel
theorem dX11_measures_113 : decode cX11_measures 113 = .ok (.iaload, 1) := by decide +kernel
theorem dX11_measures_114 : decode cX11_measures 114 = .ok (.bipush 8, 2) := by decide +kernel
theorem dX11_measures_116 : decode cX11_measures 116 = .ok (.idiv, 1) := by decide +kernel
theorem dX11_measures_117 : decode cX11_measures 117 = .ok (.isub, 1) := by decide +kernel
theorem dX11_measures_118 : decode cX11_measures 118 = .ok (.iload_n 3, 1) := by decide +kernel
theorem dX11_measures_119 : decode cX11_measures 119 = .ok (.iadd, 1) := by decide +kernel
theorem dX11_measures_120 : decode cX11_measures 120 = .ok (.iastore, 1) := by decide +kernel
theorem dX11_measures_121 : decode cX11_measures 121 = .ok (.goto 29, 3) := by decide +kernel
theorem dX11_measures_124 : decode cX11_measures 124 = .ok (.aload_n 0, 1) := by decide +kernel
theorem dX11_measures_125 : decode cX11_measures 125 = .ok (.getfield 124, 3) := by decide +kernel
theorem dX11_measures_128 : decode cX11_measures 128 = .ok (.iload_n 1, 1) := by decide +kernel
theorem dX11_measures_129 : decode cX11_measures 129 = .ok (.iconst 1, 1) := by decide +kernel
theorem dX11_measures_130 : decode cX11_measures 130 = .ok (.bastore, 1) := by decide +kernel
theorem dX11_measures_131 : decode cX11_measures 131 = .ok (.aload_n 0, 1) := by decide +kernel
theorem dX11_measures_132 : decode cX11_measures 132 = .ok (.getfield 118, 3) := by decide +kernel
theorem dX11_measures_135 : decode cX11_measures 135 = .ok (.iload_n 1, 1) := by decide +kernel
theorem dX11_measures_136 : decode cX11_measures 136 = .ok (.bipush 8, 2) := by decide +kernel
theorem dX11_measures_138 : decode cX11_measures 138 = .ok (.iload_n 3, 1) := by decide +kernel
theorem dX11_measures_139 : decode cX11_measures 139 = .ok (.imul, 1) := by decide +kernel
theorem dX11_measures_140 : decode cX11_measures 140 = .ok (.iastore, 1) := by decide +kernel
theorem dX11_measures_141 : decode cX11_measures 141 = .ok (.aload_n 0, 1) := by decide +kernel
theorem dX11_measures_142 : decode cX11_measures 142 = .ok (.getfield 121, 3) := by decide +kernel
theorem dX11_measures_145 : decode cX11_measures 145 = .ok (.iload_n 1, 1) := by decide +kernel
theorem dX11_measures_146 : decode cX11_measures 146 = .ok (.iconst 2, 1) := by decide +kernel
theorem dX11_measures_147 : decode cX11_measures 147 = .ok (.iload_n 3, 1) := by decide +kernel
theorem dX11_measures_148 : decode cX11_measures 148 = .ok (.imul, 1) := by decide +kernel
theorem dX11_measures_149 : decode cX11_measures 149 = .ok (.iastore, 1) := by decide +kernel
theorem dX11_measures_150 : decode cX11_measures 150 = .ok (.aload_n 0, 1) := by decide +kernel
theorem dX11_measures_151 : decode cX11_measures 151 = .ok (.getfield 118, 3) := by decide +kernel
theorem dX11_measures_154 : decode cX11_measures 154 = .ok (.iload_n 1, 1) := by decide +kernel
theorem dX11_measures_155 : decode cX11_measures 155 = .ok (.iaload, 1) := by decide +kernel
theorem dX11_measures_156 : decode cX11_measures 156 = .ok (.bipush 8, 2) := by decide +kernel
theorem dX11_measures_158 : decode cX11_measures 158 = .ok (.idiv, 1) := by decide +kernel
theorem dX11_measures_159 : decode cX11_measures 159 = .ok (.aload_n 0, 1) := by decide +kernel
theorem dX11_measures_160 : decode cX11_measures 160 = .ok (.getfield 121, 3) := by decide +kernel
theorem dX11_measures_163 : decode cX11_measures 163 = .ok (.iload_n 1, 1) := by decide +kernel
theorem dX11_measures_164 : decode cX11_measures 164 = .ok (.iaload, 1) := by decide +kernel
theorem dX11_measures_165 : decode cX11_measures 165 = .ok (.iconst 1, 1) := by decide +kernel
theorem dX11_measures_166 : decode cX11_measures 166 = .ok (.if_icmp .le 12, 3) := by decide +kernel
theorem dX11_measures_169 : decode cX11_measures 169 = .ok (.aload_n 0, 1) := by decide +kernel
theorem dX11_measures_170 : decode cX11_measures 170 = .ok (.getfield 121, 3) := by decide +kernel
theorem dX11_measures_173 : decode cX11_measures 173 = .ok (.iload_n 1, 1) := by decide +kernel
theorem dX11_measures_174 : decode cX11_measures 174 = .ok (.iaload, 1) := by decide +kernel
theorem dX11_measures_175 : decode cX11_measures 175 = .ok (.goto 4, 3) := by decide +kernel
theorem dX11_measures_178 : decode cX11_measures 178 = .ok (.iconst 1, 1) := by decide +kernel
theorem dX11_measures_179 : decode cX11_measures 179 = .ok (.iadd, 1) := by decide +kernel
theorem dX11_measures_180 : decode cX11_measures 180 = .ok (.istore 4, 2) := by decide +kernel
theorem dX11_measures_182 : decode cX11_measures 182 = .ok (.aload_n 0, 1) := by decide +kernel
theorem dX11_measures_183 : decode cX11_measures 183 = .ok (.getfield 115, 3) := by decide +kernel
theorem dX11_measures_186 : decode cX11_measures 186 = .ok (.iload_n 1, 1) := by decide +kernel
theorem dX11_measures_187 : decode cX11_measures 187 = .ok (.iload 4, 2) := by decide +kernel
theorem dX11_measures_189 : decode cX11_measures 189 = .ok (.sipush 200, 3) := by decide +kernel
theorem dX11_measures_192 : decode cX11_measures 192 = .ok (.if_icmp .ge 9, 3) := by decide +kernel
theorem dX11_measures_195 : decode cX11_measures 195 = .ok (.sipush 200, 3) := by decide +kernel
theorem dX11_measures_198 : decode cX11_measures 198 = .ok (.goto 19, 3) := by decide +kernel
theorem dX11_measures_201 : decode cX11_measures 201 = .ok (.iload 4, 2) := by decide +kernel
theorem dX11_measures_203 : decode cX11_measures 203 = .ok (.ldc_w 293, 3) := by decide +kernel
theorem dX11_measures_206 : decode cX11_measures 206 = .ok (.if_icmp .le 9, 3) := by decide +kernel
theorem dX11_measures_209 : decode cX11_measures 209 = .ok (.ldc_w 293, 3) := by decide +kernel
theorem dX11_measures_212 : decode cX11_measures 212 = .ok (.goto 5, 3) := by decide +kernel
theorem dX11_measures_215 : decode cX11_measures 215 = .ok (.iload 4, 2) := by decide +kernel
theorem dX11_measures_217 : decode cX11_measures 217 = .ok (.iastore, 1) := by decide +kernel
theorem dX11_measures_218 : decode cX11_measures 218 = .ok (.return_, 1) := by decide +kernel
theorem dX11_opens_0 : decode cX11_opens 0 = .ok (.aload_n 0, 1) := by decide +kernel
theorem dX11_opens_1 : decode cX11_opens 1 = .ok (.getfield 109, 3) := by decide +kernel
theorem dX11_opens_4 : decode cX11_opens 4 = .ok (.iload_n 1, 1) := by decide +kernel
theorem dX11_opens_5 : decode cX11_opens 5 = .ok (.iload_n 2, 1) := by decide +kernel
theorem dX11_opens_6 : decode cX11_opens 6 = .ok (.ldc_w 294, 3) := by decide +kernel
theorem dX11_opens_9 : decode cX11_opens 9 = .ok (.if_icmp .le 9, 3) := by decide +kernel
theorem dX11_opens_12 : decode cX11_opens 12 = .ok (.ldc_w 294, 3) := by decide +kernel
theorem dX11_opens_15 : decode cX11_opens 15 = .ok (.goto 4, 3) := by decide +kernel
theorem dX11_opens_18 : decode cX11_opens 18 = .ok (.iload_n 2, 1) := by decide +kernel
theorem dX11_opens_19 : decode cX11_opens 19 = .ok (.iastore, 1) := by decide +kernel
theorem dX11_opens_20 : decode cX11_opens 20 = .ok (.aload_n 0, 1) := by decide +kernel
theorem dX11_opens_21 : decode cX11_opens 21 = .ok (.getfield 172, 3) := by decide +kernel
theorem dX11_opens_24 : decode cX11_opens 24 = .ok (.iload_n 1, 1) := by decide +kernel
theorem dX11_opens_25 : decode cX11_opens 25 = .ok (.aload_n 0, 1) := by decide +kernel
theorem dX11_opens_26 : decode cX11_opens 26 = .ok (.getfield 109, 3) := by decide +kernel
theorem dX11_opens_29 : decode cX11_opens 29 = .ok (.iload_n 1, 1) := by decide +kernel
theorem dX11_opens_30 : decode cX11_opens 30 = .ok (.iaload, 1) := by decide +kernel
theorem dX11_opens_31 : decode cX11_opens 31 = .ok (.aload_n 0, 1) := by decide +kernel
theorem dX11_opens_32 : decode cX11_opens 32 = .ok (.getfield 172, 3) := by decide +kernel
theorem dX11_opens_35 : decode cX11_opens 35 = .ok (.iload_n 1, 1) := by decide +kernel
theorem dX11_opens_36 : decode cX11_opens 36 = .ok (.iaload, 1) := by decide +kernel
theorem dX11_opens_37 : decode cX11_opens 37 = .ok (.if_icmp .le 12, 3) := by decide +kernel
theorem dX11_opens_40 : decode cX11_opens 40 = .ok (.aload_n 0, 1) := by decide +kernel
theorem dX11_opens_41 : decode cX11_opens 41 = .ok (.getfield 109, 3) := by decide +kernel
theorem dX11_opens_44 : decode cX11_opens 44 = .ok (.iload_n 1, 1) := by decide +kernel
theorem dX11_opens_45 : decode cX11_opens 45 = .ok (.iaload, 1) := by decide +kernel
theorem dX11_opens_46 : decode cX11_opens 46 = .ok (.goto 9, 3) := by decide +kernel
theorem dX11_opens_49 : decode cX11_opens 49 = .ok (.aload_n 0, 1) := by decide +kernel
theorem dX11_opens_50 : decode cX11_opens 50 = .ok (.getfield 172, 3) := by decide +kernel
theorem dX11_opens_53 : decode cX11_opens 53 = .ok (.iload_n 1, 1) := by decide +kernel
theorem dX11_opens_54 : decode cX11_opens 54 = .ok (.iaload, 1) := by decide +kernel
theorem dX11_opens_55 : decode cX11_opens 55 = .ok (.iastore, 1) := by decide +kernel
theorem dX11_opens_56 : decode cX11_opens 56 = .ok (.return_, 1) := by decide +kernel
theorem dX11_moreTold_0 : decode cX11_moreTold 0 = .ok (.aload_n 0, 1) := by decide +kernel
theorem dX11_moreTold_1 : decode cX11_moreTold 1 = .ok (.getfield 130, 3) := by decide +kernel
theorem dX11_moreTold_4 : decode cX11_moreTold 4 = .ok (.iload_n 1, 1) := by decide +kernel
theorem dX11_moreTold_5 : decode cX11_moreTold 5 = .ok (.baload, 1) := by decide +kernel
theorem dX11_moreTold_6 : decode cX11_moreTold 6 = .ok (.ifCond .ne 49, 3) := by decide +kernel
theorem dX11_moreTold_9 : decode cX11_moreTold 9 = .ok (.aload_n 0, 1) := by decide +kernel
theorem dX11_moreTold_10 : decode cX11_moreTold 10 = .ok (.getfield 127, 3) := by decide +kernel
theorem dX11_moreTold_13 : decode cX11_moreTold 13 = .ok (.iload_n 1, 1) := by decide +kernel
theorem dX11_moreTold_14 : decode cX11_moreTold 14 = .ok (.iconst 0, 1) := by decide +kernel
theorem dX11_moreTold_15 : decode cX11_moreTold 15 = .ok (.iastore, 1) := by decide +kernel
theorem dX11_moreTold_16 : decode cX11_moreTold 16 = .ok (.aload_n 0, 1) := by decide +kernel
theorem dX11_moreTold_17 : decode cX11_moreTold 17 = .ok (.getfield 109, 3) := by decide +kernel
theorem dX11_moreTold_20 : decode cX11_moreTold 20 = .ok (.iload_n 1, 1) := by decide +kernel
theorem dX11_moreTold_21 : decode cX11_moreTold 21 = .ok (.iaload, 1) := by decide +kernel
theorem dX11_moreTold_22 : decode cX11_moreTold 22 = .ok (.aload_n 0, 1) := by decide +kernel
theorem dX11_moreTold_23 : decode cX11_moreTold 23 = .ok (.getfield 112, 3) := by decide +kernel
theorem dX11_moreTold_26 : decode cX11_moreTold 26 = .ok (.iload_n 1, 1) := by decide +kernel
theorem dX11_moreTold_27 : decode cX11_moreTold 27 = .ok (.iaload, 1) := by decide +kernel
theorem dX11_moreTold_28 : decode cX11_moreTold 28 = .ok (.if_icmp .ge 21, 3) := by decide +kernel
theorem dX11_moreTold_31 : decode cX11_moreTold 31 = .ok (.aload_n 0, 1) := by decide +kernel
theorem dX11_moreTold_32 : decode cX11_moreTold 32 = .ok (.iload_n 1, 1) := by decide +kernel
theorem dX11_moreTold_33 : decode cX11_moreTold 33 = .ok (.aload_n 0, 1) := by decide +kernel
theorem dX11_moreTold_34 : decode cX11_moreTold 34 = .ok (.getfield 109, 3) := by decide +kernel
theorem dX11_moreTold_37 : decode cX11_moreTold 37 = .ok (.iload_n 1, 1) := by decide +kernel
theorem dX11_moreTold_38 : decode cX11_moreTold 38 = .ok (.iaload, 1) := by decide +kernel
theorem dX11_moreTold_39 : decode cX11_moreTold 39 = .ok (.sipush 1024, 3) := by decide +kernel
theorem dX11_moreTold_42 : decode cX11_moreTold 42 = .ok (.iadd, 1) := by decide +kernel
theorem dX11_moreTold_43 : decode cX11_moreTold 43 = .ok (.invokevirtual 295, 3) := by decide +kernel
theorem dX11_moreTold_46 : decode cX11_moreTold 46 = .ok (.goto 8, 3) := by decide +kernel
theorem dX11_moreTold_49 : decode cX11_moreTold 49 = .ok (.aload_n 0, 1) := by decide +kernel
theorem dX11_moreTold_50 : decode cX11_moreTold 50 = .ok (.iload_n 1, 1) := by decide +kernel
theorem dX11_moreTold_51 : decode cX11_moreTold 51 = .ok (.invokevirtual 298, 3) := by decide +kernel
theorem dX11_moreTold_54 : decode cX11_moreTold 54 = .ok (.return_, 1) := by decide +kernel
theorem dX11_moreTold_55 : decode cX11_moreTold 55 = .ok (.aload_n 0, 1) := by decide +kernel
theorem dX11_moreTold_56 : decode cX11_moreTold 56 = .ok (.getfield 94, 3) := by decide +kernel
theorem dX11_moreTold_59 : decode cX11_moreTold 59 = .ok (.iload_n 1, 1) := by decide +kernel
theorem dX11_moreTold_60 : decode cX11_moreTold 60 = .ok (.iaload, 1) := by decide +kernel
theorem dX11_moreTold_61 : decode cX11_moreTold 61 = .ok (.ifCond .eq 13, 3) := by decide +kernel
theorem dX11_moreTold_64 : decode cX11_moreTold 64 = .ok (.iload_n 2, 1) := by decide +kernel
theorem dX11_moreTold_65 : decode cX11_moreTold 65 = .ok (.aload_n 0, 1) := by decide +kernel
theorem dX11_moreTold_66 : decode cX11_moreTold 66 = .ok (.getfield 133, 3) := by decide +kernel
theorem dX11_moreTold_69 : decode cX11_moreTold 69 = .ok (.iload_n 1, 1) := by decide +kernel
theorem dX11_moreTold_70 : decode cX11_moreTold 70 = .ok (.iaload, 1) := by decide +kernel
theorem dX11_moreTold_71 : decode cX11_moreTold 71 = .ok (.if_icmp .lt 29, 3) := by decide +kernel
theorem dX11_moreTold_74 : decode cX11_moreTold 74 = .ok (.aload_n 0, 1) := by decide +kernel
theorem dX11_moreTold_75 : decode cX11_moreTold 75 = .ok (.iload_n 1, 1) := by decide +kernel
theorem dX11_moreTold_76 : decode cX11_moreTold 76 = .ok (.aload_n 0, 1) := by decide +kernel
theorem dX11_moreTold_77 : decode cX11_moreTold 77 = .ok (.getfield 112, 3) := by decide +kernel
theorem dX11_moreTold_80 : decode cX11_moreTold 80 = .ok (.iload_n 1, 1) := by decide +kernel
theorem dX11_moreTold_81 : decode cX11_moreTold 81 = .ok (.iaload, 1) := by decide +kernel
theorem dX11_moreTold_82 : decode cX11_moreTold 82 = .ok (.invokevirtual 295, 3) := by decide +kernel
theorem dX11_moreTold_85 : decode cX11_moreTold 85 = .ok (.aload_n 0, 1) := by decide +kernel
theorem dX11_moreTold_86 : decode cX11_moreTold 86 = .ok (.getfield 130, 3) := by decide +kernel
theorem dX11_moreTold_89 : decode cX11_moreTold 89 = .ok (.iload_n 1, 1) := by decide +kernel
theorem dX11_moreTold_90 : decode cX11_moreTold 90 = .ok (.iconst 0, 1) := by decide +kernel
theorem dX11_moreTold_91 : decode cX11_moreTold 91 = .ok (.bastore, 1) := by decide +kernel
theorem dX11_moreTold_92 : decode cX11_moreTold 92 = .ok (.aload_n 0, 1) := by decide +kernel
theorem dX11_moreTold_93 : decode cX11_moreTold 93 = .ok (.getfield 127, 3) := by decide +kernel
theorem dX11_moreTold_96 : decode cX11_moreTold 96 = .ok (.iload_n 1, 1) := by decide +kernel
theorem dX11_moreTold_97 : decode cX11_moreTold 97 = .ok (.iconst 0, 1) := by decide +kernel
theorem dX11_moreTold_98 : decode cX11_moreTold 98 = .ok (.iastore, 1) := by decide +kernel
theorem dX11_moreTold_99 : decode cX11_moreTold 99 = .ok (.return_, 1) := by decide +kernel
theorem dX11_moreTold_100 : decode cX11_moreTold 100 = .ok (.aload_n 0, 1) := by decide +kernel
theorem dX11_moreTold_101 : decode cX11_moreTold 101 = .ok (.getfield 94, 3) := by decide +kernel
theorem dX11_moreTold_104 : decode cX11_moreTold 104 = .ok (.iload_n 1, 1) := by decide +kernel
theorem dX11_moreTold_105 : decode cX11_moreTold 105 = .ok (.iaload, 1) := by decide +kernel
theorem dX11_moreTold_106 : decode cX11_moreTold 106 = .ok (.iconst 3, 1) := by decide +kernel
theorem dX11_moreTold_107 : decode cX11_moreTold 107 = .ok (.if_icmp .ne 4, 3) := by decide +kernel
theorem dX11_moreTold_110 : decode cX11_moreTold 110 = .ok (.return_, 1) := by decide +kernel
theorem dX11_moreTold_111 : decode cX11_moreTold 111 = .ok (.aload_n 0, 1) := by decide +kernel
theorem dX11_moreTold_112 : decode cX11_moreTold 112 = .ok (.iload_n 1, 1) := by decide +kernel
theorem dX11_moreTold_113 : decode cX11_moreTold 113 = .ok (.aload_n 0, 1) := by decide +kernel
theorem dX11_moreTold_114 : decode cX11_moreTold 114 = .ok (.getfield 100, 3) := by decide +kernel
theorem dX11_moreTold_117 : decode cX11_moreTold 117 = .ok (.iload_n 1, 1) := by decide +kernel
theorem dX11_moreTold_118 : decode cX11_moreTold 118 = .ok (.iaload, 1) := by decide +kernel
theorem dX11_moreTold_119 : decode cX11_moreTold 119 = .ok (.invokevirtual 301, 3) := by decide +kernel
theorem dX11_moreTold_122 : decode cX11_moreTold 122 = .ok (.aload_n 0, 1) := by decide +kernel
theorem dX11_moreTold_123 : decode cX11_moreTold 123 = .ok (.getfield 109, 3) := by decide +kernel
theorem dX11_moreTold_126 : decode cX11_moreTold 126 = .ok (.iload_n 1, 1) := by decide +kernel
theorem dX11_moreTold_127 : decode cX11_moreTold 127 = .ok (.iaload, 1) := by decide +kernel
theorem dX11_moreTold_128 : decode cX11_moreTold 128 = .ok (.sipush 1024, 3) := by decide +kernel
theorem dX11_moreTold_131 : decode cX11_moreTold 131 = .ok (.iload_n 3, 1) := by decide +kernel
theorem dX11_moreTold_132 : decode cX11_moreTold 132 = .ok (.imul, 1) := by decide +kernel
theorem dX11_moreTold_133 : decode cX11_moreTold 133 = .ok (.isub, 1) := by decide +kernel
theorem dX11_moreTold_134 : decode cX11_moreTold 134 = .ok (.sipush 1024, 3) := by decide +kernel
theorem dX11_moreTold_137 : decode cX11_moreTold 137 = .ok (.iadd, 1) := by decide +kernel
theorem dX11_moreTold_138 : decode cX11_moreTold 138 = .ok (.istore 4, 2) := by decide +kernel
theorem dX11_moreTold_140 : decode cX11_moreTold 140 = .ok (.aload_n 0, 1) := by decide +kernel
theorem dX11_moreTold_141 : decode cX11_moreTold 141 = .ok (.iload_n 1, 1) := by decide +kernel
theorem dX11_moreTold_142 : decode cX11_moreTold 142 = .ok (.iload 4, 2) := by decide +kernel
theorem dX11_moreTold_144 : decode cX11_moreTold 144 = .ok (.sipush 1024, 3) := by decide +kernel
theorem dX11_moreTold_147 : decode cX11_moreTold 147 = .ok (.if_icmp .ge 9, 3) := by decide +kernel
theorem dX11_moreTold_150 : decode cX11_moreTold 150 = .ok (.sipush 1024, 3) := by decide +kernel
theorem dX11_moreTold_153 : decode cX11_moreTold 153 = .ok (.goto 5, 3) := by decide +kernel
theorem dX11_moreTold_156 : decode cX11_moreTold 156 = .ok (.iload 4, 2) := by decide +kernel
theorem dX11_moreTold_158 : decode cX11_moreTold 158 = .ok (.invokevirtual 295, 3) := by decide +kernel
theorem dX11_moreTold_161 : decode cX11_moreTold 161 = .ok (.return_, 1) := by decide +kernel
theorem dX11_duplicate_0 : decode cX11_duplicate 0 = .ok (.aload_n 0, 1) := by decide +kernel
theorem dX11_duplicate_1 : decode cX11_duplicate 1 = .ok (.getfield 127, 3) := by decide +kernel
theorem dX11_duplicate_4 : decode cX11_duplicate 4 = .ok (.iload_n 1, 1) := by decide +kernel
theorem dX11_duplicate_5 : decode cX11_duplicate 5 = .ok (.dup2, 1) := by decide +kernel
theorem dX11_duplicate_6 : decode cX11_duplicate 6 = .ok (.iaload, 1) := by decide +kernel
theorem dX11_duplicate_7 : decode cX11_duplicate 7 = .ok (.iconst 1, 1) := by decide +kernel
theorem dX11_duplicate_8 : decode cX11_duplicate 8 = .ok (.iadd, 1) := by decide +kernel
theorem dX11_duplicate_9 : decode cX11_duplicate 9 = .ok (.iastore, 1) := by decide +kernel
theorem dX11_duplicate_10 : decode cX11_duplicate 10 = .ok (.aload_n 0, 1) := by decide +kernel
theorem dX11_duplicate_11 : decode cX11_duplicate 11 = .ok (.getfield 130, 3) := by decide +kernel
theorem dX11_duplicate_14 : decode cX11_duplicate 14 = .ok (.iload_n 1, 1) := by decide +kernel
theorem dX11_duplicate_15 : decode cX11_duplicate 15 = .ok (.baload, 1) := by decide +kernel
theorem dX11_duplicate_16 : decode cX11_duplicate 16 = .ok (.ifCond .eq 29, 3) := by decide +kernel
theorem dX11_duplicate_19 : decode cX11_duplicate 19 = .ok (.aload_n 0, 1) := by decide +kernel
theorem dX11_duplicate_20 : decode cX11_duplicate 20 = .ok (.getfield 94, 3) := by decide +kernel
theorem dX11_duplicate_23 : decode cX11_duplicate 23 = .ok (.iload_n 1, 1) := by decide +kernel
theorem dX11_duplicate_24 : decode cX11_duplicate 24 = .ok (.iaload, 1) := by decide +kernel
theorem dX11_duplicate_25 : decode cX11_duplicate 25 = .ok (.iconst 3, 1) := by decide +kernel
theorem dX11_duplicate_26 : decode cX11_duplicate 26 = .ok (.if_icmp .eq 18, 3) := by decide +kernel
theorem dX11_duplicate_29 : decode cX11_duplicate 29 = .ok (.aload_n 0, 1) := by decide +kernel
theorem dX11_duplicate_30 : decode cX11_duplicate 30 = .ok (.iload_n 1, 1) := by decide +kernel
theorem dX11_duplicate_31 : decode cX11_duplicate 31 = .ok (.aload_n 0, 1) := by decide +kernel
theorem dX11_duplicate_32 : decode cX11_duplicate 32 = .ok (.getfield 109, 3) := by decide +kernel
theorem dX11_duplicate_35 : decode cX11_duplicate 35 = .ok (.iload_n 1, 1) := by decide +kernel
theorem dX11_duplicate_36 : decode cX11_duplicate 36 = .ok (.iaload, 1) := by decide +kernel
theorem dX11_duplicate_37 : decode cX11_duplicate 37 = .ok (.sipush 1024, 3) := by decide +kernel
theorem dX11_duplicate_40 : decode cX11_duplicate 40 = .ok (.iadd, 1) := by decide +kernel
theorem dX11_duplicate_41 : decode cX11_duplicate 41 = .ok (.invokevirtual 295, 3) := by decide +kernel
theorem dX11_duplicate_44 : decode cX11_duplicate 44 = .ok (.return_, 1) := by decide +kernel
theorem dX11_duplicate_45 : decode cX11_duplicate 45 = .ok (.aload_n 0, 1) := by decide +kernel
theorem dX11_duplicate_46 : decode cX11_duplicate 46 = .ok (.getfield 127, 3) := by decide +kernel
theorem dX11_duplicate_49 : decode cX11_duplicate 49 = .ok (.iload_n 1, 1) := by decide +kernel
theorem dX11_duplicate_50 : decode cX11_duplicate 50 = .ok (.iaload, 1) := by decide +kernel
theorem dX11_duplicate_51 : decode cX11_duplicate 51 = .ok (.iconst 3, 1) := by decide +kernel
theorem dX11_duplicate_52 : decode cX11_duplicate 52 = .ok (.if_icmp .ne 27, 3) := by decide +kernel
theorem dX11_duplicate_55 : decode cX11_duplicate 55 = .ok (.aload_n 0, 1) := by decide +kernel
theorem dX11_duplicate_56 : decode cX11_duplicate 56 = .ok (.getfield 94, 3) := by decide +kernel
theorem dX11_duplicate_59 : decode cX11_duplicate 59 = .ok (.iload_n 1, 1) := by decide +kernel
theorem dX11_duplicate_60 : decode cX11_duplicate 60 = .ok (.iaload, 1) := by decide +kernel
theorem dX11_duplicate_61 : decode cX11_duplicate 61 = .ok (.ifCond .eq 19, 3) := by decide +kernel
theorem dX11_duplicate_64 : decode cX11_duplicate 64 = .ok (.aload_n 0, 1) := by decide +kernel
theorem dX11_duplicate_65 : decode cX11_duplicate 65 = .ok (.getfield 100, 3) := by decide +kernel
theorem dX11_duplicate_68 : decode cX11_duplicate 68 = .ok (.iload_n 1, 1) := by decide +kernel
theorem dX11_duplicate_69 : decode cX11_duplicate 69 = .ok (.iaload, 1) := by decide +kernel
theorem dX11_duplicate_70 : decode cX11_duplicate 70 = .ok (.aload_n 0, 1) := by decide +kernel
theorem dX11_duplicate_71 : decode cX11_duplicate 71 = .ok (.getfield 133, 3) := by decide +kernel
theorem dX11_duplicate_74 : decode cX11_duplicate 74 = .ok (.iload_n 1, 1) := by decide +kernel
theorem dX11_duplicate_75 : decode cX11_duplicate 75 = .ok (.iaload, 1) := by decide +kernel
theorem dX11_duplicate_76 : decode cX11_duplicate 76 = .ok (.if_icmp .ge 4, 3) := by decide +kernel
theorem dX11_duplicate_79 : decode cX11_duplicate 79 = .ok (.return_, 1) := by decide +kernel
theorem dX11_duplicate_80 : decode cX11_duplicate 80 = .ok (.aload_n 0, 1) := by decide +kernel
theorem dX11_duplicate_81 : decode cX11_duplicate 81 = .ok (.getfield 130, 3) := by decide +kernel
theorem dX11_duplicate_84 : decode cX11_duplicate 84 = .ok (.iload_n 1, 1) := by decide +kernel
theorem dX11_duplicate_85 : decode cX11_duplicate 85 = .ok (.iconst 1, 1) := by decide +kernel
theorem dX11_duplicate_86 : decode cX11_duplicate 86 = .ok (.bastore, 1) := by decide +kernel
theorem dX11_duplicate_87 : decode cX11_duplicate 87 = .ok (.aload_n 0, 1) := by decide +kernel
theorem dX11_duplicate_88 : decode cX11_duplicate 88 = .ok (.getfield 142, 3) := by decide +kernel
theorem dX11_duplicate_91 : decode cX11_duplicate 91 = .ok (.iload_n 1, 1) := by decide +kernel
theorem dX11_duplicate_92 : decode cX11_duplicate 92 = .ok (.dup2, 1) := by decide +kernel
theorem dX11_duplicate_93 : decode cX11_duplicate 93 = .ok (.iaload, 1) := by decide +kernel
theorem dX11_duplicate_94 : decode cX11_duplicate 94 = .ok (.iconst 1, 1) := by decide +kernel
theorem dX11_duplicate_95 : decode cX11_duplicate 95 = .ok (.iadd, 1) := by decide +kernel
theorem dX11_duplicate_96 : decode cX11_duplicate 96 = .ok (.iastore, 1) := by decide +kernel
theorem dX11_duplicate_97 : decode cX11_duplicate 97 = .ok (.aload_n 0, 1) := by decide +kernel
theorem dX11_duplicate_98 : decode cX11_duplicate 98 = .ok (.iload_n 1, 1) := by decide +kernel
theorem dX11_duplicate_99 : decode cX11_duplicate 99 = .ok (.invokevirtual 304, 3) := by decide +kernel
theorem dX11_duplicate_102 : decode cX11_duplicate 102 = .ok (.aload_n 0, 1) := by decide +kernel
theorem dX11_duplicate_103 : decode cX11_duplicate 103 = .ok (.getfield 133, 3) := by decide +kernel
theorem dX11_duplicate_106 : decode cX11_duplicate 106 = .ok (.iload_n 1, 1) := by decide +kernel
theorem dX11_duplicate_107 : decode cX11_duplicate 107 = .ok (.aload_n 0, 1) := by decide +kernel
theorem dX11_duplicate_108 : decode cX11_duplicate 108 = .ok (.getfield 106, 3) := by decide +kernel
theorem dX11_duplicate_111 : decode cX11_duplicate 111 = .ok (.iload_n 1, 1) := by decide +kernel
theorem dX11_duplicate_112 : decode cX11_duplicate 112 = .ok (.iaload, 1) := by decide +kernel
theorem dX11_duplicate_113 : decode cX11_duplicate 113 = .ok (.iastore, 1) := by decide +kernel
theorem dX11_duplicate_114 : decode cX11_duplicate 114 = .ok (.iconst 0, 1) := by decide +kernel
theorem dX11_duplicate_115 : decode cX11_duplicate 115 = .ok (.istore_n 2, 1) := by decide +kernel
theorem dX11_duplicate_116 : decode cX11_duplicate 116 = .ok (.iload_n 2, 1) := by decide +kernel
theorem dX11_duplicate_117 : decode cX11_duplicate 117 = .ok (.sipush 512, 3) := by decide +kernel
theorem dX11_duplicate_120 : decode cX11_duplicate 120 = .ok (.if_icmp .ge 22, 3) := by decide +kernel
theorem dX11_duplicate_123 : decode cX11_duplicate 123 = .ok (.aload_n 0, 1) := by decide +kernel
theorem dX11_duplicate_124 : decode cX11_duplicate 124 = .ok (.getfield 184, 3) := by decide +kernel
theorem dX11_duplicate_127 : decode cX11_duplicate 127 = .ok (.sipush 512, 3) := by decide +kernel
theorem dX11_duplicate_130 : decode cX11_duplicate 130 = .ok (.iload_n 1, 1) := by decide +kernel
theorem dX11_duplicate_131 : decode cX11_duplicate 131 = .ok (.imul, 1) := by decide +kernel
theorem dX11_duplicate_132 : decode cX11_duplicate 132 = .ok (.iload_n 2, 1) := by decide +kernel
theorem dX11_duplicate_133 : decode cX11_duplicate 133 = .ok (.iadd, 1) := by decide +kernel
theorem dX11_duplicate_134 : decode cX11_duplicate 134 = .ok (.iconst 0, 1) := by decide +kernel
theorem dX11_duplicate_135 : decode cX11_duplicate 135 = .ok (.bastore, 1) := by decide +kernel
theorem dX11_duplicate_136 : decode cX11_duplicate 136 = .ok (.iinc 2 1, 3) := by decide +kernel
theorem dX11_duplicate_139 : decode cX11_duplicate 139 = .ok (.goto (-23), 3) := by decide +kernel
theorem dX11_duplicate_142 : decode cX11_duplicate 142 = .ok (.aload_n 0, 1) := by decide +kernel
theorem dX11_duplicate_143 : decode cX11_duplicate 143 = .ok (.getfield 136, 3) := by decide +kernel
theorem dX11_duplicate_146 : decode cX11_duplicate 146 = .ok (.iload_n 1, 1) := by decide +kernel
theorem dX11_duplicate_147 : decode cX11_duplicate 147 = .ok (.aload_n 0, 1) := by decide +kernel
theorem dX11_duplicate_148 : decode cX11_duplicate 148 = .ok (.getfield 100, 3) := by decide +kernel
theorem dX11_duplicate_151 : decode cX11_duplicate 151 = .ok (.iload_n 1, 1) := by decide +kernel
theorem dX11_duplicate_152 : decode cX11_duplicate 152 = .ok (.iaload, 1) := by decide +kernel
theorem dX11_duplicate_153 : decode cX11_duplicate 153 = .ok (.iastore, 1) := by decide +kernel
theorem dX11_duplicate_154 : decode cX11_duplicate 154 = .ok (.aload_n 0, 1) := by decide +kernel
theorem dX11_duplicate_155 : decode cX11_duplicate 155 = .ok (.iload_n 1, 1) := by decide +kernel
theorem dX11_duplicate_156 : decode cX11_duplicate 156 = .ok (.aload_n 0, 1) := by decide +kernel
theorem dX11_duplicate_157 : decode cX11_duplicate 157 = .ok (.getfield 100, 3) := by decide +kernel
