theorem dX8_tellMore_0 : decode cX8_tellMore 0 = .ok (.iload_n 1, 1) := by decide +kernel
theorem dX8_tellMore_1 : decode cX8_tellMore 1 = .ok (.tableswitch 105 10 18 #[51, 56, 61, 66, 71, 79, 84, 92, 100], 51) := by decide +kernel
theorem dX8_tellMore_52 : decode cX8_tellMore 52 = .ok (.aload_n 0, 1) := by decide +kernel
theorem dX8_tellMore_53 : decode cX8_tellMore 53 = .ok (.getfield 150, 3) := by decide +kernel
theorem dX8_tellMore_56 : decode cX8_tellMore 56 = .ok (.ireturn, 1) := by decide +kernel
theorem dX8_tellMore_57 : decode cX8_tellMore 57 = .ok (.aload_n 0, 1) := by decide +kernel
theorem dX8_tellMore_58 : decode cX8_tellMore 58 = .ok (.getfield 153, 3) := by decide +kernel
theorem dX8_tellMore_61 : decode cX8_tellMore 61 = .ok (.ireturn, 1) := by decide +kernel
theorem dX8_tellMore_62 : decode cX8_tellMore 62 = .ok (.aload_n 0, 1) := by decide +kernel
theorem dX8_tellMore_63 : decode cX8_tellMore 63 = .ok (.getfield 156, 3) := by decide +kernel
theorem dX8_tellMore_66 : decode cX8_tellMore 66 = .ok (.ireturn, 1) := by decide +kernel
theorem dX8_tellMore_67 : decode cX8_tellMore 67 = .ok (.aload_n 0, 1) := by decide +kernel
theorem dX8_tellMore_68 : decode cX8_tellMore 68 = .ok (.getfield 22, 3) := by decide +kernel
theorem dX8_tellMore_71 : decode cX8_tellMore 71 = .ok (.ireturn, 1) := by decide +kernel
theorem dX8_tellMore_72 : decode cX8_tellMore 72 = .ok (.aload_n 0, 1) := by decide +kernel
theorem dX8_tellMore_73 : decode cX8_tellMore 73 = .ok (.getfield 28, 3) := by decide +kernel
theorem dX8_tellMore_76 : decode cX8_tellMore 76 = .ok (.getfield 114, 3) := by decide +kernel
theorem dX8_tellMore_79 : decode cX8_tellMore 79 = .ok (.ireturn, 1) := by decide +kernel
theorem dX8_tellMore_80 : decode cX8_tellMore 80 = .ok (.aload_n 0, 1) := by decide +kernel
theorem dX8_tellMore_81 : decode cX8_tellMore 81 = .ok (.getfield 159, 3) := by decide +kernel
theorem dX8_tellMore_84 : decode cX8_tellMore 84 = .ok (.ireturn, 1) := by decide +kernel
theorem dX8_tellMore_85 : decode cX8_tellMore 85 = .ok (.aload_n 0, 1) := by decide +kernel
theorem dX8_tellMore_86 : decode cX8_tellMore 86 = .ok (.getfield 42, 3) := by decide +kernel
theorem dX8_tellMore_89 : decode cX8_tellMore 89 = .ok (.getfield 162, 3) := by decide +kernel
theorem dX8_tellMore_92 : decode cX8_tellMore 92 = .ok (.ireturn, 1) := by decide +kernel
theorem dX8_tellMore_93 : decode cX8_tellMore 93 = .ok (.aload_n 0, 1) := by decide +kernel
theorem dX8_tellMore_94 : decode cX8_tellMore 94 = .ok (.getfield 42, 3) := by decide +kernel
theorem dX8_tellMore_97 : decode cX8_tellMore 97 = .ok (.getfield 165, 3) := by decide +kernel
theorem dX8_tellMore_100 : decode cX8_tellMore 100 = .ok (.ireturn, 1) := by decide +kernel
theorem dX8_tellMore_101 : decode cX8_tellMore 101 = .ok (.aload_n 0, 1) := by decide +kernel
theorem dX8_tellMore_102 : decode cX8_tellMore 102 = .ok (.invokevirtual 168, 3) := by decide +kernel
theorem dX8_tellMore_105 : decode cX8_tellMore 105 = .ok (.ireturn, 1) := by decide +kernel
theorem dX8_tellMore_106 : decode cX8_tellMore 106 = .ok (.iconst (-1), 1) := by decide +kernel
theorem dX8_tellMore_107 : decode cX8_tellMore 107 = .ok (.ireturn, 1) := by decide +kernel
theorem dX8_goesByBoard_0 : decode cX8_goesByBoard 0 = .ok (.aload_n 0, 1) := by decide +kernel
theorem dX8_goesByBoard_1 : decode cX8_goesByBoard 1 = .ok (.getfield 86, 3) := by decide +kernel
theorem dX8_goesByBoard_4 : decode cX8_goesByBoard 4 = .ok (.ifCond .eq 15, 3) := by decide +kernel
theorem dX8_goesByBoard_7 : decode cX8_goesByBoard 7 = .ok (.aload_n 0, 1) := by decide +kernel
theorem dX8_goesByBoard_8 : decode cX8_goesByBoard 8 = .ok (.getfield 49, 3) := by decide +kernel
theorem dX8_goesByBoard_11 : decode cX8_goesByBoard 11 = .ok (.iconst 3, 1) := by decide +kernel
theorem dX8_goesByBoard_12 : decode cX8_goesByBoard 12 = .ok (.if_icmp .ne 7, 3) := by decide +kernel
theorem dX8_goesByBoard_15 : decode cX8_goesByBoard 15 = .ok (.iconst 1, 1) := by decide +kernel
theorem dX8_goesByBoard_16 : decode cX8_goesByBoard 16 = .ok (.goto 4, 3) := by decide +kernel
theorem dX8_goesByBoard_19 : decode cX8_goesByBoard 19 = .ok (.iconst 0, 1) := by decide +kernel
theorem dX8_goesByBoard_20 : decode cX8_goesByBoard 20 = .ok (.ireturn, 1) := by decide +kernel
theorem dX8_out_0 : decode cX8_out 0 = .ok (.aload_n 0, 1) := by decide +kernel
theorem dX8_out_1 : decode cX8_out 1 = .ok (.invokevirtual 171, 3) := by decide +kernel
theorem dX8_out_4 : decode cX8_out 4 = .ok (.ifCond .eq 25, 3) := by decide +kernel
theorem dX8_out_7 : decode cX8_out 7 = .ok (.aload_n 0, 1) := by decide +kernel
theorem dX8_out_8 : decode cX8_out 8 = .ok (.getfield 35, 3) := by decide +kernel
theorem dX8_out_11 : decode cX8_out 11 = .ok (.aload_n 0, 1) := by decide +kernel
theorem dX8_out_12 : decode cX8_out 12 = .ok (.getfield 59, 3) := by decide +kernel
theorem dX8_out_15 : decode cX8_out 15 = .ok (.aload_n 0, 1) := by decide +kernel
theorem dX8_out_16 : decode cX8_out 16 = .ok (.getfield 65, 3) := by decide +kernel
theorem dX8_out_19 : decode cX8_out 19 = .ok (.aload_n 0, 1) := by decide +kernel
theorem dX8_out_20 : decode cX8_out 20 = .ok (.getfield 79, 3) := by decide +kernel
theorem dX8_out_23 : decode cX8_out 23 = .ok (.invokevirtual 174, 3) := by decide +kernel
theorem dX8_out_26 : decode cX8_out 26 = .ok (.goto 12, 3) := by decide +kernel
theorem dX8_out_29 : decode cX8_out 29 = .ok (.aload_n 0, 1) := by decide +kernel
theorem dX8_out_30 : decode cX8_out 30 = .ok (.getfield 65, 3) := by decide +kernel
theorem dX8_out_33 : decode cX8_out 33 = .ok (.aload_n 0, 1) := by decide +kernel
theorem dX8_out_34 : decode cX8_out 34 = .ok (.getfield 59, 3) := by decide +kernel
theorem dX8_out_37 : decode cX8_out 37 = .ok (.isub, 1) := by decide +kernel
theorem dX8_out_38 : decode cX8_out 38 = .ok (.ireturn, 1) := by decide +kernel
theorem dX8_nextToSend_0 : decode cX8_nextToSend 0 = .ok (.aload_n 0, 1) := by decide +kernel
theorem dX8_nextToSend_1 : decode cX8_nextToSend 1 = .ok (.invokevirtual 168, 3) := by decide +kernel
theorem dX8_nextToSend_4 : decode cX8_nextToSend 4 = .ok (.aload_n 0, 1) := by decide +kernel
theorem dX8_nextToSend_5 : decode cX8_nextToSend 5 = .ok (.getfield 9, 3) := by decide +kernel
theorem dX8_nextToSend_8 : decode cX8_nextToSend 8 = .ok (.sipush 1024, 3) := by decide +kernel
theorem dX8_nextToSend_11 : decode cX8_nextToSend 11 = .ok (.idiv, 1) := by decide +kernel
theorem dX8_nextToSend_12 : decode cX8_nextToSend 12 = .ok (.if_icmp .lt 5, 3) := by decide +kernel
theorem dX8_nextToSend_15 : decode cX8_nextToSend 15 = .ok (.iconst (-1), 1) := by decide +kernel
theorem dX8_nextToSend_16 : decode cX8_nextToSend 16 = .ok (.ireturn, 1) := by decide +kernel
theorem dX8_nextToSend_17 : decode cX8_nextToSend 17 = .ok (.aload_n 0, 1) := by decide +kernel
theorem dX8_nextToSend_18 : decode cX8_nextToSend 18 = .ok (.invokevirtual 171, 3) := by decide +kernel
theorem dX8_nextToSend_21 : decode cX8_nextToSend 21 = .ok (.ifCond .eq 21, 3) := by decide +kernel
theorem dX8_nextToSend_24 : decode cX8_nextToSend 24 = .ok (.aload_n 0, 1) := by decide +kernel
theorem dX8_nextToSend_25 : decode cX8_nextToSend 25 = .ok (.getfield 35, 3) := by decide +kernel
theorem dX8_nextToSend_28 : decode cX8_nextToSend 28 = .ok (.aload_n 0, 1) := by decide +kernel
theorem dX8_nextToSend_29 : decode cX8_nextToSend 29 = .ok (.getfield 59, 3) := by decide +kernel
theorem dX8_nextToSend_32 : decode cX8_nextToSend 32 = .ok (.aload_n 0, 1) := by decide +kernel
theorem dX8_nextToSend_33 : decode cX8_nextToSend 33 = .ok (.getfield 79, 3) := by decide +kernel
theorem dX8_nextToSend_36 : decode cX8_nextToSend 36 = .ok (.invokevirtual 178, 3) := by decide +kernel
theorem dX8_nextToSend_39 : decode cX8_nextToSend 39 = .ok (.goto 4, 3) := by decide +kernel
theorem dX8_nextToSend_42 : decode cX8_nextToSend 42 = .ok (.iconst (-1), 1) := by decide +kernel
theorem dX8_nextToSend_43 : decode cX8_nextToSend 43 = .ok (.istore_n 1, 1) := by decide +kernel
theorem dX8_nextToSend_44 : decode cX8_nextToSend 44 = .ok (.iload_n 1, 1) := by decide +kernel
theorem dX8_nextToSend_45 : decode cX8_nextToSend 45 = .ok (.iconst (-1), 1) := by decide +kernel
theorem dX8_nextToSend_46 : decode cX8_nextToSend 46 = .ok (.if_icmp .eq 5, 3) := by decide +kernel
theorem dX8_nextToSend_49 : decode cX8_nextToSend 49 = .ok (.iload_n 1, 1) := by decide +kernel
theorem dX8_nextToSend_50 : decode cX8_nextToSend 50 = .ok (.ireturn, 1) := by decide +kernel
theorem dX8_nextToSend_51 : decode cX8_nextToSend 51 = .ok (.aload_n 0, 1) := by decide +kernel
theorem dX8_nextToSend_52 : decode cX8_nextToSend 52 = .ok (.getfield 65, 3) := by decide +kernel
theorem dX8_nextToSend_55 : decode cX8_nextToSend 55 = .ok (.aload_n 0, 1) := by decide +kernel
theorem dX8_nextToSend_56 : decode cX8_nextToSend 56 = .ok (.getfield 52, 3) := by decide +kernel
theorem dX8_nextToSend_59 : decode cX8_nextToSend 59 = .ok (.if_icmp .ge 26, 3) := by decide +kernel
theorem dX8_nextToSend_62 : decode cX8_nextToSend 62 = .ok (.aload_n 0, 1) := by decide +kernel
theorem dX8_nextToSend_63 : decode cX8_nextToSend 63 = .ok (.getfield 65, 3) := by decide +kernel
theorem dX8_nextToSend_66 : decode cX8_nextToSend 66 = .ok (.aload_n 0, 1) := by decide +kernel
theorem dX8_nextToSend_67 : decode cX8_nextToSend 67 = .ok (.getfield 59, 3) := by decide +kernel
theorem dX8_nextToSend_70 : decode cX8_nextToSend 70 = .ok (.aload_n 0, 1) := by decide +kernel
theorem dX8_nextToSend_71 : decode cX8_nextToSend 71 = .ok (.getfield 22, 3) := by decide +kernel
theorem dX8_nextToSend_74 : decode cX8_nextToSend 74 = .ok (.iadd, 1) := by decide +kernel
theorem dX8_nextToSend_75 : decode cX8_nextToSend 75 = .ok (.if_icmp .ge 10, 3) := by decide +kernel
theorem dX8_nextToSend_78 : decode cX8_nextToSend 78 = .ok (.aload_n 0, 1) := by decide +kernel
theorem dX8_nextToSend_79 : decode cX8_nextToSend 79 = .ok (.getfield 65, 3) := by decide +kernel
theorem dX8_nextToSend_82 : decode cX8_nextToSend 82 = .ok (.goto 4, 3) := by decide +kernel
theorem dX8_nextToSend_85 : decode cX8_nextToSend 85 = .ok (.iconst (-1), 1) := by decide +kernel
theorem dX8_nextToSend_86 : decode cX8_nextToSend 86 = .ok (.ireturn, 1) := by decide +kernel
theorem dX8_transmit_0 : decode cX8_transmit 0 = .ok (.iload_n 1, 1) := by decide +kernel
theorem dX8_transmit_1 : decode cX8_transmit 1 = .ok (.aload_n 0, 1) := by decide +kernel
theorem dX8_transmit_2 : decode cX8_transmit 2 = .ok (.getfield 79, 3) := by decide +kernel
theorem dX8_transmit_5 : decode cX8_transmit 5 = .ok (.if_icmp .ge 7, 3) := by decide +kernel
theorem dX8_transmit_8 : decode cX8_transmit 8 = .ok (.iconst 1, 1) := by decide +kernel
theorem dX8_transmit_9 : decode cX8_transmit 9 = .ok (.goto 4, 3) := by decide +kernel
theorem dX8_transmit_12 : decode cX8_transmit 12 = .ok (.iconst 0, 1) := by decide +kernel
theorem dX8_transmit_13 : decode cX8_transmit 13 = .ok (.istore 4, 2) := by decide +kernel
theorem dX8_transmit_15 : decode cX8_transmit 15 = .ok (.iload 4, 2) := by decide +kernel
theorem dX8_transmit_17 : decode cX8_transmit 17 = .ok (.ifCond .eq 24, 3) := by decide +kernel
theorem dX8_transmit_20 : decode cX8_transmit 20 = .ok (.aload_n 0, 1) := by decide +kernel
theorem dX8_transmit_21 : decode cX8_transmit 21 = .ok (.dup, 1) := by decide +kernel
theorem dX8_transmit_22 : decode cX8_transmit 22 = .ok (.getfield 156, 3) := by decide +kernel
theorem dX8_transmit_25 : decode cX8_transmit 25 = .ok (.iconst 1, 1) := by decide +kernel
theorem dX8_transmit_26 : decode cX8_transmit 26 = .ok (.iadd, 1) := by decide +kernel
theorem dX8_transmit_27 : decode cX8_transmit 27 = .ok (.putfield 156, 3) := by decide +kernel
theorem dX8_transmit_30 : decode cX8_transmit 30 = .ok (.aload_n 0, 1) := by decide +kernel
theorem dX8_transmit_31 : decode cX8_transmit 31 = .ok (.getfield 35, 3) := by decide +kernel
theorem dX8_transmit_34 : decode cX8_transmit 34 = .ok (.getfield 182, 3) := by decide +kernel
theorem dX8_transmit_37 : decode cX8_transmit 37 = .ok (.iload_n 1, 1) := by decide +kernel
theorem dX8_transmit_38 : decode cX8_transmit 38 = .ok (.invokevirtual 186, 3) := by decide +kernel
theorem dX8_transmit_41 : decode cX8_transmit 41 = .ok (.aload_n 0, 1) := by decide +kernel
theorem dX8_transmit_42 : decode cX8_transmit 42 = .ok (.aload_n 0, 1) := by decide +kernel
theorem dX8_transmit_43 : decode cX8_transmit 43 = .ok (.getfield 79, 3) := by decide +kernel
theorem dX8_transmit_46 : decode cX8_transmit 46 = .ok (.iload_n 1, 1) := by decide +kernel
theorem dX8_transmit_47 : decode cX8_transmit 47 = .ok (.iconst 1, 1) := by decide +kernel
theorem dX8_transmit_48 : decode cX8_transmit 48 = .ok (.iadd, 1) := by decide +kernel
theorem dX8_transmit_49 : decode cX8_transmit 49 = .ok (.invokestatic 191, 3) := by decide +kernel
theorem dX8_transmit_52 : decode cX8_transmit 52 = .ok (.putfield 79, 3) := by decide +kernel
theorem dX8_transmit_55 : decode cX8_transmit 55 = .ok (.aload_n 0, 1) := by decide +kernel
theorem dX8_transmit_56 : decode cX8_transmit 56 = .ok (.getfield 28, 3) := by decide +kernel
theorem dX8_transmit_59 : decode cX8_transmit 59 = .ok (.iload_n 1, 1) := by decide +kernel
theorem dX8_transmit_60 : decode cX8_transmit 60 = .ok (.iload 4, 2) := by decide +kernel
theorem dX8_transmit_62 : decode cX8_transmit 62 = .ok (.iload_n 3, 1) := by decide +kernel
theorem dX8_transmit_63 : decode cX8_transmit 63 = .ok (.invokevirtual 196, 3) := by decide +kernel
theorem dX8_transmit_66 : decode cX8_transmit 66 = .ok (.aload_n 2, 1) := by decide +kernel
theorem dX8_transmit_67 : decode cX8_transmit 67 = .ok (.aload_n 0, 1) := by decide +kernel
theorem dX8_transmit_68 : decode cX8_transmit 68 = .ok (.getfield 46, 3) := by decide +kernel
theorem dX8_transmit_71 : decode cX8_transmit 71 = .ok (.iload_n 1, 1) := by decide +kernel
theorem dX8_transmit_72 : decode cX8_transmit 72 = .ok (.iconst 0, 1) := by decide +kernel
theorem dX8_transmit_73 : decode cX8_transmit 73 = .ok (.iload_n 3, 1) := by decide +kernel
theorem dX8_transmit_74 : decode cX8_transmit 74 = .ok (.invokevirtual 200, 3) := by decide +kernel
theorem dX8_transmit_77 : decode cX8_transmit 77 = .ok (.return_, 1) := by decide +kernel
theorem dX8_probe_0 : decode cX8_probe 0 = .ok (.aload_n 0, 1) := by decide +kernel
theorem dX8_probe_1 : decode cX8_probe 1 = .ok (.dup, 1) := by decide +kernel
theorem dX8_probe_2 : decode cX8_probe 2 = .ok (.getfield 159, 3) := by decide +kernel
theorem dX8_probe_5 : decode cX8_probe 5 = .ok (.iconst 1, 1) := by decide +kernel
theorem dX8_probe_6 : decode cX8_probe 6 = .ok (.iadd, 1) := by decide +kernel
theorem dX8_probe_7 : decode cX8_probe 7 = .ok (.putfield 159, 3) := by decide +kernel
theorem dX8_probe_10 : decode cX8_probe 10 = .ok (.aload_n 0, 1) := by decide +kernel
theorem dX8_probe_11 : decode cX8_probe 11 = .ok (.aload_n 0, 1) := by decide +kernel
theorem dX8_probe_12 : decode cX8_probe 12 = .ok (.getfield 79, 3) := by decide +kernel
theorem dX8_probe_15 : decode cX8_probe 15 = .ok (.aload_n 0, 1) := by decide +kernel
theorem dX8_probe_16 : decode cX8_probe 16 = .ok (.getfield 65, 3) := by decide +kernel
theorem dX8_probe_19 : decode cX8_probe 19 = .ok (.iconst 1, 1) := by decide +kernel
theorem dX8_probe_20 : decode cX8_probe 20 = .ok (.iadd, 1) := by decide +kernel
theorem dX8_probe_21 : decode cX8_probe 21 = .ok (.invokestatic 191, 3) := by decide +kernel
theorem dX8_probe_24 : decode cX8_probe 24 = .ok (.putfield 79, 3) := by decide +kernel
theorem dX8_probe_27 : decode cX8_probe 27 = .ok (.aload_n 1, 1) := by decide +kernel
theorem dX8_probe_28 : decode cX8_probe 28 = .ok (.aload_n 0, 1) := by decide +kernel
theorem dX8_probe_29 : decode cX8_probe 29 = .ok (.getfield 46, 3) := by decide +kernel
theorem dX8_probe_32 : decode cX8_probe 32 = .ok (.aload_n 0, 1) := by decide +kernel
theorem dX8_probe_33 : decode cX8_probe 33 = .ok (.getfield 65, 3) := by decide +kernel
theorem dX8_probe_36 : decode cX8_probe 36 = .ok (.iconst 1, 1) := by decide +kernel
theorem dX8_probe_37 : decode cX8_probe 37 = .ok (.iload_n 2, 1) := by decide +kernel
theorem dX8_probe_38 : decode cX8_probe 38 = .ok (.invokevirtual 200, 3) := by decide +kernel
theorem dX8_probe_41 : decode cX8_probe 41 = .ok (.aload_n 0, 1) := by decide +kernel
theorem dX8_probe_42 : decode cX8_probe 42 = .ok (.getfield 28, 3) := by decide +kernel
theorem dX8_probe_45 : decode cX8_probe 45 = .ok (.invokevirtual 206, 3) := by decide +kernel
theorem dX8_probe_48 : decode cX8_probe 48 = .ok (.aload_n 0, 1) := by decide +kernel
theorem dX8_probe_49 : decode cX8_probe 49 = .ok (.getfield 28, 3) := by decide +kernel
theorem dX8_probe_52 : decode cX8_probe 52 = .ok (.iload_n 2, 1) := by decide +kernel
theorem dX8_probe_53 : decode cX8_probe 53 = .ok (.invokevirtual 209, 3) := by decide +kernel
theorem dX8_probe_56 : decode cX8_probe 56 = .ok (.return_, 1) := by decide +kernel
theorem dX8_goOn_0 : decode cX8_goOn 0 = .ok (.aload_n 0, 1) := by decide +kernel
theorem dX8_goOn_1 : decode cX8_goOn 1 = .ok (.getfield 59, 3) := by decide +kernel
theorem dX8_goOn_4 : decode cX8_goOn 4 = .ok (.iload_n 1, 1) := by decide +kernel
theorem dX8_goOn_5 : decode cX8_goOn 5 = .ok (.iadd, 1) := by decide +kernel
theorem dX8_goOn_6 : decode cX8_goOn 6 = .ok (.istore_n 3, 1) := by decide +kernel
theorem dX8_goOn_7 : decode cX8_goOn 7 = .ok (.aload_n 0, 1) := by decide +kernel
theorem dX8_goOn_8 : decode cX8_goOn 8 = .ok (.getfield 28, 3) := by decide +kernel
theorem dX8_goOn_11 : decode cX8_goOn 11 = .ok (.iload_n 3, 1) := by decide +kernel
theorem dX8_goOn_12 : decode cX8_goOn 12 = .ok (.iload_n 2, 1) := by decide +kernel
theorem dX8_goOn_13 : decode cX8_goOn 13 = .ok (.invokevirtual 212, 3) := by decide +kernel
theorem dX8_goOn_16 : decode cX8_goOn 16 = .ok (.aload_n 0, 1) := by decide +kernel
theorem dX8_goOn_17 : decode cX8_goOn 17 = .ok (.invokevirtual 171, 3) := by decide +kernel
theorem dX8_goOn_20 : decode cX8_goOn 20 = .ok (.ifCond .eq 15, 3) := by decide +kernel
theorem dX8_goOn_23 : decode cX8_goOn 23 = .ok (.aload_n 0, 1) := by decide +kernel
theorem dX8_goOn_24 : decode cX8_goOn 24 = .ok (.getfield 35, 3) := by decide +kernel
theorem dX8_goOn_27 : decode cX8_goOn 27 = .ok (.aload_n 0, 1) := by decide +kernel
theorem dX8_goOn_28 : decode cX8_goOn 28 = .ok (.getfield 59, 3) := by decide +kernel
theorem dX8_goOn_31 : decode cX8_goOn 31 = .ok (.iload_n 3, 1) := by decide +kernel
theorem dX8_goOn_32 : decode cX8_goOn 32 = .ok (.invokevirtual 215, 3) := by decide +kernel
theorem dX8_goOn_35 : decode cX8_goOn 35 = .ok (.aload_n 0, 1) := by decide +kernel
theorem dX8_goOn_36 : decode cX8_goOn 36 = .ok (.iload_n 3, 1) := by decide +kernel
theorem dX8_goOn_37 : decode cX8_goOn 37 = .ok (.putfield 59, 3) := by decide +kernel
theorem dX8_goOn_40 : decode cX8_goOn 40 = .ok (.aload_n 0, 1) := by decide +kernel
theorem dX8_goOn_41 : decode cX8_goOn 41 = .ok (.aload_n 0, 1) := by decide +kernel
theorem dX8_goOn_42 : decode cX8_goOn 42 = .ok (.getfield 65, 3) := by decide +kernel
theorem dX8_goOn_45 : decode cX8_goOn 45 = .ok (.iload_n 3, 1) := by decide +kernel
theorem dX8_goOn_46 : decode cX8_goOn 46 = .ok (.invokestatic 191, 3) := by decide +kernel
theorem dX8_goOn_49 : decode cX8_goOn 49 = .ok (.putfield 65, 3) := by decide +kernel
theorem dX8_goOn_52 : decode cX8_goOn 52 = .ok (.aload_n 0, 1) := by decide +kernel
theorem dX8_goOn_53 : decode cX8_goOn 53 = .ok (.getfield 65, 3) := by decide +kernel
theorem dX8_goOn_56 : decode cX8_goOn 56 = .ok (.aload_n 0, 1) := by decide +kernel
theorem dX8_goOn_57 : decode cX8_goOn 57 = .ok (.getfield 59, 3) := by decide +kernel
theorem dX8_goOn_60 : decode cX8_goOn 60 = .ok (.if_icmp .le 14, 3) := by decide +kernel
theorem dX8_goOn_63 : decode cX8_goOn 63 = .ok (.aload_n 0, 1) := by decide +kernel
theorem dX8_goOn_64 : decode cX8_goOn 64 = .ok (.getfield 28, 3) := by decide +kernel
theorem dX8_goOn_67 : decode cX8_goOn 67 = .ok (.iload_n 2, 1) := by decide +kernel
theorem dX8_goOn_68 : decode cX8_goOn 68 = .ok (.invokevirtual 209, 3) := by decide +kernel
theorem dX8_goOn_71 : decode cX8_goOn 71 = .ok (.goto 10, 3) := by decide +kernel
theorem dX8_goOn_74 : decode cX8_goOn 74 = .ok (.aload_n 0, 1) := by decide +kernel
theorem dX8_goOn_75 : decode cX8_goOn 75 = .ok (.getfield 28, 3) := by decide +kernel
theorem dX8_goOn_78 : decode cX8_goOn 78 = .ok (.invokevirtual 111, 3) := by decide +kernel
theorem dX8_goOn_81 : decode cX8_goOn 81 = .ok (.return_, 1) := by decide +kernel
theorem dX8_hearInRecovery_0 : decode cX8_hearInRecovery 0 = .ok (.aload_n 0, 1) := by decide +kernel
theorem dX8_hearInRecovery_1 : decode cX8_hearInRecovery 1 = .ok (.getfield 49, 3) := by decide +kernel
theorem dX8_hearInRecovery_4 : decode cX8_hearInRecovery 4 = .ok (.ifCond .eq 14, 3) := by decide +kernel
theorem dX8_hearInRecovery_7 : decode cX8_hearInRecovery 7 = .ok (.aload_n 0, 1) := by decide +kernel
theorem dX8_hearInRecovery_8 : decode cX8_hearInRecovery 8 = .ok (.getfield 59, 3) := by decide +kernel
theorem dX8_hearInRecovery_11 : decode cX8_hearInRecovery 11 = .ok (.aload_n 0, 1) := by decide +kernel
theorem dX8_hearInRecovery_12 : decode cX8_hearInRecovery 12 = .ok (.getfield 216, 3) := by decide +kernel
theorem dX8_hearInRecovery_15 : decode cX8_hearInRecovery 15 = .ok (.if_icmp .lt 24, 3) := by decide +kernel
theorem dX8_hearInRecovery_18 : decode cX8_hearInRecovery 18 = .ok (.aload_n 0, 1) := by decide +kernel
theorem dX8_hearInRecovery_19 : decode cX8_hearInRecovery 19 = .ok (.aload_n 0, 1) := by decide +kernel
theorem dX8_hearInRecovery_20 : decode cX8_hearInRecovery 20 = .ok (.getfield 19, 3) := by decide +kernel
theorem dX8_hearInRecovery_23 : decode cX8_hearInRecovery 23 = .ok (.invokevirtual 219, 3) := by decide +kernel
theorem dX8_hearInRecovery_26 : decode cX8_hearInRecovery 26 = .ok (.aload_n 0, 1) := by decide +kernel
theorem dX8_hearInRecovery_27 : decode cX8_hearInRecovery 27 = .ok (.iconst 0, 1) := by decide +kernel
theorem dX8_hearInRecovery_28 : decode cX8_hearInRecovery 28 = .ok (.putfield 86, 3) := by decide +kernel
theorem dX8_hearInRecovery_31 : decode cX8_hearInRecovery 31 = .ok (.aload_n 0, 1) := by decide +kernel
theorem dX8_hearInRecovery_32 : decode cX8_hearInRecovery 32 = .ok (.iconst 0, 1) := by decide +kernel
theorem dX8_hearInRecovery_33 : decode cX8_hearInRecovery 33 = .ok (.putfield 93, 3) := by decide +kernel
theorem dX8_hearInRecovery_36 : decode cX8_hearInRecovery 36 = .ok (.goto 45, 3) := by decide +kernel
theorem dX8_hearInRecovery_39 : decode cX8_hearInRecovery 39 = .ok (.aload_n 0, 1) := by decide +kernel
theorem dX8_hearInRecovery_40 : decode cX8_hearInRecovery 40 = .ok (.getfield 49, 3) := by decide +kernel
theorem dX8_hearInRecovery_43 : decode cX8_hearInRecovery 43 = .ok (.iconst 3, 1) := by decide +kernel
theorem dX8_hearInRecovery_44 : decode cX8_hearInRecovery 44 = .ok (.if_icmp .eq 37, 3) := by decide +kernel
theorem dX8_hearInRecovery_47 : decode cX8_hearInRecovery 47 = .ok (.aload_n 0, 1) := by decide +kernel
theorem dX8_hearInRecovery_48 : decode cX8_hearInRecovery 48 = .ok (.aload_n 0, 1) := by decide +kernel
theorem dX8_hearInRecovery_49 : decode cX8_hearInRecovery 49 = .ok (.getfield 59, 3) := by decide +kernel
theorem dX8_hearInRecovery_52 : decode cX8_hearInRecovery 52 = .ok (.aload_n 2, 1) := by decide +kernel
theorem dX8_hearInRecovery_53 : decode cX8_hearInRecovery 53 = .ok (.iload_n 3, 1) := by decide +kernel
theorem dX8_hearInRecovery_54 : decode cX8_hearInRecovery 54 = .ok (.invokevirtual 131, 3) := by decide +kernel
theorem dX8_hearInRecovery_57 : decode cX8_hearInRecovery 57 = .ok (.aload_n 0, 1) := by decide +kernel
theorem dX8_hearInRecovery_58 : decode cX8_hearInRecovery 58 = .ok (.sipush 1024, 3) := by decide +kernel
theorem dX8_hearInRecovery_61 : decode cX8_hearInRecovery 61 = .ok (.aload_n 0, 1) := by decide +kernel
theorem dX8_hearInRecovery_62 : decode cX8_hearInRecovery 62 = .ok (.getfield 9, 3) := by decide +kernel
theorem dX8_hearInRecovery_65 : decode cX8_hearInRecovery 65 = .ok (.sipush 1024, 3) := by decide +kernel
theorem dX8_hearInRecovery_68 : decode cX8_hearInRecovery 68 = .ok (.iload_n 1, 1) := by decide +kernel
theorem dX8_hearInRecovery_69 : decode cX8_hearInRecovery 69 = .ok (.imul, 1) := by decide +kernel
theorem dX8_hearInRecovery_70 : decode cX8_hearInRecovery 70 = .ok (.isub, 1) := by decide +kernel
theorem dX8_hearInRecovery_71 : decode cX8_hearInRecovery 71 = .ok (.sipush 1024, 3) := by decide +kernel
theorem dX8_hearInRecovery_74 : decode cX8_hearInRecovery 74 = .ok (.iadd, 1) := by decide +kernel
theorem dX8_hearInRecovery_75 : decode cX8_hearInRecovery 75 = .ok (.invokestatic 191, 3) := by decide +kernel
theorem dX8_hearInRecovery_78 : decode cX8_hearInRecovery 78 = .ok (.invokevirtual 219, 3) := by decide +kernel
theorem dX8_hearInRecovery_81 : decode cX8_hearInRecovery 81 = .ok (.return_, 1) := by decide +kernel
theorem dX8_grow_0 : decode cX8_grow 0 = .ok (.aload_n 0, 1) := by decide +kernel
theorem dX8_grow_1 : decode cX8_grow 1 = .ok (.getfield 9, 3) := by decide +kernel
theorem dX8_grow_4 : decode cX8_grow 4 = .ok (.aload_n 0, 1) := by decide +kernel
theorem dX8_grow_5 : decode cX8_grow 5 = .ok (.getfield 19, 3) := by decide +kernel
theorem dX8_grow_8 : decode cX8_grow 8 = .ok (.if_icmp .ge 18, 3) := by decide +kernel
theorem dX8_grow_11 : decode cX8_grow 11 = .ok (.aload_n 0, 1) := by decide +kernel
theorem dX8_grow_12 : decode cX8_grow 12 = .ok (.aload_n 0, 1) := by decide +kernel
theorem dX8_grow_13 : decode cX8_grow 13 = .ok (.getfield 9, 3) := by decide +kernel
theorem dX8_grow_16 : decode cX8_grow 16 = .ok (.sipush 1024, 3) := by decide +kernel
theorem dX8_grow_19 : decode cX8_grow 19 = .ok (.iadd, 1) := by decide +kernel
theorem dX8_grow_20 : decode cX8_grow 20 = .ok (.invokevirtual 219, 3) := by decide +kernel
theorem dX8_grow_23 : decode cX8_grow 23 = .ok (.goto 61, 3) := by decide +kernel
theorem dX8_grow_26 : decode cX8_grow 26 = .ok (.aload_n 0, 1) := by decide +kernel
theorem dX8_grow_27 : decode cX8_grow 27 = .ok (.getfield 49, 3) := by decide +kernel
theorem dX8_grow_30 : decode cX8_grow 30 = .ok (.iconst 2, 1) := by decide +kernel
theorem dX8_grow_31 : decode cX8_grow 31 = .ok (.if_icmp .ne 29, 3) := by decide +kernel
theorem dX8_grow_34 : decode cX8_grow 34 = .ok (.aload_n 0, 1) := by decide +kernel
theorem dX8_grow_35 : decode cX8_grow 35 = .ok (.aload_n 0, 1) := by decide +kernel
theorem dX8_grow_36 : decode cX8_grow 36 = .ok (.getfield 42, 3) := by decide +kernel
theorem dX8_grow_39 : decode cX8_grow 39 = .ok (.aload_n 0, 1) := by decide +kernel
theorem dX8_grow_40 : decode cX8_grow 40 = .ok (.getfield 9, 3) := by decide +kernel
theorem dX8_grow_43 : decode cX8_grow 43 = .ok (.aload_n 0, 1) := by decide +kernel
theorem dX8_grow_44 : decode cX8_grow 44 = .ok (.getfield 28, 3) := by decide +kernel
theorem dX8_grow_47 : decode cX8_grow 47 = .ok (.getfield 140, 3) := by decide +kernel
theorem dX8_grow_50 : decode cX8_grow 50 = .ok (.iload_n 1, 1) := by decide +kernel
theorem dX8_grow_51 : decode cX8_grow 51 = .ok (.invokevirtual 222, 3) := by decide +kernel
theorem dX8_grow_54 : decode cX8_grow 54 = .ok (.invokevirtual 219, 3) := by decide +kernel
theorem dX8_grow_57 : decode cX8_grow 57 = .ok (.goto 27, 3) := by decide +kernel
theorem dX8_grow_60 : decode cX8_grow 60 = .ok (.aload_n 0, 1) := by decide +kernel
theorem dX8_grow_61 : decode cX8_grow 61 = .ok (.aload_n 0, 1) := by decide +kernel
theorem dX8_grow_62 : decode cX8_grow 62 = .ok (.getfield 9, 3) := by decide +kernel
theorem dX8_grow_65 : decode cX8_grow 65 = .ok (.iconst 1, 1) := by decide +kernel
theorem dX8_grow_66 : decode cX8_grow 66 = .ok (.ldc 18, 2) := by decide +kernel
theorem dX8_grow_68 : decode cX8_grow 68 = .ok (.iconst 1, 1) := by decide +kernel
theorem dX8_grow_69 : decode cX8_grow 69 = .ok (.aload_n 0, 1) := by decide +kernel
theorem dX8_grow_70 : decode cX8_grow 70 = .ok (.getfield 9, 3) := by decide +kernel
theorem dX8_grow_73 : decode cX8_grow 73 = .ok (.invokestatic 191, 3) := by decide +kernel
theorem dX8_grow_76 : decode cX8_grow 76 = .ok (.idiv, 1) := by decide +kernel
theorem dX8_grow_77 : decode cX8_grow 77 = .ok (.invokestatic 191, 3) := by decide +kernel
theorem dX8_grow_80 : decode cX8_grow 80 = .ok (.iadd, 1) := by decide +kernel
theorem dX8_grow_81 : decode cX8_grow 81 = .ok (.invokevirtual 219, 3) := by decide +kernel
theorem dX8_grow_84 : decode cX8_grow 84 = .ok (.return_, 1) := by decide +kernel
theorem dX8_countDuplicate_0 : decode cX8_countDuplicate 0 = .ok (.aload_n 0, 1) := by decide +kernel
theorem dX8_countDuplicate_1 : decode cX8_countDuplicate 1 = .ok (.dup, 1) := by decide +kernel
theorem dX8_countDuplicate_2 : decode cX8_countDuplicate 2 = .ok (.getfield 93, 3) := by decide +kernel
theorem dX8_countDuplicate_5 : decode cX8_countDuplicate 5 = .ok (.iconst 1, 1) := by decide +kernel
theorem dX8_countDuplicate_6 : decode cX8_countDuplicate 6 = .ok (.iadd, 1) := by decide +kernel
theorem dX8_countDuplicate_7 : decode cX8_countDuplicate 7 = .ok (.putfield 93, 3) := by decide +kernel
theorem dX8_countDuplicate_10 : decode cX8_countDuplicate 10 = .ok (.aload_n 0, 1) := by decide +kernel
theorem dX8_countDuplicate_11 : decode cX8_countDuplicate 11 = .ok (.getfield 86, 3) := by decide +kernel
theorem dX8_countDuplicate_14 : decode cX8_countDuplicate 14 = .ok (.ifCond .eq 23, 3) := by decide +kernel
theorem dX8_countDuplicate_17 : decode cX8_countDuplicate 17 = .ok (.aload_n 0, 1) := by decide +kernel
theorem dX8_countDuplicate_18 : decode cX8_countDuplicate 18 = .ok (.getfield 49, 3) := by decide +kernel
theorem dX8_countDuplicate_21 : decode cX8_countDuplicate 21 = .ok (.iconst 3, 1) := by decide +kernel
theorem dX8_countDuplicate_22 : decode cX8_countDuplicate 22 = .ok (.if_icmp .eq 15, 3) := by decide +kernel
theorem dX8_countDuplicate_25 : decode cX8_countDuplicate 25 = .ok (.aload_n 0, 1) := by decide +kernel
theorem dX8_countDuplicate_26 : decode cX8_countDuplicate 26 = .ok (.aload_n 0, 1) := by decide +kernel
theorem dX8_countDuplicate_27 : decode cX8_countDuplicate 27 = .ok (.getfield 9, 3) := by decide +kernel
theorem dX8_countDuplicate_30 : decode cX8_countDuplicate 30 = .ok (.sipush 1024, 3) := by decide +kernel
theorem dX8_countDuplicate_33 : decode cX8_countDuplicate 33 = .ok (.iadd, 1) := by decide +kernel
theorem dX8_countDuplicate_34 : decode cX8_countDuplicate 34 = .ok (.invokevirtual 219, 3) := by decide +kernel
theorem dX8_countDuplicate_37 : decode cX8_countDuplicate 37 = .ok (.return_, 1) := by decide +kernel
theorem dX8_startsRecovery_0 : decode cX8_startsRecovery 0 = .ok (.aload_n 0, 1) := by decide +kernel
theorem dX8_startsRecovery_1 : decode cX8_startsRecovery 1 = .ok (.getfield 86, 3) := by decide +kernel
theorem dX8_startsRecovery_4 : decode cX8_startsRecovery 4 = .ok (.ifCond .ne 33, 3) := by decide +kernel
theorem dX8_startsRecovery_7 : decode cX8_startsRecovery 7 = .ok (.aload_n 0, 1) := by decide +kernel
theorem dX8_startsRecovery_8 : decode cX8_startsRecovery 8 = .ok (.getfield 93, 3) := by decide +kernel
theorem dX8_startsRecovery_11 : decode cX8_startsRecovery 11 = .ok (.iconst 3, 1) := by decide +kernel
theorem dX8_startsRecovery_12 : decode cX8_startsRecovery 12 = .ok (.if_icmp .ne 25, 3) := by decide +kernel
theorem dX8_startsRecovery_15 : decode cX8_startsRecovery 15 = .ok (.aload_n 0, 1) := by decide +kernel
theorem dX8_startsRecovery_16 : decode cX8_startsRecovery 16 = .ok (.getfield 49, 3) := by decide +kernel
theorem dX8_startsRecovery_19 : decode cX8_startsRecovery 19 = .ok (.ifCond .eq 14, 3) := by decide +kernel
theorem dX8_startsRecovery_22 : decode cX8_startsRecovery 22 = .ok (.aload_n 0, 1) := by decide +kernel
theorem dX8_startsRecovery_23 : decode cX8_startsRecovery 23 = .ok (.getfield 59, 3) := by decide +kernel
theorem dX8_startsRecovery_26 : decode cX8_startsRecovery 26 = .ok (.aload_n 0, 1) := by decide +kernel
theorem dX8_startsRecovery_27 : decode cX8_startsRecovery 27 = .ok (.getfield 216, 3) := by decide +kernel
theorem dX8_startsRecovery_30 : decode cX8_startsRecovery 30 = .ok (.if_icmp .lt 7, 3) := by decide +kernel
theorem dX8_startsRecovery_33 : decode cX8_startsRecovery 33 = .ok (.iconst 1, 1) := by decide +kernel
theorem dX8_startsRecovery_34 : decode cX8_startsRecovery 34 = .ok (.goto 4, 3) := by decide +kernel
theorem dX8_startsRecovery_37 : decode cX8_startsRecovery 37 = .ok (.iconst 0, 1) := by decide +kernel
theorem dX8_startsRecovery_38 : decode cX8_startsRecovery 38 = .ok (.ireturn, 1) := by decide +kernel
theorem dX8_beginRecovery_0 : decode cX8_beginRecovery 0 = .ok (.aload_n 0, 1) := by decide +kernel
theorem dX8_beginRecovery_1 : decode cX8_beginRecovery 1 = .ok (.aload_n 0, 1) := by decide +kernel
theorem dX8_beginRecovery_2 : decode cX8_beginRecovery 2 = .ok (.invokevirtual 224, 3) := by decide +kernel
theorem dX8_beginRecovery_5 : decode cX8_beginRecovery 5 = .ok (.putfield 19, 3) := by decide +kernel
theorem dX8_beginRecovery_8 : decode cX8_beginRecovery 8 = .ok (.aload_n 0, 1) := by decide +kernel
theorem dX8_beginRecovery_9 : decode cX8_beginRecovery 9 = .ok (.iconst 1, 1) := by decide +kernel
theorem dX8_beginRecovery_10 : decode cX8_beginRecovery 10 = .ok (.putfield 86, 3) := by decide +kernel
theorem dX8_beginRecovery_13 : decode cX8_beginRecovery 13 = .ok (.aload_n 0, 1) := by decide +kernel
theorem dX8_beginRecovery_14 : decode cX8_beginRecovery 14 = .ok (.dup, 1) := by decide +kernel
theorem dX8_beginRecovery_15 : decode cX8_beginRecovery 15 = .ok (.getfield 153, 3) := by decide +kernel
theorem dX8_beginRecovery_18 : decode cX8_beginRecovery 18 = .ok (.iconst 1, 1) := by decide +kernel
theorem dX8_beginRecovery_19 : decode cX8_beginRecovery 19 = .ok (.iadd, 1) := by decide +kernel
theorem dX8_beginRecovery_20 : decode cX8_beginRecovery 20 = .ok (.putfield 153, 3) := by decide +kernel
theorem dX8_beginRecovery_23 : decode cX8_beginRecovery 23 = .ok (.aload_n 0, 1) := by decide +kernel
theorem dX8_beginRecovery_24 : decode cX8_beginRecovery 24 = .ok (.aload_n 0, 1) := by decide +kernel
theorem dX8_beginRecovery_25 : decode cX8_beginRecovery 25 = .ok (.getfield 79, 3) := by decide +kernel
theorem dX8_beginRecovery_28 : decode cX8_beginRecovery 28 = .ok (.putfield 216, 3) := by decide +kernel
theorem dX8_beginRecovery_31 : decode cX8_beginRecovery 31 = .ok (.aload_n 0, 1) := by decide +kernel
theorem dX8_beginRecovery_32 : decode cX8_beginRecovery 32 = .ok (.getfield 35, 3) := by decide +kernel
theorem dX8_beginRecovery_35 : decode cX8_beginRecovery 35 = .ok (.aload_n 0, 1) := by decide +kernel
theorem dX8_beginRecovery_36 : decode cX8_beginRecovery 36 = .ok (.getfield 59, 3) := by decide +kernel
theorem dX8_beginRecovery_39 : decode cX8_beginRecovery 39 = .ok (.invokevirtual 227, 3) := by decide +kernel
theorem dX8_beginRecovery_42 : decode cX8_beginRecovery 42 = .ok (.aload_n 0, 1) := by decide +kernel
theorem dX8_beginRecovery_43 : decode cX8_beginRecovery 43 = .ok (.aload_n 0, 1) := by decide +kernel
theorem dX8_beginRecovery_44 : decode cX8_beginRecovery 44 = .ok (.getfield 59, 3) := by decide +kernel
theorem dX8_beginRecovery_47 : decode cX8_beginRecovery 47 = .ok (.aload_n 1, 1) := by decide +kernel
theorem dX8_beginRecovery_48 : decode cX8_beginRecovery 48 = .ok (.iload_n 2, 1) := by decide +kernel
theorem dX8_beginRecovery_49 : decode cX8_beginRecovery 49 = .ok (.invokevirtual 131, 3) := by decide +kernel
theorem dX8_beginRecovery_52 : decode cX8_beginRecovery 52 = .ok (.aload_n 0, 1) := by decide +kernel
theorem dX8_beginRecovery_53 : decode cX8_beginRecovery 53 = .ok (.aload_n 0, 1) := by decide +kernel
theorem dX8_beginRecovery_54 : decode cX8_beginRecovery 54 = .ok (.getfield 49, 3) := by decide +kernel
theorem dX8_beginRecovery_57 : decode cX8_beginRecovery 57 = .ok (.iconst 3, 1) := by decide +kernel
theorem dX8_beginRecovery_58 : decode cX8_beginRecovery 58 = .ok (.if_icmp .ne 10, 3) := by decide +kernel
theorem dX8_beginRecovery_61 : decode cX8_beginRecovery 61 = .ok (.aload_n 0, 1) := by decide +kernel
theorem dX8_beginRecovery_62 : decode cX8_beginRecovery 62 = .ok (.getfield 19, 3) := by decide +kernel
theorem dX8_beginRecovery_65 : decode cX8_beginRecovery 65 = .ok (.goto 11, 3) := by decide +kernel
theorem dX8_beginRecovery_68 : decode cX8_beginRecovery 68 = .ok (.aload_n 0, 1) := by decide +kernel
theorem dX8_beginRecovery_69 : decode cX8_beginRecovery 69 = .ok (.getfield 19, 3) := by decide +kernel
theorem dX8_beginRecovery_72 : decode cX8_beginRecovery 72 = .ok (.sipush 3072, 3) := by decide +kernel
theorem dX8_beginRecovery_75 : decode cX8_beginRecovery 75 = .ok (.iadd, 1) := by decide +kernel
theorem dX8_beginRecovery_76 : decode cX8_beginRecovery 76 = .ok (.invokevirtual 219, 3) := by decide +kernel
theorem dX8_beginRecovery_79 : decode cX8_beginRecovery 79 = .ok (.return_, 1) := by decide +kernel
theorem dX8_timeOut_0 : decode cX8_timeOut 0 = .ok (.aload_n 0, 1) := by decide +kernel
theorem dX8_timeOut_1 : decode cX8_timeOut 1 = .ok (.aload_n 0, 1) := by decide +kernel
theorem dX8_timeOut_2 : decode cX8_timeOut 2 = .ok (.invokevirtual 224, 3) := by decide +kernel
theorem dX8_timeOut_5 : decode cX8_timeOut 5 = .ok (.putfield 19, 3) := by decide +kernel
theorem dX8_timeOut_8 : decode cX8_timeOut 8 = .ok (.aload_n 0, 1) := by decide +kernel
theorem dX8_timeOut_9 : decode cX8_timeOut 9 = .ok (.sipush 1024, 3) := by decide +kernel
theorem dX8_timeOut_12 : decode cX8_timeOut 12 = .ok (.invokevirtual 219, 3) := by decide +kernel
theorem dX8_timeOut_15 : decode cX8_timeOut 15 = .ok (.aload_n 0, 1) := by decide +kernel
theorem dX8_timeOut_16 : decode cX8_timeOut 16 = .ok (.getfield 28, 3) := by decide +kernel
theorem dX8_timeOut_19 : decode cX8_timeOut 19 = .ok (.invokevirtual 206, 3) := by decide +kernel
theorem dX8_timeOut_22 : decode cX8_timeOut 22 = .ok (.aload_n 0, 1) := by decide +kernel
theorem dX8_timeOut_23 : decode cX8_timeOut 23 = .ok (.dup, 1) := by decide +kernel
theorem dX8_timeOut_24 : decode cX8_timeOut 24 = .ok (.getfield 150, 3) := by decide +kernel
theorem dX8_timeOut_27 : decode cX8_timeOut 27 = .ok (.iconst 1, 1) := by decide +kernel
theorem dX8_timeOut_28 : decode cX8_timeOut 28 = .ok (.iadd, 1) := by decide +kernel
theorem dX8_timeOut_29 : decode cX8_timeOut 29 = .ok (.putfield 150, 3) := by decide +kernel
theorem dX8_timeOut_32 : decode cX8_timeOut 32 = .ok (.aload_n 0, 1) := by decide +kernel
theorem dX8_timeOut_33 : decode cX8_timeOut 33 = .ok (.iconst 0, 1) := by decide +kernel
theorem dX8_timeOut_34 : decode cX8_timeOut 34 = .ok (.putfield 86, 3) := by decide +kernel
theorem dX8_timeOut_37 : decode cX8_timeOut 37 = .ok (.aload_n 0, 1) := by decide +kernel
theorem dX8_timeOut_38 : decode cX8_timeOut 38 = .ok (.iconst 0, 1) := by decide +kernel
theorem dX8_timeOut_39 : decode cX8_timeOut 39 = .ok (.putfield 93, 3) := by decide +kernel
theorem dX8_timeOut_42 : decode cX8_timeOut 42 = .ok (.aload_n 0, 1) := by decide +kernel
theorem dX8_timeOut_43 : decode cX8_timeOut 43 = .ok (.aload_n 0, 1) := by decide +kernel
theorem dX8_timeOut_44 : decode cX8_timeOut 44 = .ok (.getfield 79, 3) := by decide +kernel
theorem dX8_timeOut_47 : decode cX8_timeOut 47 = .ok (.putfield 216, 3) := by decide +kernel
theorem dX8_timeOut_50 : decode cX8_timeOut 50 = .ok (.aload_n 0, 1) := by decide +kernel
theorem dX8_timeOut_51 : decode cX8_timeOut 51 = .ok (.aload_n 0, 1) := by decide +kernel
theorem dX8_timeOut_52 : decode cX8_timeOut 52 = .ok (.getfield 59, 3) := by decide +kernel
theorem dX8_timeOut_55 : decode cX8_timeOut 55 = .ok (.putfield 65, 3) := by decide +kernel
theorem dX8_timeOut_58 : decode cX8_timeOut 58 = .ok (.aload_n 0, 1) := by decide +kernel
theorem dX8_timeOut_59 : decode cX8_timeOut 59 = .ok (.getfield 35, 3) := by decide +kernel
theorem dX8_timeOut_62 : decode cX8_timeOut 62 = .ok (.invokevirtual 229, 3) := by decide +kernel
theorem dX8_timeOut_65 : decode cX8_timeOut 65 = .ok (.return_, 1) := by decide +kernel
theorem dX8_lossThreshold_0 : decode cX8_lossThreshold 0 = .ok (.aload_n 0, 1) := by decide +kernel
theorem dX8_lossThreshold_1 : decode cX8_lossThreshold 1 = .ok (.getfield 49, 3) := by decide +kernel
theorem dX8_lossThreshold_4 : decode cX8_lossThreshold 4 = .ok (.iconst 2, 1) := by decide +kernel
theorem dX8_lossThreshold_5 : decode cX8_lossThreshold 5 = .ok (.if_icmp .ne 15, 3) := by decide +kernel
theorem dX8_lossThreshold_8 : decode cX8_lossThreshold 8 = .ok (.aload_n 0, 1) := by decide +kernel
theorem dX8_lossThreshold_9 : decode cX8_lossThreshold 9 = .ok (.getfield 42, 3) := by decide +kernel
theorem dX8_lossThreshold_12 : decode cX8_lossThreshold 12 = .ok (.aload_n 0, 1) := by decide +kernel
theorem dX8_lossThreshold_13 : decode cX8_lossThreshold 13 = .ok (.getfield 9, 3) := by decide +kernel
theorem dX8_lossThreshold_16 : decode cX8_lossThreshold 16 = .ok (.invokevirtual 232, 3) := by decide +kernel
theorem dX8_lossThreshold_19 : decode cX8_lossThreshold 19 = .ok (.ireturn, 1) := by decide +kernel
theorem dX8_lossThreshold_20 : decode cX8_lossThreshold 20 = .ok (.sipush 2048, 3) := by decide +kernel
theorem dX8_lossThreshold_23 : decode cX8_lossThreshold 23 = .ok (.aload_n 0, 1) := by decide +kernel
theorem dX8_lossThreshold_24 : decode cX8_lossThreshold 24 = .ok (.getfield 65, 3) := by decide +kernel
theorem dX8_lossThreshold_27 : decode cX8_lossThreshold 27 = .ok (.aload_n 0, 1) := by decide +kernel
theorem dX8_lossThreshold_28 : decode cX8_lossThreshold 28 = .ok (.getfield 59, 3) := by decide +kernel
theorem dX8_lossThreshold_31 : decode cX8_lossThreshold 31 = .ok (.isub, 1) := by decide +kernel
theorem dX8_lossThreshold_32 : decode cX8_lossThreshold 32 = .ok (.sipush 512, 3) := by decide +kernel
theorem dX8_lossThreshold_35 : decode cX8_lossThreshold 35 = .ok (.imul, 1) := by decide +kernel
theorem dX8_lossThreshold_36 : decode cX8_lossThreshold 36 = .ok (.invokestatic 191, 3) := by decide +kernel
theorem dX8_lossThreshold_39 : decode cX8_lossThreshold 39 = .ok (.ireturn, 1) := by decide +kernel
theorem dX8_setCwnd_0 : decode cX8_setCwnd 0 = .ok (.aload_n 0, 1) := by decide +kernel
theorem dX8_setCwnd_1 : decode cX8_setCwnd 1 = .ok (.ldc 235, 2) := by decide +kernel
theorem dX8_setCwnd_3 : decode cX8_setCwnd 3 = .ok (.iload_n 1, 1) := by decide +kernel
theorem dX8_setCwnd_4 : decode cX8_setCwnd 4 = .ok (.invokestatic 236, 3) := by decide +kernel
theorem dX8_setCwnd_7 : decode cX8_setCwnd 7 = .ok (.putfield 9, 3) := by decide +kernel
theorem dX8_setCwnd_10 : decode cX8_setCwnd 10 = .ok (.aload_n 0, 1) := by decide +kernel
theorem dX8_setCwnd_11 : decode cX8_setCwnd 11 = .ok (.aload_n 0, 1) := by decide +kernel
theorem dX8_setCwnd_12 : decode cX8_setCwnd 12 = .ok (.getfield 15, 3) := by decide +kernel
theorem dX8_setCwnd_15 : decode cX8_setCwnd 15 = .ok (.aload_n 0, 1) := by decide +kernel
theorem dX8_setCwnd_16 : decode cX8_setCwnd 16 = .ok (.getfield 9, 3) := by decide +kernel
theorem dX8_setCwnd_19 : decode cX8_setCwnd 19 = .ok (.invokestatic 191, 3) := by decide +kernel
theorem dX8_setCwnd_22 : decode cX8_setCwnd 22 = .ok (.putfield 15, 3) := by decide +kernel
theorem dX8_setCwnd_25 : decode cX8_setCwnd 25 = .ok (.return_, 1) := by decide +kernel
theorem dX9_init_0 : decode cX9_init 0 = .ok (.aload_n 0, 1) := by decide +kernel
theorem dX9_init_1 : decode cX9_init 1 = .ok (.invokespecial 3, 3) := by decide +kernel
theorem dX9_init_4 : decode cX9_init 4 = .ok (.aload_n 0, 1) := by decide +kernel
theorem dX9_init_5 : decode cX9_init 5 = .ok (.sipush 1000, 3) := by decide +kernel
theorem dX9_init_8 : decode cX9_init 8 = .ok (.putfield 9, 3) := by decide +kernel
theorem dX9_init_11 : decode cX9_init 11 = .ok (.aload_n 0, 1) := by decide +kernel
theorem dX9_init_12 : decode cX9_init 12 = .ok (.iconst (-1), 1) := by decide +kernel
theorem dX9_init_13 : decode cX9_init 13 = .ok (.putfield 15, 3) := by decide +kernel
theorem dX9_init_16 : decode cX9_init 16 = .ok (.aload_n 0, 1) := by decide +kernel
theorem dX9_init_17 : decode cX9_init 17 = .ok (.iconst (-1), 1) := by decide +kernel
theorem dX9_init_18 : decode cX9_init 18 = .ok (.putfield 18, 3) := by decide +kernel
theorem dX9_init_21 : decode cX9_init 21 = .ok (.return_, 1) := by decide +kernel
theorem dX9_set_0 : decode cX9_set 0 = .ok (.aload_n 0, 1) := by decide +kernel
theorem dX9_set_1 : decode cX9_set 1 = .ok (.iload_n 1, 1) := by decide +kernel
theorem dX9_set_2 : decode cX9_set 2 = .ok (.aload_n 0, 1) := by decide +kernel
theorem dX9_set_3 : decode cX9_set 3 = .ok (.getfield 9, 3) := by decide +kernel
theorem dX9_set_6 : decode cX9_set 6 = .ok (.iadd, 1) := by decide +kernel
theorem dX9_set_7 : decode cX9_set 7 = .ok (.putfield 15, 3) := by decide +kernel
theorem dX9_set_10 : decode cX9_set 10 = .ok (.return_, 1) := by decide +kernel
theorem dX9_setIfOff_0 : decode cX9_setIfOff 0 = .ok (.aload_n 0, 1) := by decide +kernel
theorem dX9_setIfOff_1 : decode cX9_setIfOff 1 = .ok (.getfield 15, 3) := by decide +kernel
theorem dX9_setIfOff_4 : decode cX9_setIfOff 4 = .ok (.iconst (-1), 1) := by decide +kernel
theorem dX9_setIfOff_5 : decode cX9_setIfOff 5 = .ok (.if_icmp .ne 8, 3) := by decide +kernel
theorem dX9_setIfOff_8 : decode cX9_setIfOff 8 = .ok (.aload_n 0, 1) := by decide +kernel
theorem dX9_setIfOff_9 : decode cX9_setIfOff 9 = .ok (.iload_n 1, 1) := by decide +kernel
theorem dX9_setIfOff_10 : decode cX9_setIfOff 10 = .ok (.invokevirtual 21, 3) := by decide +kernel
theorem dX9_setIfOff_13 : decode cX9_setIfOff 13 = .ok (.return_, 1) := by decide +kernel
theorem dX9_putOff_0 : decode cX9_putOff 0 = .ok (.aload_n 0, 1) := by decide +kernel
theorem dX9_putOff_1 : decode cX9_putOff 1 = .ok (.iconst (-1), 1) := by decide +kernel
theorem dX9_putOff_2 : decode cX9_putOff 2 = .ok (.putfield 15, 3) := by decide +kernel
theorem dX9_putOff_5 : decode cX9_putOff 5 = .ok (.return_, 1) := by decide +kernel
theorem dX9_doubleRto_0 : decode cX9_doubleRto 0 = .ok (.aload_n 0, 1) := by decide +kernel
theorem dX9_doubleRto_1 : decode cX9_doubleRto 1 = .ok (.ldc 25, 2) := by decide +kernel
theorem dX9_doubleRto_3 : decode cX9_doubleRto 3 = .ok (.aload_n 0, 1) := by decide +kernel
theorem dX9_doubleRto_4 : decode cX9_doubleRto 4 = .ok (.getfield 9, 3) := by decide +kernel
theorem dX9_doubleRto_7 : decode cX9_doubleRto 7 = .ok (.iconst 2, 1) := by decide +kernel
theorem dX9_doubleRto_8 : decode cX9_doubleRto 8 = .ok (.imul, 1) := by decide +kernel
theorem dX9_doubleRto_9 : decode cX9_doubleRto 9 = .ok (.invokestatic 26, 3) := by decide +kernel
theorem dX9_doubleRto_12 : decode cX9_doubleRto 12 = .ok (.putfield 9, 3) := by decide +kernel
theorem dX9_doubleRto_15 : decode cX9_doubleRto 15 = .ok (.return_, 1) := by decide +kernel
theorem dX9_noteSent_0 : decode cX9_noteSent 0 = .ok (.iload_n 2, 1) := by decide +kernel
theorem dX9_noteSent_1 : decode cX9_noteSent 1 = .ok (.ifCond .eq 26, 3) := by decide +kernel
theorem dX9_noteSent_4 : decode cX9_noteSent 4 = .ok (.aload_n 0, 1) := by decide +kernel
theorem dX9_noteSent_5 : decode cX9_noteSent 5 = .ok (.iload_n 1, 1) := by decide +kernel
theorem dX9_noteSent_6 : decode cX9_noteSent 6 = .ok (.aload_n 0, 1) := by decide +kernel
theorem dX9_noteSent_7 : decode cX9_noteSent 7 = .ok (.getfield 18, 3) := by decide +kernel
theorem dX9_noteSent_10 : decode cX9_noteSent 10 = .ok (.if_icmp .ne 7, 3) := by decide +kernel
theorem dX9_noteSent_13 : decode cX9_noteSent 13 = .ok (.iconst (-1), 1) := by decide +kernel
theorem dX9_noteSent_14 : decode cX9_noteSent 14 = .ok (.goto 7, 3) := by decide +kernel
theorem dX9_noteSent_17 : decode cX9_noteSent 17 = .ok (.aload_n 0, 1) := by decide +kernel
theorem dX9_noteSent_18 : decode cX9_noteSent 18 = .ok (.getfield 18, 3) := by decide +kernel
theorem dX9_noteSent_21 : decode cX9_noteSent 21 = .ok (.putfield 18, 3) := by decide +kernel
theorem dX9_noteSent_24 : decode cX9_noteSent 24 = .ok (.goto 21, 3) := by decide +kernel
theorem dX9_noteSent_27 : decode cX9_noteSent 27 = .ok (.aload_n 0, 1) := by decide +kernel
theorem dX9_noteSent_28 : decode cX9_noteSent 28 = .ok (.getfield 18, 3) := by decide +kernel
theorem dX9_noteSent_31 : decode cX9_noteSent 31 = .ok (.iconst (-1), 1) := by decide +kernel
theorem dX9_noteSent_32 : decode cX9_noteSent 32 = .ok (.if_icmp .ne 13, 3) := by decide +kernel
theorem dX9_noteSent_35 : decode cX9_noteSent 35 = .ok (.aload_n 0, 1) := by decide +kernel
theorem dX9_noteSent_36 : decode cX9_noteSent 36 = .ok (.iload_n 1, 1) := by decide +kernel
theorem dX9_noteSent_37 : decode cX9_noteSent 37 = .ok (.putfield 18, 3) := by decide +kernel
theorem dX9_noteSent_40 : decode cX9_noteSent 40 = .ok (.aload_n 0, 1) := by decide +kernel
theorem dX9_noteSent_41 : decode cX9_noteSent 41 = .ok (.iload_n 3, 1) := by decide +kernel
theorem dX9_noteSent_42 : decode cX9_noteSent 42 = .ok (.putfield 32, 3) := by decide +kernel
theorem dX9_noteSent_45 : decode cX9_noteSent 45 = .ok (.aload_n 0, 1) := by decide +kernel
theorem dX9_noteSent_46 : decode cX9_noteSent 46 = .ok (.iload_n 3, 1) := by decide +kernel
theorem dX9_noteSent_47 : decode cX9_noteSent 47 = .ok (.invokevirtual 35, 3) := by decide +kernel
theorem dX9_noteSent_50 : decode cX9_noteSent 50 = .ok (.return_, 1) := by decide +kernel
theorem dX9_noteTold_0 : decode cX9_noteTold 0 = .ok (.aload_n 0, 1) := by decide +kernel
theorem dX9_noteTold_1 : decode cX9_noteTold 1 = .ok (.getfield 18, 3) := by decide +kernel
theorem dX9_noteTold_4 : decode cX9_noteTold 4 = .ok (.iconst (-1), 1) := by decide +kernel
theorem dX9_noteTold_5 : decode cX9_noteTold 5 = .ok (.if_icmp .eq 26, 3) := by decide +kernel
theorem dX9_noteTold_8 : decode cX9_noteTold 8 = .ok (.iload_n 1, 1) := by decide +kernel
theorem dX9_noteTold_9 : decode cX9_noteTold 9 = .ok (.aload_n 0, 1) := by decide +kernel
theorem dX9_noteTold_10 : decode cX9_noteTold 10 = .ok (.getfield 18, 3) := by decide +kernel
theorem dX9_noteTold_13 : decode cX9_noteTold 13 = .ok (.if_icmp .le 18, 3) := by decide +kernel
theorem dX9_noteTold_16 : decode cX9_noteTold 16 = .ok (.aload_n 0, 1) := by decide +kernel
theorem dX9_noteTold_17 : decode cX9_noteTold 17 = .ok (.iconst (-1), 1) := by decide +kernel
theorem dX9_noteTold_18 : decode cX9_noteTold 18 = .ok (.putfield 18, 3) := by decide +kernel
theorem dX9_noteTold_21 : decode cX9_noteTold 21 = .ok (.aload_n 0, 1) := by decide +kernel
theorem dX9_noteTold_22 : decode cX9_noteTold 22 = .ok (.iload_n 2, 1) := by decide +kernel
theorem dX9_noteTold_23 : decode cX9_noteTold 23 = .ok (.aload_n 0, 1) := by decide +kernel
theorem dX9_noteTold_24 : decode cX9_noteTold 24 = .ok (.getfield 32, 3) := by decide +kernel
theorem dX9_noteTold_27 : decode cX9_noteTold 27 = .ok (.isub, 1) := by decide +kernel
theorem dX9_noteTold_28 : decode cX9_noteTold 28 = .ok (.invokevirtual 38, 3) := by decide +kernel
theorem dX9_noteTold_31 : decode cX9_noteTold 31 = .ok (.return_, 1) := by decide +kernel
theorem dX9_learn_0 : decode cX9_learn 0 = .ok (.aload_n 0, 1) := by decide +kernel
theorem dX9_learn_1 : decode cX9_learn 1 = .ok (.getfield 41, 3) := by decide +kernel
theorem dX9_learn_4 : decode cX9_learn 4 = .ok (.ifCond .ne 21, 3) := by decide +kernel
theorem dX9_learn_7 : decode cX9_learn 7 = .ok (.aload_n 0, 1) := by decide +kernel
theorem dX9_learn_8 : decode cX9_learn 8 = .ok (.bipush 8, 2) := by decide +kernel
theorem dX9_learn_10 : decode cX9_learn 10 = .ok (.iload_n 1, 1) := by decide +kernel
theorem dX9_learn_11 : decode cX9_learn 11 = .ok (.imul, 1) := by decide +kernel
theorem dX9_learn_12 : decode cX9_learn 12 = .ok (.putfield 41, 3) := by decide +kernel
theorem dX9_learn_15 : decode cX9_learn 15 = .ok (.aload_n 0, 1) := by decide +kernel
theorem dX9_learn_16 : decode cX9_learn 16 = .ok (.iconst 2, 1) := by decide +kernel
theorem dX9_learn_17 : decode cX9_learn 17 = .ok (.iload_n 1, 1) := by decide +kernel
theorem dX9_learn_18 : decode cX9_learn 18 = .ok (.imul, 1) := by decide +kernel
theorem dX9_learn_19 : decode cX9_learn 19 = .ok (.putfield 44, 3) := by decide +kernel
theorem dX9_learn_22 : decode cX9_learn 22 = .ok (.goto 49, 3) := by decide +kernel
theorem dX9_learn_25 : decode cX9_learn 25 = .ok (.aload_n 0, 1) := by decide +kernel
theorem dX9_learn_26 : decode cX9_learn 26 = .ok (.aload_n 0, 1) := by decide +kernel
theorem dX9_learn_27 : decode cX9_learn 27 = .ok (.getfield 44, 3) := by decide +kernel
theorem dX9_learn_30 : decode cX9_learn 30 = .ok (.aload_n 0, 1) := by decide +kernel
theorem dX9_learn_31 : decode cX9_learn 31 = .ok (.getfield 44, 3) := by decide +kernel
theorem dX9_learn_34 : decode cX9_learn 34 = .ok (.iconst 4, 1) := by decide +kernel
theorem dX9_learn_35 : decode cX9_learn 35 = .ok (.idiv, 1) := by decide +kernel
theorem dX9_learn_36 : decode cX9_learn 36 = .ok (.isub, 1) := by decide +kernel
theorem dX9_learn_37 : decode cX9_learn 37 = .ok (.aload_n 0, 1) := by decide +kernel
theorem dX9_learn_38 : decode cX9_learn 38 = .ok (.getfield 41, 3) := by decide +kernel
theorem dX9_learn_41 : decode cX9_learn 41 = .ok (.bipush 8, 2) := by decide +kernel
theorem dX9_learn_43 : decode cX9_learn 43 = .ok (.idiv, 1) := by decide +kernel
theorem dX9_learn_44 : decode cX9_learn 44 = .ok (.iload_n 1, 1) := by decide +kernel
theorem dX9_learn_45 : decode cX9_learn 45 = .ok (.isub, 1) := by decide +kernel
theorem dX9_learn_46 : decode cX9_learn 46 = .ok (.invokestatic 47, 3) := by decide +kernel
theorem dX9_learn_49 : decode cX9_learn 49 = .ok (.iadd, 1) := by decide +kernel
theorem dX9_learn_50 : decode cX9_learn 50 = .ok (.putfield 44, 3) := by decide +kernel
theorem dX9_learn_53 : decode cX9_learn 53 = .ok (.aload_n 0, 1) := by decide +kernel
theorem dX9_learn_54 : decode cX9_learn 54 = .ok (.aload_n 0, 1) := by decide +kernel
theorem dX9_learn_55 : decode cX9_learn 55 = .ok (.getfield 41, 3) := by decide +kernel
theorem dX9_learn_58 : decode cX9_learn 58 = .ok (.aload_n 0, 1) := by decide +kernel
theorem dX9_learn_59 : decode cX9_learn 59 = .ok (.getfield 41, 3) := by decide +kernel
theorem dX9_learn_62 : decode cX9_learn 62 = .ok (.bipush 8, 2) := by decide +kernel
theorem dX9_learn_64 : decode cX9_learn 64 = .ok (.idiv, 1) := by decide +kernel
theorem dX9_learn_65 : decode cX9_learn 65 = .ok (.isub, 1) := by decide +kernel
theorem dX9_learn_66 : decode cX9_learn 66 = .ok (.iload_n 1, 1) := by decide +kernel
theorem dX9_learn_67 : decode cX9_learn 67 = .ok (.iadd, 1) := by decide +kernel
theorem dX9_learn_68 : decode cX9_learn 68 = .ok (.putfield 41, 3) := by decide +kernel
theorem dX9_learn_71 : decode cX9_learn 71 = .ok (.aload_n 0, 1) := by decide +kernel
theorem dX9_learn_72 : decode cX9_learn 72 = .ok (.getfield 41, 3) := by decide +kernel
theorem dX9_learn_75 : decode cX9_learn 75 = .ok (.bipush 8, 2) := by decide +kernel
theorem dX9_learn_77 : decode cX9_learn 77 = .ok (.idiv, 1) := by decide +kernel
theorem dX9_learn_78 : decode cX9_learn 78 = .ok (.iconst 1, 1) := by decide +kernel
theorem dX9_learn_79 : decode cX9_learn 79 = .ok (.aload_n 0, 1) := by decide +kernel
theorem dX9_learn_80 : decode cX9_learn 80 = .ok (.getfield 44, 3) := by decide +kernel
theorem dX9_learn_83 : decode cX9_learn 83 = .ok (.invokestatic 51, 3) := by decide +kernel
theorem dX9_learn_86 : decode cX9_learn 86 = .ok (.iadd, 1) := by decide +kernel
theorem dX9_learn_87 : decode cX9_learn 87 = .ok (.istore_n 2, 1) := by decide +kernel
theorem dX9_learn_88 : decode cX9_learn 88 = .ok (.aload_n 0, 1) := by decide +kernel
theorem dX9_learn_89 : decode cX9_learn 89 = .ok (.ldc 25, 2) := by decide +kernel
theorem dX9_learn_91 : decode cX9_learn 91 = .ok (.sipush 200, 3) := by decide +kernel
theorem dX9_learn_94 : decode cX9_learn 94 = .ok (.iload_n 2, 1) := by decide +kernel
theorem dX9_learn_95 : decode cX9_learn 95 = .ok (.invokestatic 51, 3) := by decide +kernel
theorem dX9_learn_98 : decode cX9_learn 98 = .ok (.invokestatic 26, 3) := by decide +kernel
theorem dX9_learn_101 : decode cX9_learn 101 = .ok (.putfield 9, 3) := by decide +kernel
theorem dX9_learn_104 : decode cX9_learn 104 = .ok (.return_, 1) := by decide +kernel
theorem dX10_init_0 : decode cX10_init 0 = .ok (.aload_n 0, 1) := by decide +kernel
theorem dX10_init_1 : decode cX10_init 1 = .ok (.invokespecial 1, 3) := by decide +kernel
theorem dX10_init_4 : decode cX10_init 4 = .ok (.aload_n 0, 1) := by decide +kernel
theorem dX10_init_5 : decode cX10_init 5 = .ok (.new 7, 3) := by decide +kernel
theorem dX10_init_8 : decode cX10_init 8 = .ok (.dup, 1) := by decide +kernel
theorem dX10_init_9 : decode cX10_init 9 = .ok (.invokespecial 9, 3) := by decide +kernel
theorem dX10_init_12 : decode cX10_init 12 = .ok (.putfield 10, 3) := by decide +kernel
theorem dX10_init_15 : decode cX10_init 15 = .ok (.aload_n 0, 1) := by decide +kernel
theorem dX10_init_16 : decode cX10_init 16 = .ok (.iconst 0, 1) := by decide +kernel
theorem dX10_init_17 : decode cX10_init 17 = .ok (.anewarray 16, 3) := by decide +kernel
theorem dX10_init_20 : decode cX10_init 20 = .ok (.putfield 18, 3) := by decide +kernel
theorem dX10_init_23 : decode cX10_init 23 = .ok (.return_, 1) := by decide +kernel
theorem dX10_link_0 : decode cX10_link 0 = .ok (.iload_n 1, 1) := by decide +kernel
theorem dX10_link_1 : decode cX10_link 1 = .ok (.iconst 1, 1) := by decide +kernel
theorem dX10_link_2 : decode cX10_link 2 = .ok (.bipush 100, 2) := by decide +kernel
theorem dX10_link_4 : decode cX10_link 4 = .ok (.invokestatic 22, 3) := by decide +kernel
theorem dX10_link_7 : decode cX10_link 7 = .ok (.ifCond .eq 40, 3) := by decide +kernel
theorem dX10_link_10 : decode cX10_link 10 = .ok (.iload_n 2, 1) := by decide +kernel
theorem dX10_link_11 : decode cX10_link 11 = .ok (.iconst 0, 1) := by decide +kernel
theorem dX10_link_12 : decode cX10_link 12 = .ok (.bipush 100, 2) := by decide +kernel
theorem dX10_link_14 : decode cX10_link 14 = .ok (.invokestatic 22, 3) := by decide +kernel
theorem dX10_link_17 : decode cX10_link 17 = .ok (.ifCond .eq 30, 3) := by decide +kernel
theorem dX10_link_20 : decode cX10_link 20 = .ok (.iload_n 3, 1) := by decide +kernel
theorem dX10_link_21 : decode cX10_link 21 = .ok (.iconst 1, 1) := by decide +kernel
theorem dX10_link_22 : decode cX10_link 22 = .ok (.sipush 1000, 3) := by decide +kernel
theorem dX10_link_25 : decode cX10_link 25 = .ok (.invokestatic 22, 3) := by decide +kernel
theorem dX10_link_28 : decode cX10_link 28 = .ok (.ifCond .eq 19, 3) := by decide +kernel
theorem dX10_link_31 : decode cX10_link 31 = .ok (.iload 4, 2) := by decide +kernel
theorem dX10_link_33 : decode cX10_link 33 = .ok (.iconst 1, 1) := by decide +kernel
theorem dX10_link_34 : decode cX10_link 34 = .ok (.sipush 1000, 3) := by decide +kernel
theorem dX10_link_37 : decode cX10_link 37 = .ok (.invokestatic 22, 3) := by decide +kernel
theorem dX10_link_40 : decode cX10_link 40 = .ok (.ifCond .eq 7, 3) := by decide +kernel
theorem dX10_link_43 : decode cX10_link 43 = .ok (.iconst 1, 1) := by decide +kernel
theorem dX10_link_44 : decode cX10_link 44 = .ok (.goto 4, 3) := by decide +kernel
theorem dX10_link_47 : decode cX10_link 47 = .ok (.iconst 0, 1) := by decide +kernel
theorem dX10_link_48 : decode cX10_link 48 = .ok (.istore 5, 2) := by decide +kernel
theorem dX10_link_50 : decode cX10_link 50 = .ok (.iload 5, 2) := by decide +kernel
theorem dX10_link_52 : decode cX10_link 52 = .ok (.ifCond .eq 15, 3) := by decide +kernel
theorem dX10_link_55 : decode cX10_link 55 = .ok (.aload_n 0, 1) := by decide +kernel
theorem dX10_link_56 : decode cX10_link 56 = .ok (.getfield 10, 3) := by decide +kernel
theorem dX10_link_59 : decode cX10_link 59 = .ok (.iload_n 1, 1) := by decide +kernel
theorem dX10_link_60 : decode cX10_link 60 = .ok (.iload_n 2, 1) := by decide +kernel
theorem dX10_link_61 : decode cX10_link 61 = .ok (.iload_n 3, 1) := by decide +kernel
theorem dX10_link_62 : decode cX10_link 62 = .ok (.iload 4, 2) := by decide +kernel
theorem dX10_link_64 : decode cX10_link 64 = .ok (.invokevirtual 26, 3) := by decide +kernel
theorem dX10_link_67 : decode cX10_link 67 = .ok (.iload 5, 2) := by decide +kernel
theorem dX10_link_69 : decode cX10_link 69 = .ok (.ireturn, 1) := by decide +kernel
theorem dX10_flow_0 : decode cX10_flow 0 = .ok (.aload_n 0, 1) := by decide +kernel
theorem dX10_flow_1 : decode cX10_flow 1 = .ok (.getfield 18, 3) := by decide +kernel
theorem dX10_flow_4 : decode cX10_flow 4 = .ok (.arraylength, 1) := by decide +kernel
theorem dX10_flow_5 : decode cX10_flow 5 = .ok (.istore_n 3, 1) := by decide +kernel
theorem dX10_flow_6 : decode cX10_flow 6 = .ok (.iload_n 3, 1) := by decide +kernel
theorem dX10_flow_7 : decode cX10_flow 7 = .ok (.iconst 4, 1) := by decide +kernel
theorem dX10_flow_8 : decode cX10_flow 8 = .ok (.if_icmp .ge 12, 3) := by decide +kernel
theorem dX10_flow_11 : decode cX10_flow 11 = .ok (.iload_n 1, 1) := by decide +kernel
theorem dX10_flow_12 : decode cX10_flow 12 = .ok (.iconst 0, 1) := by decide +kernel
theorem dX10_flow_13 : decode cX10_flow 13 = .ok (.iconst 3, 1) := by decide +kernel
theorem dX10_flow_14 : decode cX10_flow 14 = .ok (.invokestatic 22, 3) := by decide +kernel
theorem dX10_flow_17 : decode cX10_flow 17 = .ok (.ifCond .ne 5, 3) := by decide +kernel
theorem dX10_flow_20 : decode cX10_flow 20 = .ok (.iconst (-1), 1) := by decide +kernel
theorem dX10_flow_21 : decode cX10_flow 21 = .ok (.ireturn, 1) := by decide +kernel
theorem dX10_flow_22 : decode cX10_flow 22 = .ok (.iload_n 3, 1) := by decide +kernel
theorem dX10_flow_23 : decode cX10_flow 23 = .ok (.iconst 1, 1) := by decide +kernel
theorem dX10_flow_24 : decode cX10_flow 24 = .ok (.iadd, 1) := by decide +kernel
theorem dX10_flow_25 : decode cX10_flow 25 = .ok (.anewarray 16, 3) := by decide +kernel
theorem dX10_flow_28 : decode cX10_flow 28 = .ok (.astore 4, 2) := by decide +kernel
theorem dX10_flow_30 : decode cX10_flow 30 = .ok (.iconst 0, 1) := by decide +kernel
theorem dX10_flow_31 : decode cX10_flow 31 = .ok (.istore 5, 2) := by decide +kernel
theorem dX10_flow_33 : decode cX10_flow 33 = .ok (.iload 5, 2) := by decide +kernel
theorem dX10_flow_35 : decode cX10_flow 35 = .ok (.iload_n 3, 1) := by decide +kernel
theorem dX10_flow_36 : decode cX10_flow 36 = .ok (.if_icmp .ge 21, 3) := by decide +kernel
theorem dX10_flow_39 : decode cX10_flow 39 = .ok (.aload 4, 2) := by decide +kernel
theorem dX10_flow_41 : decode cX10_flow 41 = .ok (.iload 5, 2) := by decide +kernel
theorem dX10_flow_43 : decode cX10_flow 43 = .ok (.aload_n 0, 1) := by decide +kernel
theorem dX10_flow_44 : decode cX10_flow 44 = .ok (.getfield 18, 3) := by decide +kernel
theorem dX10_flow_47 : decode cX10_flow 47 = .ok (.iload 5, 2) := by decide +kernel
theorem dX10_flow_49 : decode cX10_flow 49 = .ok (.aaload, 1) := by decide +kernel
theorem dX10_flow_50 : decode cX10_flow 50 = .ok (.aastore, 1) := by decide +kernel
theorem dX10_flow_51 : decode cX10_flow 51 = .ok (.iinc 5 1, 3) := by decide +kernel
theorem dX10_flow_54 : decode cX10_flow 54 = .ok (.goto (-21), 3) := by decide +kernel
theorem dX10_flow_57 : decode cX10_flow 57 = .ok (.aload 4, 2) := by decide +kernel
theorem dX10_flow_59 : decode cX10_flow 59 = .ok (.iload_n 3, 1) := by decide +kernel
theorem dX10_flow_60 : decode cX10_flow 60 = .ok (.new 16, 3) := by decide +kernel
theorem dX10_flow_63 : decode cX10_flow 63 = .ok (.dup, 1) := by decide +kernel
theorem dX10_flow_64 : decode cX10_flow 64 = .ok (.iload_n 3, 1) := by decide +kernel
theorem dX10_flow_65 : decode cX10_flow 65 = .ok (.iload_n 1, 1) := by decide +kernel
theorem dX10_flow_66 : decode cX10_flow 66 = .ok (.iload_n 2, 1) := by decide +kernel
theorem dX10_flow_67 : decode cX10_flow 67 = .ok (.invokespecial 30, 3) := by decide +kernel
theorem dX10_flow_70 : decode cX10_flow 70 = .ok (.aastore, 1) := by decide +kernel
theorem dX10_flow_71 : decode cX10_flow 71 = .ok (.aload_n 0, 1) := by decide +kernel
theorem dX10_flow_72 : decode cX10_flow 72 = .ok (.aload 4, 2) := by decide +kernel
theorem dX10_flow_74 : decode cX10_flow 74 = .ok (.putfield 18, 3) := by decide +kernel
theorem dX10_flow_77 : decode cX10_flow 77 = .ok (.iload_n 3, 1) := by decide +kernel
theorem dX10_flow_78 : decode cX10_flow 78 = .ok (.ireturn, 1) := by decide +kernel
theorem dX10_send_0 : decode cX10_send 0 = .ok (.aload_n 0, 1) := by decide +kernel
theorem dX10_send_1 : decode cX10_send 1 = .ok (.iload_n 1, 1) := by decide +kernel
theorem dX10_send_2 : decode cX10_send 2 = .ok (.invokevirtual 33, 3) := by decide +kernel
theorem dX10_send_5 : decode cX10_send 5 = .ok (.ifCond .eq 13, 3) := by decide +kernel
theorem dX10_send_8 : decode cX10_send 8 = .ok (.iload_n 2, 1) := by decide +kernel
theorem dX10_send_9 : decode cX10_send 9 = .ok (.iconst 1, 1) := by decide +kernel
theorem dX10_send_10 : decode cX10_send 10 = .ok (.ldc 37, 2) := by decide +kernel
theorem dX10_send_12 : decode cX10_send 12 = .ok (.invokestatic 22, 3) := by decide +kernel
theorem dX10_send_15 : decode cX10_send 15 = .ok (.ifCond .ne 5, 3) := by decide +kernel
theorem dX10_send_18 : decode cX10_send 18 = .ok (.iconst (-1), 1) := by decide +kernel
theorem dX10_send_19 : decode cX10_send 19 = .ok (.ireturn, 1) := by decide +kernel
theorem dX10_send_20 : decode cX10_send 20 = .ok (.aload_n 0, 1) := by decide +kernel
theorem dX10_send_21 : decode cX10_send 21 = .ok (.getfield 18, 3) := by decide +kernel
theorem dX10_send_24 : decode cX10_send 24 = .ok (.iload_n 1, 1) := by decide +kernel
theorem dX10_send_25 : decode cX10_send 25 = .ok (.aaload, 1) := by decide +kernel
theorem dX10_send_26 : decode cX10_send 26 = .ok (.getfield 38, 3) := by decide +kernel
theorem dX10_send_29 : decode cX10_send 29 = .ok (.iload_n 2, 1) := by decide +kernel
theorem dX10_send_30 : decode cX10_send 30 = .ok (.invokevirtual 42, 3) := by decide +kernel
theorem dX10_send_33 : decode cX10_send 33 = .ok (.ireturn, 1) := by decide +kernel
theorem dX10_window_0 : decode cX10_window 0 = .ok (.aload_n 0, 1) := by decide +kernel
theorem dX10_window_1 : decode cX10_window 1 = .ok (.iload_n 1, 1) := by decide +kernel
theorem dX10_window_2 : decode cX10_window 2 = .ok (.invokevirtual 33, 3) := by decide +kernel
theorem dX10_window_5 : decode cX10_window 5 = .ok (.ifCond .eq 14, 3) := by decide +kernel
theorem dX10_window_8 : decode cX10_window 8 = .ok (.iload_n 2, 1) := by decide +kernel
theorem dX10_window_9 : decode cX10_window 9 = .ok (.iconst 0, 1) := by decide +kernel
theorem dX10_window_10 : decode cX10_window 10 = .ok (.sipush 200, 3) := by decide +kernel
theorem dX10_window_13 : decode cX10_window 13 = .ok (.invokestatic 22, 3) := by decide +kernel
theorem dX10_window_16 : decode cX10_window 16 = .ok (.ifCond .ne 5, 3) := by decide +kernel
theorem dX10_window_19 : decode cX10_window 19 = .ok (.iconst (-1), 1) := by decide +kernel
theorem dX10_window_20 : decode cX10_window 20 = .ok (.ireturn, 1) := by decide +kernel
theorem dX10_window_21 : decode cX10_window 21 = .ok (.aload_n 0, 1) := by decide +kernel
theorem dX10_window_22 : decode cX10_window 22 = .ok (.getfield 18, 3) := by decide +kernel
theorem dX10_window_25 : decode cX10_window 25 = .ok (.iload_n 1, 1) := by decide +kernel
theorem dX10_window_26 : decode cX10_window 26 = .ok (.aaload, 1) := by decide +kernel
theorem dX10_window_27 : decode cX10_window 27 = .ok (.getfield 48, 3) := by decide +kernel
theorem dX10_window_30 : decode cX10_window 30 = .ok (.iload_n 2, 1) := by decide +kernel
theorem dX10_window_31 : decode cX10_window 31 = .ok (.invokevirtual 52, 3) := by decide +kernel
theorem dX10_window_34 : decode cX10_window 34 = .ok (.ireturn, 1) := by decide +kernel
theorem dX10_lose_0 : decode cX10_lose 0 = .ok (.aload_n 0, 1) := by decide +kernel
theorem dX10_lose_1 : decode cX10_lose 1 = .ok (.getfield 10, 3) := by decide +kernel
theorem dX10_lose_4 : decode cX10_lose 4 = .ok (.iload_n 1, 1) := by decide +kernel
theorem dX10_lose_5 : decode cX10_lose 5 = .ok (.invokevirtual 57, 3) := by decide +kernel
theorem dX10_lose_8 : decode cX10_lose 8 = .ok (.ireturn, 1) := by decide +kernel
theorem dX10_run_0 : decode cX10_run 0 = .ok (.iload_n 1, 1) := by decide +kernel
theorem dX10_run_1 : decode cX10_run 1 = .ok (.iconst 1, 1) := by decide +kernel
theorem dX10_run_2 : decode cX10_run 2 = .ok (.sipush 20000, 3) := by decide +kernel
theorem dX10_run_5 : decode cX10_run 5 = .ok (.invokestatic 22, 3) := by decide +kernel
theorem dX10_run_8 : decode cX10_run 8 = .ok (.ifCond .eq 14, 3) := by decide +kernel
theorem dX10_run_11 : decode cX10_run 11 = .ok (.aload_n 0, 1) := by decide +kernel
theorem dX10_run_12 : decode cX10_run 12 = .ok (.getfield 60, 3) := by decide +kernel
theorem dX10_run_15 : decode cX10_run 15 = .ok (.ldc 64, 2) := by decide +kernel
theorem dX10_run_17 : decode cX10_run 17 = .ok (.iload_n 1, 1) := by decide +kernel
theorem dX10_run_18 : decode cX10_run 18 = .ok (.isub, 1) := by decide +kernel
theorem dX10_run_19 : decode cX10_run 19 = .ok (.if_icmp .le 5, 3) := by decide +kernel
theorem dX10_run_22 : decode cX10_run 22 = .ok (.iconst (-1), 1) := by decide +kernel
theorem dX10_run_23 : decode cX10_run 23 = .ok (.ireturn, 1) := by decide +kernel
theorem dX10_run_24 : decode cX10_run 24 = .ok (.aload_n 0, 1) := by decide +kernel
theorem dX10_run_25 : decode cX10_run 25 = .ok (.getfield 10, 3) := by decide +kernel
theorem dX10_run_28 : decode cX10_run 28 = .ok (.getfield 65, 3) := by decide +kernel
theorem dX10_run_31 : decode cX10_run 31 = .ok (.istore_n 2, 1) := by decide +kernel
theorem dX10_run_32 : decode cX10_run 32 = .ok (.aload_n 0, 1) := by decide +kernel
theorem dX10_run_33 : decode cX10_run 33 = .ok (.getfield 60, 3) := by decide +kernel
theorem dX10_run_36 : decode cX10_run 36 = .ok (.iload_n 1, 1) := by decide +kernel
theorem dX10_run_37 : decode cX10_run 37 = .ok (.iadd, 1) := by decide +kernel
theorem dX10_run_38 : decode cX10_run 38 = .ok (.istore_n 3, 1) := by decide +kernel
theorem dX10_run_39 : decode cX10_run 39 = .ok (.iconst 0, 1) := by decide +kernel
theorem dX10_run_40 : decode cX10_run 40 = .ok (.istore 4, 2) := by decide +kernel
theorem dX10_run_42 : decode cX10_run 42 = .ok (.iload 4, 2) := by decide +kernel
theorem dX10_run_44 : decode cX10_run 44 = .ok (.iload_n 1, 1) := by decide +kernel
theorem dX10_run_45 : decode cX10_run 45 = .ok (.if_icmp .ge 149, 3) := by decide +kernel
theorem dX10_run_48 : decode cX10_run 48 = .ok (.aload_n 0, 1) := by decide +kernel
theorem dX10_run_49 : decode cX10_run 49 = .ok (.getfield 60, 3) := by decide +kernel
theorem dX10_run_52 : decode cX10_run 52 = .ok (.iload_n 3, 1) := by decide +kernel
theorem dX10_run_53 : decode cX10_run 53 = .ok (.if_icmp .ge 141, 3) := by decide +kernel
theorem dX10_run_56 : decode cX10_run 56 = .ok (.aload_n 0, 1) := by decide +kernel
theorem dX10_run_57 : decode cX10_run 57 = .ok (.getfield 10, 3) := by decide +kernel
theorem dX10_run_60 : decode cX10_run 60 = .ok (.aload_n 0, 1) := by decide +kernel
theorem dX10_run_61 : decode cX10_run 61 = .ok (.getfield 60, 3) := by decide +kernel
theorem dX10_run_64 : decode cX10_run 64 = .ok (.invokevirtual 68, 3) := by decide +kernel
theorem dX10_run_67 : decode cX10_run 67 = .ok (.aload_n 0, 1) := by decide +kernel
theorem dX10_run_68 : decode cX10_run 68 = .ok (.invokevirtual 72, 3) := by decide +kernel
theorem dX10_run_71 : decode cX10_run 71 = .ok (.aload_n 0, 1) := by decide +kernel
theorem dX10_run_72 : decode cX10_run 72 = .ok (.invokevirtual 75, 3) := by decide +kernel
theorem dX10_run_75 : decode cX10_run 75 = .ok (.aload_n 0, 1) := by decide +kernel
theorem dX10_run_76 : decode cX10_run 76 = .ok (.invokevirtual 78, 3) := by decide +kernel
theorem dX10_run_79 : decode cX10_run 79 = .ok (.aload_n 0, 1) := by decide +kernel
theorem dX10_run_80 : decode cX10_run 80 = .ok (.getfield 18, 3) := by decide +kernel
theorem dX10_run_83 : decode cX10_run 83 = .ok (.astore 5, 2) := by decide +kernel
theorem dX10_run_85 : decode cX10_run 85 = .ok (.aload 5, 2) := by decide +kernel
theorem dX10_run_87 : decode cX10_run 87 = .ok (.arraylength, 1) := by decide +kernel
theorem dX10_run_88 : decode cX10_run 88 = .ok (.istore 6, 2) := by decide +kernel
theorem dX10_run_90 : decode cX10_run 90 = .ok (.iconst 0, 1) := by decide +kernel
theorem dX10_run_91 : decode cX10_run 91 = .ok (.istore 7, 2) := by decide +kernel
theorem dX10_run_93 : decode cX10_run 93 = .ok (.iload 7, 2) := by decide +kernel
theorem dX10_run_95 : decode cX10_run 95 = .ok (.iload 6, 2) := by decide +kernel
theorem dX10_run_97 : decode cX10_run 97 = .ok (.if_icmp .ge 32, 3) := by decide +kernel
theorem dX10_run_100 : decode cX10_run 100 = .ok (.aload 5, 2) := by decide +kernel
theorem dX10_run_102 : decode cX10_run 102 = .ok (.iload 7, 2) := by decide +kernel
theorem dX10_run_104 : decode cX10_run 104 = .ok (.aaload, 1) := by decide +kernel
theorem dX10_run_105 : decode cX10_run 105 = .ok (.astore 8, 2) := by decide +kernel
theorem dX10_run_107 : decode cX10_run 107 = .ok (.aload 8, 2) := by decide +kernel
theorem dX10_run_109 : decode cX10_run 109 = .ok (.getfield 38, 3) := by decide +kernel
theorem dX10_run_112 : decode cX10_run 112 = .ok (.aload_n 0, 1) := by decide +kernel
theorem dX10_run_113 : decode cX10_run 113 = .ok (.getfield 10, 3) := by decide +kernel
theorem dX10_run_116 : decode cX10_run 116 = .ok (.aload_n 0, 1) := by decide +kernel
theorem dX10_run_117 : decode cX10_run 117 = .ok (.getfield 60, 3) := by decide +kernel
theorem dX10_run_120 : decode cX10_run 120 = .ok (.invokevirtual 81, 3) := by decide +kernel
theorem dX10_run_123 : decode cX10_run 123 = .ok (.iinc 7 1, 3) := by decide +kernel
theorem dX10_run_126 : decode cX10_run 126 = .ok (.goto (-33), 3) := by decide +kernel
theorem dX10_run_129 : decode cX10_run 129 = .ok (.aload_n 0, 1) := by decide +kernel
theorem dX10_run_130 : decode cX10_run 130 = .ok (.getfield 18, 3) := by decide +kernel
theorem dX10_run_133 : decode cX10_run 133 = .ok (.astore 5, 2) := by decide +kernel
theorem dX10_run_135 : decode cX10_run 135 = .ok (.aload 5, 2) := by decide +kernel
theorem dX10_run_137 : decode cX10_run 137 = .ok (.arraylength, 1) := by decide +kernel
theorem dX10_run_138 : decode cX10_run 138 = .ok (.istore 6, 2) := by decide +kernel
theorem dX10_run_140 : decode cX10_run 140 = .ok (.iconst 0, 1) := by decide +kernel
theorem dX10_run_141 : decode cX10_run 141 = .ok (.istore 7, 2) := by decide +kernel
theorem dX10_run_143 : decode cX10_run 143 = .ok (.iload 7, 2) := by decide +kernel
theorem dX10_run_145 : decode cX10_run 145 = .ok (.iload 6, 2) := by decide +kernel
theorem dX10_run_147 : decode cX10_run 147 = .ok (.if_icmp .ge 32, 3) := by decide +kernel
theorem dX10_run_150 : decode cX10_run 150 = .ok (.aload 5, 2) := by decide +kernel
theorem dX10_run_152 : decode cX10_run 152 = .ok (.iload 7, 2) := by decide +kernel
theorem dX10_run_154 : decode cX10_run 154 = .ok (.aaload, 1) := by decide +kernel
theorem dX10_run_155 : decode cX10_run 155 = .ok (.astore 8, 2) := by decide +kernel
theorem dX10_run_157 : decode cX10_run 157 = .ok (.aload 8, 2) := by decide +kernel
theorem dX10_run_159 : decode cX10_run 159 = .ok (.getfield 38, 3) := by decide +kernel
theorem dX10_run_162 : decode cX10_run 162 = .ok (.aload_n 0, 1) := by decide +kernel
theorem dX10_run_163 : decode cX10_run 163 = .ok (.getfield 10, 3) := by decide +kernel
theorem dX10_run_166 : decode cX10_run 166 = .ok (.aload_n 0, 1) := by decide +kernel
theorem dX10_run_167 : decode cX10_run 167 = .ok (.getfield 60, 3) := by decide +kernel
theorem dX10_run_170 : decode cX10_run 170 = .ok (.invokevirtual 85, 3) := by decide +kernel
theorem dX10_run_173 : decode cX10_run 173 = .ok (.iinc 7 1, 3) := by decide +kernel
theorem dX10_run_176 : decode cX10_run 176 = .ok (.goto (-33), 3) := by decide +kernel
theorem dX10_run_179 : decode cX10_run 179 = .ok (.aload_n 0, 1) := by decide +kernel
theorem dX10_run_180 : decode cX10_run 180 = .ok (.aload_n 0, 1) := by decide +kernel
theorem dX10_run_181 : decode cX10_run 181 = .ok (.iload_n 3, 1) := by decide +kernel
theorem dX10_run_182 : decode cX10_run 182 = .ok (.invokevirtual 88, 3) := by decide +kernel
theorem dX10_run_185 : decode cX10_run 185 = .ok (.putfield 60, 3) := by decide +kernel
theorem dX10_run_188 : decode cX10_run 188 = .ok (.iinc 4 1, 3) := by decide +kernel
theorem dX10_run_191 : decode cX10_run 191 = .ok (.goto (-149), 3) := by decide +kernel
theorem dX10_run_194 : decode cX10_run 194 = .ok (.aload_n 0, 1) := by decide +kernel
theorem dX10_run_195 : decode cX10_run 195 = .ok (.getfield 10, 3) := by decide +kernel
theorem dX10_run_198 : decode cX10_run 198 = .ok (.getfield 65, 3) := by decide +kernel
theorem dX10_run_201 : decode cX10_run 201 = .ok (.iload_n 2, 1) := by decide +kernel
theorem dX10_run_202 : decode cX10_run 202 = .ok (.isub, 1) := by decide +kernel
theorem dX10_run_203 : decode cX10_run 203 = .ok (.ireturn, 1) := by decide +kernel
theorem dX10_sender_0 : decode cX10_sender 0 = .ok (.aload_n 0, 1) := by decide +kernel
theorem dX10_sender_1 : decode cX10_sender 1 = .ok (.iload_n 1, 1) := by decide +kernel
theorem dX10_sender_2 : decode cX10_sender 2 = .ok (.invokevirtual 33, 3) := by decide +kernel
theorem dX10_sender_5 : decode cX10_sender 5 = .ok (.ifCond .eq 19, 3) := by decide +kernel
theorem dX10_sender_8 : decode cX10_sender 8 = .ok (.aload_n 0, 1) := by decide +kernel
theorem dX10_sender_9 : decode cX10_sender 9 = .ok (.getfield 18, 3) := by decide +kernel
theorem dX10_sender_12 : decode cX10_sender 12 = .ok (.iload_n 1, 1) := by decide +kernel
theorem dX10_sender_13 : decode cX10_sender 13 = .ok (.aaload, 1) := by decide +kernel
theorem dX10_sender_14 : decode cX10_sender 14 = .ok (.getfield 38, 3) := by decide +kernel
theorem dX10_sender_17 : decode cX10_sender 17 = .ok (.iload_n 2, 1) := by decide +kernel
theorem dX10_sender_18 : decode cX10_sender 18 = .ok (.invokevirtual 91, 3) := by decide +kernel
theorem dX10_sender_21 : decode cX10_sender 21 = .ok (.goto 4, 3) := by decide +kernel
theorem dX10_sender_24 : decode cX10_sender 24 = .ok (.iconst (-1), 1) := by decide +kernel
theorem dX10_sender_25 : decode cX10_sender 25 = .ok (.ireturn, 1) := by decide +kernel
theorem dX10_receiver_0 : decode cX10_receiver 0 = .ok (.aload_n 0, 1) := by decide +kernel
theorem dX10_receiver_1 : decode cX10_receiver 1 = .ok (.iload_n 1, 1) := by decide +kernel
theorem dX10_receiver_2 : decode cX10_receiver 2 = .ok (.invokevirtual 33, 3) := by decide +kernel
theorem dX10_receiver_5 : decode cX10_receiver 5 = .ok (.ifCond .eq 19, 3) := by decide +kernel
theorem dX10_receiver_8 : decode cX10_receiver 8 = .ok (.aload_n 0, 1) := by decide +kernel
theorem dX10_receiver_9 : decode cX10_receiver 9 = .ok (.getfield 18, 3) := by decide +kernel
theorem dX10_receiver_12 : decode cX10_receiver 12 = .ok (.iload_n 1, 1) := by decide +kernel
theorem dX10_receiver_13 : decode cX10_receiver 13 = .ok (.aaload, 1) := by decide +kernel
theorem dX10_receiver_14 : decode cX10_receiver 14 = .ok (.getfield 48, 3) := by decide +kernel
theorem dX10_receiver_17 : decode cX10_receiver 17 = .ok (.iload_n 2, 1) := by decide +kernel
theorem dX10_receiver_18 : decode cX10_receiver 18 = .ok (.invokevirtual 94, 3) := by decide +kernel
theorem dX10_receiver_21 : decode cX10_receiver 21 = .ok (.goto 4, 3) := by decide +kernel
theorem dX10_receiver_24 : decode cX10_receiver 24 = .ok (.iconst (-1), 1) := by decide +kernel
theorem dX10_receiver_25 : decode cX10_receiver 25 = .ok (.ireturn, 1) := by decide +kernel
theorem dX10_kept_0 : decode cX10_kept 0 = .ok (.aload_n 0, 1) := by decide +kernel
theorem dX10_kept_1 : decode cX10_kept 1 = .ok (.iload_n 1, 1) := by decide +kernel
theorem dX10_kept_2 : decode cX10_kept 2 = .ok (.invokevirtual 33, 3) := by decide +kernel
theorem dX10_kept_5 : decode cX10_kept 5 = .ok (.ifCond .eq 19, 3) := by decide +kernel
theorem dX10_kept_8 : decode cX10_kept 8 = .ok (.aload_n 0, 1) := by decide +kernel
theorem dX10_kept_9 : decode cX10_kept 9 = .ok (.getfield 18, 3) := by decide +kernel
theorem dX10_kept_12 : decode cX10_kept 12 = .ok (.iload_n 1, 1) := by decide +kernel
theorem dX10_kept_13 : decode cX10_kept 13 = .ok (.aaload, 1) := by decide +kernel
theorem dX10_kept_14 : decode cX10_kept 14 = .ok (.getfield 48, 3) := by decide +kernel
theorem dX10_kept_17 : decode cX10_kept 17 = .ok (.iload_n 2, 1) := by decide +kernel
theorem dX10_kept_18 : decode cX10_kept 18 = .ok (.invokevirtual 95, 3) := by decide +kernel
theorem dX10_kept_21 : decode cX10_kept 21 = .ok (.goto 4, 3) := by decide +kernel
theorem dX10_kept_24 : decode cX10_kept 24 = .ok (.iconst (-1), 1) := by decide +kernel
theorem dX10_kept_25 : decode cX10_kept 25 = .ok (.ireturn, 1) := by decide +kernel
theorem dX10_most_0 : decode cX10_most 0 = .ok (.aload_n 0, 1) := by decide +kernel
theorem dX10_most_1 : decode cX10_most 1 = .ok (.iload_n 1, 1) := by decide +kernel
theorem dX10_most_2 : decode cX10_most 2 = .ok (.invokevirtual 33, 3) := by decide +kernel
theorem dX10_most_5 : decode cX10_most 5 = .ok (.ifCond .eq 18, 3) := by decide +kernel
theorem dX10_most_8 : decode cX10_most 8 = .ok (.aload_n 0, 1) := by decide +kernel
theorem dX10_most_9 : decode cX10_most 9 = .ok (.getfield 18, 3) := by decide +kernel
theorem dX10_most_12 : decode cX10_most 12 = .ok (.iload_n 1, 1) := by decide +kernel
theorem dX10_most_13 : decode cX10_most 13 = .ok (.aaload, 1) := by decide +kernel
theorem dX10_most_14 : decode cX10_most 14 = .ok (.getfield 38, 3) := by decide +kernel
theorem dX10_most_17 : decode cX10_most 17 = .ok (.getfield 98, 3) := by decide +kernel
theorem dX10_most_20 : decode cX10_most 20 = .ok (.goto 4, 3) := by decide +kernel
theorem dX10_most_23 : decode cX10_most 23 = .ok (.iconst 0, 1) := by decide +kernel
theorem dX10_most_24 : decode cX10_most 24 = .ok (.ireturn, 1) := by decide +kernel
theorem dX10_count_0 : decode cX10_count 0 = .ok (.iload_n 1, 1) := by decide +kernel
theorem dX10_count_1 : decode cX10_count 1 = .ok (.lookupswitch 38 #[(0, 27), (1, 32)], 27) := by decide +kernel
theorem dX10_count_28 : decode cX10_count 28 = .ok (.aload_n 0, 1) := by decide +kernel
theorem dX10_count_29 : decode cX10_count 29 = .ok (.getfield 60, 3) := by decide +kernel
theorem dX10_count_32 : decode cX10_count 32 = .ok (.ireturn, 1) := by decide +kernel
theorem dX10_count_33 : decode cX10_count 33 = .ok (.aload_n 0, 1) := by decide +kernel
theorem dX10_count_34 : decode cX10_count 34 = .ok (.getfield 18, 3) := by decide +kernel
theorem dX10_count_37 : decode cX10_count 37 = .ok (.arraylength, 1) := by decide +kernel
theorem dX10_count_38 : decode cX10_count 38 = .ok (.ireturn, 1) := by decide +kernel
theorem dX10_count_39 : decode cX10_count 39 = .ok (.aload_n 0, 1) := by decide +kernel
theorem dX10_count_40 : decode cX10_count 40 = .ok (.getfield 10, 3) := by decide +kernel
theorem dX10_count_43 : decode cX10_count 43 = .ok (.iload_n 1, 1) := by decide +kernel
theorem dX10_count_44 : decode cX10_count 44 = .ok (.invokevirtual 101, 3) := by decide +kernel
theorem dX10_count_47 : decode cX10_count 47 = .ok (.ireturn, 1) := by decide +kernel
theorem dX10_isFlow_0 : decode cX10_isFlow 0 = .ok (.iload_n 1, 1) := by decide +kernel
theorem dX10_isFlow_1 : decode cX10_isFlow 1 = .ok (.ifCond .lt 16, 3) := by decide +kernel
theorem dX10_isFlow_4 : decode cX10_isFlow 4 = .ok (.iload_n 1, 1) := by decide +kernel
theorem dX10_isFlow_5 : decode cX10_isFlow 5 = .ok (.aload_n 0, 1) := by decide +kernel
theorem dX10_isFlow_6 : decode cX10_isFlow 6 = .ok (.getfield 18, 3) := by decide +kernel
theorem dX10_isFlow_9 : decode cX10_isFlow 9 = .ok (.arraylength, 1) := by decide +kernel
theorem dX10_isFlow_10 : decode cX10_isFlow 10 = .ok (.if_icmp .ge 7, 3) := by decide +kernel
theorem dX10_isFlow_13 : decode cX10_isFlow 13 = .ok (.iconst 1, 1) := by decide +kernel
theorem dX10_isFlow_14 : decode cX10_isFlow 14 = .ok (.goto 4, 3) := by decide +kernel
theorem dX10_isFlow_17 : decode cX10_isFlow 17 = .ok (.iconst 0, 1) := by decide +kernel
theorem dX10_isFlow_18 : decode cX10_isFlow 18 = .ok (.ireturn, 1) := by decide +kernel
theorem dX10_bringSegments_0 : decode cX10_bringSegments 0 = .ok (.aload_n 0, 1) := by decide +kernel
theorem dX10_bringSegments_1 : decode cX10_bringSegments 1 = .ok (.getfield 10, 3) := by decide +kernel
theorem dX10_bringSegments_4 : decode cX10_bringSegments 4 = .ok (.getfield 102, 3) := by decide +kernel
theorem dX10_bringSegments_7 : decode cX10_bringSegments 7 = .ok (.getfield 106, 3) := by decide +kernel
theorem dX10_bringSegments_10 : decode cX10_bringSegments 10 = .ok (.istore_n 1, 1) := by decide +kernel
theorem dX10_bringSegments_11 : decode cX10_bringSegments 11 = .ok (.iload_n 1, 1) := by decide +kernel
theorem dX10_bringSegments_12 : decode cX10_bringSegments 12 = .ok (.ifCond .le 90, 3) := by decide +kernel
theorem dX10_bringSegments_15 : decode cX10_bringSegments 15 = .ok (.aload_n 0, 1) := by decide +kernel
theorem dX10_bringSegments_16 : decode cX10_bringSegments 16 = .ok (.getfield 10, 3) := by decide +kernel
theorem dX10_bringSegments_19 : decode cX10_bringSegments 19 = .ok (.getfield 102, 3) := by decide +kernel
theorem dX10_bringSegments_22 : decode cX10_bringSegments 22 = .ok (.aload_n 0, 1) := by decide +kernel
theorem dX10_bringSegments_23 : decode cX10_bringSegments 23 = .ok (.getfield 60, 3) := by decide +kernel
theorem dX10_bringSegments_26 : decode cX10_bringSegments 26 = .ok (.invokevirtual 111, 3) := by decide +kernel
theorem dX10_bringSegments_29 : decode cX10_bringSegments 29 = .ok (.astore_n 2, 1) := by decide +kernel
theorem dX10_bringSegments_30 : decode cX10_bringSegments 30 = .ok (.aload_n 2, 1) := by decide +kernel
theorem dX10_bringSegments_31 : decode cX10_bringSegments 31 = .ok (.ifnonnull 6, 3) := by decide +kernel
theorem dX10_bringSegments_34 : decode cX10_bringSegments 34 = .ok (.goto 68, 3) := by decide +kernel
theorem dX10_bringSegments_37 : decode cX10_bringSegments 37 = .ok (.aload_n 0, 1) := by decide +kernel
theorem dX10_bringSegments_38 : decode cX10_bringSegments 38 = .ok (.getfield 10, 3) := by decide +kernel
theorem dX10_bringSegments_41 : decode cX10_bringSegments 41 = .ok (.dup, 1) := by decide +kernel
theorem dX10_bringSegments_42 : decode cX10_bringSegments 42 = .ok (.getfield 115, 3) := by decide +kernel
theorem dX10_bringSegments_45 : decode cX10_bringSegments 45 = .ok (.iconst 1, 1) := by decide +kernel
theorem dX10_bringSegments_46 : decode cX10_bringSegments 46 = .ok (.iadd, 1) := by decide +kernel
theorem dX10_bringSegments_47 : decode cX10_bringSegments 47 = .ok (.putfield 115, 3) := by decide +kernel
theorem dX10_bringSegments_50 : decode cX10_bringSegments 50 = .ok (.aload_n 0, 1) := by decide +kernel
theorem dX10_bringSegments_51 : decode cX10_bringSegments 51 = .ok (.aload_n 2, 1) := by decide +kernel
theorem dX10_bringSegments_52 : decode cX10_bringSegments 52 = .ok (.getfield 118, 3) := by decide +kernel
theorem dX10_bringSegments_55 : decode cX10_bringSegments 55 = .ok (.invokevirtual 33, 3) := by decide +kernel
theorem dX10_bringSegments_58 : decode cX10_bringSegments 58 = .ok (.ifCond .eq 27, 3) := by decide +kernel
theorem dX10_bringSegments_61 : decode cX10_bringSegments 61 = .ok (.aload_n 0, 1) := by decide +kernel
theorem dX10_bringSegments_62 : decode cX10_bringSegments 62 = .ok (.getfield 18, 3) := by decide +kernel
theorem dX10_bringSegments_65 : decode cX10_bringSegments 65 = .ok (.aload_n 2, 1) := by decide +kernel
theorem dX10_bringSegments_66 : decode cX10_bringSegments 66 = .ok (.getfield 118, 3) := by decide +kernel
theorem dX10_bringSegments_69 : decode cX10_bringSegments 69 = .ok (.aaload, 1) := by decide +kernel
theorem dX10_bringSegments_70 : decode cX10_bringSegments 70 = .ok (.getfield 48, 3) := by decide +kernel
theorem dX10_bringSegments_73 : decode cX10_bringSegments 73 = .ok (.aload_n 2, 1) := by decide +kernel
theorem dX10_bringSegments_74 : decode cX10_bringSegments 74 = .ok (.aload_n 0, 1) := by decide +kernel
theorem dX10_bringSegments_75 : decode cX10_bringSegments 75 = .ok (.getfield 10, 3) := by decide +kernel
theorem dX10_bringSegments_78 : decode cX10_bringSegments 78 = .ok (.aload_n 0, 1) := by decide +kernel
theorem dX10_bringSegments_79 : decode cX10_bringSegments 79 = .ok (.getfield 60, 3) := by decide +kernel
theorem dX10_bringSegments_82 : decode cX10_bringSegments 82 = .ok (.invokevirtual 123, 3) := by decide +kernel
theorem dX10_bringSegments_85 : decode cX10_bringSegments 85 = .ok (.aload_n 0, 1) := by decide +kernel
theorem dX10_bringSegments_86 : decode cX10_bringSegments 86 = .ok (.getfield 10, 3) := by decide +kernel
theorem dX10_bringSegments_89 : decode cX10_bringSegments 89 = .ok (.getfield 127, 3) := by decide +kernel
theorem dX10_bringSegments_92 : decode cX10_bringSegments 92 = .ok (.aload_n 2, 1) := by decide +kernel
theorem dX10_bringSegments_93 : decode cX10_bringSegments 93 = .ok (.invokevirtual 130, 3) := by decide +kernel
theorem dX10_bringSegments_96 : decode cX10_bringSegments 96 = .ok (.iinc 1 (-1), 3) := by decide +kernel
theorem dX10_bringSegments_99 : decode cX10_bringSegments 99 = .ok (.goto (-88), 3) := by decide +kernel
theorem dX10_bringSegments_102 : decode cX10_bringSegments 102 = .ok (.return_, 1) := by decide +kernel
theorem dX10_tellWindowsAndAnswerLate_0 : decode cX10_tellWindowsAndAnswerLate 0 = .ok (.aload_n 0, 1) := by decide +kernel
theorem dX10_tellWindowsAndAnswerLate_1 : decode cX10_tellWindowsAndAnswerLate 1 = .ok (.getfield 18, 3) := by decide +kernel
theorem dX10_tellWindowsAndAnswerLate_4 : decode cX10_tellWindowsAndAnswerLate 4 = .ok (.astore_n 1, 1) := by decide +kernel
theorem dX10_tellWindowsAndAnswerLate_5 : decode cX10_tellWindowsAndAnswerLate 5 = .ok (.aload_n 1, 1) := by decide +kernel
theorem dX10_tellWindowsAndAnswerLate_6 : decode cX10_tellWindowsAndAnswerLate 6 = .ok (.arraylength, 1) := by decide +kernel
theorem dX10_tellWindowsAndAnswerLate_7 : decode cX10_tellWindowsAndAnswerLate 7 = .ok (.istore_n 2, 1) := by decide +kernel
theorem dX10_tellWindowsAndAnswerLate_8 : decode cX10_tellWindowsAndAnswerLate 8 = .ok (.iconst 0, 1) := by decide +kernel
theorem dX10_tellWindowsAndAnswerLate_9 : decode cX10_tellWindowsAndAnswerLate 9 = .ok (.istore_n 3, 1) := by decide +kernel
theorem dX10_tellWindowsAndAnswerLate_10 : decode cX10_tellWindowsAndAnswerLate 10 = .ok (.iload_n 3, 1) := by decide +kernel
theorem dX10_tellWindowsAndAnswerLate_11 : decode cX10_tellWindowsAndAnswerLate 11 = .ok (.iload_n 2, 1) := by decide +kernel
theorem dX10_tellWindowsAndAnswerLate_12 : decode cX10_tellWindowsAndAnswerLate 12 = .ok (.if_icmp .ge 30, 3) := by decide +kernel
theorem dX10_tellWindowsAndAnswerLate_15 : decode cX10_tellWindowsAndAnswerLate 15 = .ok (.aload_n 1, 1) := by decide +kernel
theorem dX10_tellWindowsAndAnswerLate_16 : decode cX10_tellWindowsAndAnswerLate 16 = .ok (.iload_n 3, 1) := by decide +kernel
theorem dX10_tellWindowsAndAnswerLate_17 : decode cX10_tellWindowsAndAnswerLate 17 = .ok (.aaload, 1) := by decide +kernel
theorem dX10_tellWindowsAndAnswerLate_18 : decode cX10_tellWindowsAndAnswerLate 18 = .ok (.astore 4, 2) := by decide +kernel
theorem dX10_tellWindowsAndAnswerLate_20 : decode cX10_tellWindowsAndAnswerLate 20 = .ok (.aload 4, 2) := by decide +kernel
theorem dX10_tellWindowsAndAnswerLate_22 : decode cX10_tellWindowsAndAnswerLate 22 = .ok (.getfield 48, 3) := by decide +kernel
theorem dX10_tellWindowsAndAnswerLate_25 : decode cX10_tellWindowsAndAnswerLate 25 = .ok (.aload_n 0, 1) := by decide +kernel
theorem dX10_tellWindowsAndAnswerLate_26 : decode cX10_tellWindowsAndAnswerLate 26 = .ok (.getfield 10, 3) := by decide +kernel
theorem dX10_tellWindowsAndAnswerLate_29 : decode cX10_tellWindowsAndAnswerLate 29 = .ok (.aload_n 0, 1) := by decide +kernel
theorem dX10_tellWindowsAndAnswerLate_30 : decode cX10_tellWindowsAndAnswerLate 30 = .ok (.getfield 60, 3) := by decide +kernel
theorem dX10_tellWindowsAndAnswerLate_33 : decode cX10_tellWindowsAndAnswerLate 33 = .ok (.invokevirtual 134, 3) := by decide +kernel
theorem dX10_tellWindowsAndAnswerLate_36 : decode cX10_tellWindowsAndAnswerLate 36 = .ok (.iinc 3 1, 3) := by decide +kernel
theorem dX10_tellWindowsAndAnswerLate_39 : decode cX10_tellWindowsAndAnswerLate 39 = .ok (.goto (-29), 3) := by decide +kernel
theorem dX10_tellWindowsAndAnswerLate_42 : decode cX10_tellWindowsAndAnswerLate 42 = .ok (.aload_n 0, 1) := by decide +kernel
theorem dX10_tellWindowsAndAnswerLate_43 : decode cX10_tellWindowsAndAnswerLate 43 = .ok (.getfield 18, 3) := by decide +kernel
theorem dX10_tellWindowsAndAnswerLate_46 : decode cX10_tellWindowsAndAnswerLate 46 = .ok (.astore_n 1, 1) := by decide +kernel
theorem dX10_tellWindowsAndAnswerLate_47 : decode cX10_tellWindowsAndAnswerLate 47 = .ok (.aload_n 1, 1) := by decide +kernel
theorem dX10_tellWindowsAndAnswerLate_48 : decode cX10_tellWindowsAndAnswerLate 48 = .ok (.arraylength, 1) := by decide +kernel
theorem dX10_tellWindowsAndAnswerLate_49 : decode cX10_tellWindowsAndAnswerLate 49 = .ok (.istore_n 2, 1) := by decide +kernel
theorem dX10_tellWindowsAndAnswerLate_50 : decode cX10_tellWindowsAndAnswerLate 50 = .ok (.iconst 0, 1) := by decide +kernel
theorem dX10_tellWindowsAndAnswerLate_51 : decode cX10_tellWindowsAndAnswerLate 51 = .ok (.istore_n 3, 1) := by decide +kernel
theorem dX10_tellWindowsAndAnswerLate_52 : decode cX10_tellWindowsAndAnswerLate 52 = .ok (.iload_n 3, 1) := by decide +kernel
theorem dX10_tellWindowsAndAnswerLate_53 : decode cX10_tellWindowsAndAnswerLate 53 = .ok (.iload_n 2, 1) := by decide +kernel
theorem dX10_tellWindowsAndAnswerLate_54 : decode cX10_tellWindowsAndAnswerLate 54 = .ok (.if_icmp .ge 30, 3) := by decide +kernel
theorem dX10_tellWindowsAndAnswerLate_57 : decode cX10_tellWindowsAndAnswerLate 57 = .ok (.aload_n 1, 1) := by decide +kernel
theorem dX10_tellWindowsAndAnswerLate_58 : decode cX10_tellWindowsAndAnswerLate 58 = .ok (.iload_n 3, 1) := by decide +kernel
theorem dX10_tellWindowsAndAnswerLate_59 : decode cX10_tellWindowsAndAnswerLate 59 = .ok (.aaload, 1) := by decide +kernel
theorem dX10_tellWindowsAndAnswerLate_60 : decode cX10_tellWindowsAndAnswerLate 60 = .ok (.astore 4, 2) := by decide +kernel
theorem dX10_tellWindowsAndAnswerLate_62 : decode cX10_tellWindowsAndAnswerLate 62 = .ok (.aload 4, 2) := by decide +kernel
theorem dX10_tellWindowsAndAnswerLate_64 : decode cX10_tellWindowsAndAnswerLate 64 = .ok (.getfield 48, 3) := by decide +kernel
theorem dX10_tellWindowsAndAnswerLate_67 : decode cX10_tellWindowsAndAnswerLate 67 = .ok (.aload_n 0, 1) := by decide +kernel
theorem dX10_tellWindowsAndAnswerLate_68 : decode cX10_tellWindowsAndAnswerLate 68 = .ok (.getfield 10, 3) := by decide +kernel
theorem dX10_tellWindowsAndAnswerLate_71 : decode cX10_tellWindowsAndAnswerLate 71 = .ok (.aload_n 0, 1) := by decide +kernel
theorem dX10_tellWindowsAndAnswerLate_72 : decode cX10_tellWindowsAndAnswerLate 72 = .ok (.getfield 60, 3) := by decide +kernel
theorem dX10_tellWindowsAndAnswerLate_75 : decode cX10_tellWindowsAndAnswerLate 75 = .ok (.invokevirtual 137, 3) := by decide +kernel
theorem dX10_tellWindowsAndAnswerLate_78 : decode cX10_tellWindowsAndAnswerLate 78 = .ok (.iinc 3 1, 3) := by decide +kernel
theorem dX10_tellWindowsAndAnswerLate_81 : decode cX10_tellWindowsAndAnswerLate 81 = .ok (.goto (-29), 3) := by decide +kernel
theorem dX10_tellWindowsAndAnswerLate_84 : decode cX10_tellWindowsAndAnswerLate 84 = .ok (.return_, 1) := by decide +kernel
theorem dX10_bringAcks_0 : decode cX10_bringAcks 0 = .ok (.aload_n 0, 1) := by decide +kernel
theorem dX10_bringAcks_1 : decode cX10_bringAcks 1 = .ok (.getfield 10, 3) := by decide +kernel
theorem dX10_bringAcks_4 : decode cX10_bringAcks 4 = .ok (.getfield 140, 3) := by decide +kernel
theorem dX10_bringAcks_7 : decode cX10_bringAcks 7 = .ok (.getfield 106, 3) := by decide +kernel
theorem dX10_bringAcks_10 : decode cX10_bringAcks 10 = .ok (.istore_n 1, 1) := by decide +kernel
theorem dX10_bringAcks_11 : decode cX10_bringAcks 11 = .ok (.iload_n 1, 1) := by decide +kernel
theorem dX10_bringAcks_12 : decode cX10_bringAcks 12 = .ok (.ifCond .le 77, 3) := by decide +kernel
theorem dX10_bringAcks_15 : decode cX10_bringAcks 15 = .ok (.aload_n 0, 1) := by decide +kernel
theorem dX10_bringAcks_16 : decode cX10_bringAcks 16 = .ok (.getfield 10, 3) := by decide +kernel
theorem dX10_bringAcks_19 : decode cX10_bringAcks 19 = .ok (.getfield 140, 3) := by decide +kernel
theorem dX10_bringAcks_22 : decode cX10_bringAcks 22 = .ok (.aload_n 0, 1) := by decide +kernel
theorem dX10_bringAcks_23 : decode cX10_bringAcks 23 = .ok (.getfield 60, 3) := by decide +kernel
theorem dX10_bringAcks_26 : decode cX10_bringAcks 26 = .ok (.invokevirtual 111, 3) := by decide +kernel
theorem dX10_bringAcks_29 : decode cX10_bringAcks 29 = .ok (.astore_n 2, 1) := by decide +kernel
theorem dX10_bringAcks_30 : decode cX10_bringAcks 30 = .ok (.aload_n 2, 1) := by decide +kernel
theorem dX10_bringAcks_31 : decode cX10_bringAcks 31 = .ok (.ifnonnull 6, 3) := by decide +kernel
theorem dX10_bringAcks_34 : decode cX10_bringAcks 34 = .ok (.goto 55, 3) := by decide +kernel
theorem dX10_bringAcks_37 : decode cX10_bringAcks 37 = .ok (.aload_n 0, 1) := by decide +kernel
theorem dX10_bringAcks_38 : decode cX10_bringAcks 38 = .ok (.aload_n 2, 1) := by decide +kernel
theorem dX10_bringAcks_39 : decode cX10_bringAcks 39 = .ok (.getfield 118, 3) := by decide +kernel
theorem dX10_bringAcks_42 : decode cX10_bringAcks 42 = .ok (.invokevirtual 33, 3) := by decide +kernel
theorem dX10_bringAcks_45 : decode cX10_bringAcks 45 = .ok (.ifCond .eq 27, 3) := by decide +kernel
theorem dX10_bringAcks_48 : decode cX10_bringAcks 48 = .ok (.aload_n 0, 1) := by decide +kernel
theorem dX10_bringAcks_49 : decode cX10_bringAcks 49 = .ok (.getfield 18, 3) := by decide +kernel
theorem dX10_bringAcks_52 : decode cX10_bringAcks 52 = .ok (.aload_n 2, 1) := by decide +kernel
theorem dX10_bringAcks_53 : decode cX10_bringAcks 53 = .ok (.getfield 118, 3) := by decide +kernel
theorem dX10_bringAcks_56 : decode cX10_bringAcks 56 = .ok (.aaload, 1) := by decide +kernel
theorem dX10_bringAcks_57 : decode cX10_bringAcks 57 = .ok (.getfield 38, 3) := by decide +kernel
theorem dX10_bringAcks_60 : decode cX10_bringAcks 60 = .ok (.aload_n 2, 1) := by decide +kernel
theorem dX10_bringAcks_61 : decode cX10_bringAcks 61 = .ok (.aload_n 0, 1) := by decide +kernel
theorem dX10_bringAcks_62 : decode cX10_bringAcks 62 = .ok (.getfield 10, 3) := by decide +kernel
theorem dX10_bringAcks_65 : decode cX10_bringAcks 65 = .ok (.aload_n 0, 1) := by decide +kernel
theorem dX10_bringAcks_66 : decode cX10_bringAcks 66 = .ok (.getfield 60, 3) := by decide +kernel
theorem dX10_bringAcks_69 : decode cX10_bringAcks 69 = .ok (.invokevirtual 143, 3) := by decide +kernel
theorem dX10_bringAcks_72 : decode cX10_bringAcks 72 = .ok (.aload_n 0, 1) := by decide +kernel
theorem dX10_bringAcks_73 : decode cX10_bringAcks 73 = .ok (.getfield 10, 3) := by decide +kernel
theorem dX10_bringAcks_76 : decode cX10_bringAcks 76 = .ok (.getfield 127, 3) := by decide +kernel
theorem dX10_bringAcks_79 : decode cX10_bringAcks 79 = .ok (.aload_n 2, 1) := by decide +kernel
theorem dX10_bringAcks_80 : decode cX10_bringAcks 80 = .ok (.invokevirtual 130, 3) := by decide +kernel
theorem dX10_bringAcks_83 : decode cX10_bringAcks 83 = .ok (.iinc 1 (-1), 3) := by decide +kernel
theorem dX10_bringAcks_86 : decode cX10_bringAcks 86 = .ok (.goto (-75), 3) := by decide +kernel
theorem dX10_bringAcks_89 : decode cX10_bringAcks 89 = .ok (.return_, 1) := by decide +kernel
theorem dX10_nextBusyTick_0 : decode cX10_nextBusyTick 0 = .ok (.iload_n 1, 1) := by decide +kernel
theorem dX10_nextBusyTick_1 : decode cX10_nextBusyTick 1 = .ok (.aload_n 0, 1) := by decide +kernel
theorem dX10_nextBusyTick_2 : decode cX10_nextBusyTick 2 = .ok (.getfield 10, 3) := by decide +kernel
theorem dX10_nextBusyTick_5 : decode cX10_nextBusyTick 5 = .ok (.invokevirtual 146, 3) := by decide +kernel
theorem dX10_nextBusyTick_8 : decode cX10_nextBusyTick 8 = .ok (.invokestatic 150, 3) := by decide +kernel
theorem dX10_nextBusyTick_11 : decode cX10_nextBusyTick 11 = .ok (.istore_n 2, 1) := by decide +kernel
theorem dX10_nextBusyTick_12 : decode cX10_nextBusyTick 12 = .ok (.aload_n 0, 1) := by decide +kernel
theorem dX10_nextBusyTick_13 : decode cX10_nextBusyTick 13 = .ok (.getfield 18, 3) := by decide +kernel
theorem dX10_nextBusyTick_16 : decode cX10_nextBusyTick 16 = .ok (.astore_n 3, 1) := by decide +kernel
theorem dX10_nextBusyTick_17 : decode cX10_nextBusyTick 17 = .ok (.aload_n 3, 1) := by decide +kernel
theorem dX10_nextBusyTick_18 : decode cX10_nextBusyTick 18 = .ok (.arraylength, 1) := by decide +kernel
theorem dX10_nextBusyTick_19 : decode cX10_nextBusyTick 19 = .ok (.istore 4, 2) := by decide +kernel
theorem dX10_nextBusyTick_21 : decode cX10_nextBusyTick 21 = .ok (.iconst 0, 1) := by decide +kernel
theorem dX10_nextBusyTick_22 : decode cX10_nextBusyTick 22 = .ok (.istore 5, 2) := by decide +kernel
theorem dX10_nextBusyTick_24 : decode cX10_nextBusyTick 24 = .ok (.iload 5, 2) := by decide +kernel
theorem dX10_nextBusyTick_26 : decode cX10_nextBusyTick 26 = .ok (.iload 4, 2) := by decide +kernel
theorem dX10_nextBusyTick_28 : decode cX10_nextBusyTick 28 = .ok (.if_icmp .ge 50, 3) := by decide +kernel
theorem dX10_nextBusyTick_31 : decode cX10_nextBusyTick 31 = .ok (.aload_n 3, 1) := by decide +kernel
theorem dX10_nextBusyTick_32 : decode cX10_nextBusyTick 32 = .ok (.iload 5, 2) := by decide +kernel
theorem dX10_nextBusyTick_34 : decode cX10_nextBusyTick 34 = .ok (.aaload, 1) := by decide +kernel
theorem dX10_nextBusyTick_35 : decode cX10_nextBusyTick 35 = .ok (.astore 6, 2) := by decide +kernel
theorem dX10_nextBusyTick_37 : decode cX10_nextBusyTick 37 = .ok (.iload_n 2, 1) := by decide +kernel
theorem dX10_nextBusyTick_38 : decode cX10_nextBusyTick 38 = .ok (.aload 6, 2) := by decide +kernel
theorem dX10_nextBusyTick_40 : decode cX10_nextBusyTick 40 = .ok (.getfield 48, 3) := by decide +kernel
theorem dX10_nextBusyTick_43 : decode cX10_nextBusyTick 43 = .ok (.getfield 156, 3) := by decide +kernel
theorem dX10_nextBusyTick_46 : decode cX10_nextBusyTick 46 = .ok (.invokestatic 159, 3) := by decide +kernel
theorem dX10_nextBusyTick_49 : decode cX10_nextBusyTick 49 = .ok (.invokestatic 150, 3) := by decide +kernel
theorem dX10_nextBusyTick_52 : decode cX10_nextBusyTick 52 = .ok (.istore_n 2, 1) := by decide +kernel
theorem dX10_nextBusyTick_53 : decode cX10_nextBusyTick 53 = .ok (.iload_n 2, 1) := by decide +kernel
theorem dX10_nextBusyTick_54 : decode cX10_nextBusyTick 54 = .ok (.aload 6, 2) := by decide +kernel
theorem dX10_nextBusyTick_56 : decode cX10_nextBusyTick 56 = .ok (.getfield 38, 3) := by decide +kernel
theorem dX10_nextBusyTick_59 : decode cX10_nextBusyTick 59 = .ok (.getfield 162, 3) := by decide +kernel
theorem dX10_nextBusyTick_62 : decode cX10_nextBusyTick 62 = .ok (.getfield 166, 3) := by decide +kernel
theorem dX10_nextBusyTick_65 : decode cX10_nextBusyTick 65 = .ok (.invokestatic 159, 3) := by decide +kernel
theorem dX10_nextBusyTick_68 : decode cX10_nextBusyTick 68 = .ok (.invokestatic 150, 3) := by decide +kernel
theorem dX10_nextBusyTick_71 : decode cX10_nextBusyTick 71 = .ok (.istore_n 2, 1) := by decide +kernel
theorem dX10_nextBusyTick_72 : decode cX10_nextBusyTick 72 = .ok (.iinc 5 1, 3) := by decide +kernel
theorem dX10_nextBusyTick_75 : decode cX10_nextBusyTick 75 = .ok (.goto (-51), 3) := by decide +kernel
theorem dX10_nextBusyTick_78 : decode cX10_nextBusyTick 78 = .ok (.aload_n 0, 1) := by decide +kernel
theorem dX10_nextBusyTick_79 : decode cX10_nextBusyTick 79 = .ok (.getfield 60, 3) := by decide +kernel
theorem dX10_nextBusyTick_82 : decode cX10_nextBusyTick 82 = .ok (.iconst 1, 1) := by decide +kernel
theorem dX10_nextBusyTick_83 : decode cX10_nextBusyTick 83 = .ok (.iadd, 1) := by decide +kernel
theorem dX10_nextBusyTick_84 : decode cX10_nextBusyTick 84 = .ok (.iload_n 2, 1) := by decide +kernel
theorem dX10_nextBusyTick_85 : decode cX10_nextBusyTick 85 = .ok (.invokestatic 171, 3) := by decide +kernel
theorem dX10_nextBusyTick_88 : decode cX10_nextBusyTick 88 = .ok (.ireturn, 1) := by decide +kernel
theorem dX10_orNever_0 : decode cX10_orNever 0 = .ok (.iload_n 0, 1) := by decide +kernel
theorem dX10_orNever_1 : decode cX10_orNever 1 = .ok (.iconst (-1), 1) := by decide +kernel
theorem dX10_orNever_2 : decode cX10_orNever 2 = .ok (.if_icmp .ne 8, 3) := by decide +kernel
theorem dX10_orNever_5 : decode cX10_orNever 5 = .ok (.ldc 174, 2) := by decide +kernel
theorem dX10_orNever_7 : decode cX10_orNever 7 = .ok (.goto 4, 3) := by decide +kernel
theorem dX10_orNever_10 : decode cX10_orNever 10 = .ok (.iload_n 0, 1) := by decide +kernel
theorem dX10_orNever_11 : decode cX10_orNever 11 = .ok (.ireturn, 1) := by decide +kernel
theorem dX10_within_0 : decode cX10_within 0 = .ok (.iload_n 0, 1) := by decide +kernel
theorem dX10_within_1 : decode cX10_within 1 = .ok (.iload_n 1, 1) := by decide +kernel
theorem dX10_within_2 : decode cX10_within 2 = .ok (.if_icmp .lt 12, 3) := by decide +kernel
theorem dX10_within_5 : decode cX10_within 5 = .ok (.iload_n 0, 1) := by decide +kernel
theorem dX10_within_6 : decode cX10_within 6 = .ok (.iload_n 2, 1) := by decide +kernel
theorem dX10_within_7 : decode cX10_within 7 = .ok (.if_icmp .gt 7, 3) := by decide +kernel
theorem dX10_within_10 : decode cX10_within 10 = .ok (.iconst 1, 1) := by decide +kernel
theorem dX10_within_11 : decode cX10_within 11 = .ok (.goto 4, 3) := by decide +kernel
theorem dX10_within_14 : decode cX10_within 14 = .ok (.iconst 0, 1) := by decide +kernel
theorem dX10_within_15 : decode cX10_within 15 = .ok (.ireturn, 1) := by decide +kernel
theorem dX11_init_0 : decode cX11_init 0 = .ok (.aload_n 0, 1) := by decide +kernel
theorem dX11_init_1 : decode cX11_init 1 = .ok (.invokespecial 1, 3) := by decide +kernel
theorem dX11_init_4 : decode cX11_init 4 = .ok (.aload_n 0, 1) := by decide +kernel
theorem dX11_init_5 : decode cX11_init 5 = .ok (.bipush 10, 2) := by decide +kernel
theorem dX11_init_7 : decode cX11_init 7 = .ok (.putfield 7, 3) := by decide +kernel
theorem dX11_init_10 : decode cX11_init 10 = .ok (.aload_n 0, 1) := by decide +kernel
theorem dX11_init_11 : decode cX11_init 11 = .ok (.bipush 20, 2) := by decide +kernel
theorem dX11_init_13 : decode cX11_init 13 = .ok (.putfield 13, 3) := by decide +kernel
theorem dX11_init_16 : decode cX11_init 16 = .ok (.aload_n 0, 1) := by decide +kernel
theorem dX11_init_17 : decode cX11_init 17 = .ok (.bipush 20, 2) := by decide +kernel
theorem dX11_init_19 : decode cX11_init 19 = .ok (.putfield 16, 3) := by decide +kernel
theorem dX11_init_22 : decode cX11_init 22 = .ok (.aload_n 0, 1) := by decide +kernel
theorem dX11_init_23 : decode cX11_init 23 = .ok (.bipush 20, 2) := by decide +kernel
theorem dX11_init_25 : decode cX11_init 25 = .ok (.putfield 19, 3) := by decide +kernel
theorem dX11_init_28 : decode cX11_init 28 = .ok (.aload_n 0, 1) := by decide +kernel
theorem dX11_init_29 : decode cX11_init 29 = .ok (.bipush 102, 2) := by decide +kernel
theorem dX11_init_31 : decode cX11_init 31 = .ok (.newarray .int, 2) := by decide +kernel
theorem dX11_init_33 : decode cX11_init 33 = .ok (.putfield 22, 3) := by decide +kernel
theorem dX11_init_36 : decode cX11_init 36 = .ok (.aload_n 0, 1) := by decide +kernel
theorem dX11_init_37 : decode cX11_init 37 = .ok (.bipush 102, 2) := by decide +kernel
theorem dX11_init_39 : decode cX11_init 39 = .ok (.newarray .int, 2) := by decide +kernel
theorem dX11_init_41 : decode cX11_init 41 = .ok (.putfield 26, 3) := by decide +kernel
theorem dX11_init_44 : decode cX11_init 44 = .ok (.aload_n 0, 1) := by decide +kernel
theorem dX11_init_45 : decode cX11_init 45 = .ok (.bipush 102, 2) := by decide +kernel
theorem dX11_init_47 : decode cX11_init 47 = .ok (.newarray .boolean, 2) := by decide +kernel
theorem dX11_init_49 : decode cX11_init 49 = .ok (.putfield 29, 3) := by decide +kernel
theorem dX11_init_52 : decode cX11_init 52 = .ok (.aload_n 0, 1) := by decide +kernel
theorem dX11_init_53 : decode cX11_init 53 = .ok (.sipush 4096, 3) := by decide +kernel
theorem dX11_init_56 : decode cX11_init 56 = .ok (.newarray .int, 2) := by decide +kernel
theorem dX11_init_58 : decode cX11_init 58 = .ok (.putfield 33, 3) := by decide +kernel
theorem dX11_init_61 : decode cX11_init 61 = .ok (.aload_n 0, 1) := by decide +kernel
theorem dX11_init_62 : decode cX11_init 62 = .ok (.sipush 4096, 3) := by decide +kernel
theorem dX11_init_65 : decode cX11_init 65 = .ok (.newarray .int, 2) := by decide +kernel
theorem dX11_init_67 : decode cX11_init 67 = .ok (.putfield 36, 3) := by decide +kernel
theorem dX11_init_70 : decode cX11_init 70 = .ok (.aload_n 0, 1) := by decide +kernel
theorem dX11_init_71 : decode cX11_init 71 = .ok (.sipush 4096, 3) := by decide +kernel
theorem dX11_init_74 : decode cX11_init 74 = .ok (.newarray .int, 2) := by decide +kernel
theorem dX11_init_76 : decode cX11_init 76 = .ok (.putfield 39, 3) := by decide +kernel
theorem dX11_init_79 : decode cX11_init 79 = .ok (.aload_n 0, 1) := by decide +kernel
theorem dX11_init_80 : decode cX11_init 80 = .ok (.sipush 4096, 3) := by decide +kernel
theorem dX11_init_83 : decode cX11_init 83 = .ok (.newarray .boolean, 2) := by decide +kernel
theorem dX11_init_85 : decode cX11_init 85 = .ok (.putfield 42, 3) := by decide +kernel
theorem dX11_init_88 : decode cX11_init 88 = .ok (.aload_n 0, 1) := by decide +kernel
theorem dX11_init_89 : decode cX11_init 89 = .ok (.sipush 6000, 3) := by decide +kernel
theorem dX11_init_92 : decode cX11_init 92 = .ok (.newarray .int, 2) := by decide +kernel
theorem dX11_init_94 : decode cX11_init 94 = .ok (.putfield 45, 3) := by decide +kernel
theorem dX11_init_97 : decode cX11_init 97 = .ok (.aload_n 0, 1) := by decide +kernel
theorem dX11_init_98 : decode cX11_init 98 = .ok (.sipush 6000, 3) := by decide +kernel
theorem dX11_init_101 : decode cX11_init 101 = .ok (.newarray .int, 2) := by decide +kernel
theorem dX11_init_103 : decode cX11_init 103 = .ok (.putfield 48, 3) := by decide +kernel
theorem dX11_init_106 : decode cX11_init 106 = .ok (.aload_n 0, 1) := by decide +kernel
theorem dX11_init_107 : decode cX11_init 107 = .ok (.sipush 6000, 3) := by decide +kernel
theorem dX11_init_110 : decode cX11_init 110 = .ok (.newarray .int, 2) := by decide +kernel
theorem dX11_init_112 : decode cX11_init 112 = .ok (.putfield 51, 3) := by decide +kernel
theorem dX11_init_115 : decode cX11_init 115 = .ok (.aload_n 0, 1) := by decide +kernel
theorem dX11_init_116 : decode cX11_init 116 = .ok (.sipush 6000, 3) := by decide +kernel
theorem dX11_init_119 : decode cX11_init 119 = .ok (.newarray .int, 2) := by decide +kernel
theorem dX11_init_121 : decode cX11_init 121 = .ok (.putfield 54, 3) := by decide +kernel
theorem dX11_init_124 : decode cX11_init 124 = .ok (.aload_n 0, 1) := by decide +kernel
theorem dX11_init_125 : decode cX11_init 125 = .ok (.sipush 6000, 3) := by decide +kernel
theorem dX11_init_128 : decode cX11_init 128 = .ok (.newarray .boolean, 2) := by decide +kernel
theorem dX11_init_130 : decode cX11_init 130 = .ok (.putfield 57, 3) := by decide +kernel
theorem dX11_init_133 : decode cX11_init 133 = .ok (.aload_n 0, 1) := by decide +kernel
theorem dX11_init_134 : decode cX11_init 134 = .ok (.ldc 60, 2) := by decide +kernel
theorem dX11_init_136 : decode cX11_init 136 = .ok (.newarray .boolean, 2) := by decide +kernel
theorem dX11_init_138 : decode cX11_init 138 = .ok (.putfield 61, 3) := by decide +kernel
theorem dX11_init_141 : decode cX11_init 141 = .ok (.aload_n 0, 1) := by decide +kernel
theorem dX11_init_142 : decode cX11_init 142 = .ok (.bipush 64, 2) := by decide +kernel
theorem dX11_init_144 : decode cX11_init 144 = .ok (.newarray .int, 2) := by decide +kernel
theorem dX11_init_146 : decode cX11_init 146 = .ok (.putfield 64, 3) := by decide +kernel
theorem dX11_init_149 : decode cX11_init 149 = .ok (.aload_n 0, 1) := by decide +kernel
theorem dX11_init_150 : decode cX11_init 150 = .ok (.iconst 4, 1) := by decide +kernel
theorem dX11_init_151 : decode cX11_init 151 = .ok (.newarray .boolean, 2) := by decide +kernel
theorem dX11_init_153 : decode cX11_init 153 = .ok (.putfield 67, 3) := by decide +kernel
theorem dX11_init_156 : decode cX11_init 156 = .ok (.aload_n 0, 1) := by decide +kernel
theorem dX11_init_157 : decode cX11_init 157 = .ok (.iconst 4, 1) := by decide +kernel
theorem dX11_init_158 : decode cX11_init 158 = .ok (.newarray .int, 2) := by decide +kernel
theorem dX11_init_160 : decode cX11_init 160 = .ok (.putfield 70, 3) := by decide +kernel
theorem dX11_init_163 : decode cX11_init 163 = .ok (.aload_n 0, 1) := by decide +kernel
theorem dX11_init_164 : decode cX11_init 164 = .ok (.iconst 4, 1) := by decide +kernel
theorem dX11_init_165 : decode cX11_init 165 = .ok (.newarray .int, 2) := by decide +kernel
theorem dX11_init_167 : decode cX11_init 167 = .ok (.putfield 73, 3) := by decide +kernel
theorem dX11_init_170 : decode cX11_init 170 = .ok (.aload_n 0, 1) := by decide +kernel
theorem dX11_init_171 : decode cX11_init 171 = .ok (.sipush 800, 3) := by decide +kernel
theorem dX11_init_174 : decode cX11_init 174 = .ok (.newarray .boolean, 2) := by decide +kernel
theorem dX11_init_176 : decode cX11_init 176 = .ok (.putfield 76, 3) := by decide +kernel
theorem dX11_init_179 : decode cX11_init 179 = .ok (.aload_n 0, 1) := by decide +kernel
theorem dX11_init_180 : decode cX11_init 180 = .ok (.iconst 4, 1) := by decide +kernel
theorem dX11_init_181 : decode cX11_init 181 = .ok (.newarray .int, 2) := by decide +kernel
theorem dX11_init_183 : decode cX11_init 183 = .ok (.putfield 79, 3) := by decide +kernel
theorem dX11_init_186 : decode cX11_init 186 = .ok (.aload_n 0, 1) := by decide +kernel
theorem dX11_init_187 : decode cX11_init 187 = .ok (.iconst 4, 1) := by decide +kernel
theorem dX11_init_188 : decode cX11_init 188 = .ok (.newarray .int, 2) := by decide +kernel
theorem dX11_init_190 : decode cX11_init 190 = .ok (.putfield 82, 3) := by decide +kernel
theorem dX11_init_193 : decode cX11_init 193 = .ok (.aload_n 0, 1) := by decide +kernel
theorem dX11_init_194 : decode cX11_init 194 = .ok (.iconst 4, 1) := by decide +kernel
theorem dX11_init_195 : decode cX11_init 195 = .ok (.newarray .int, 2) := by decide +kernel
theorem dX11_init_197 : decode cX11_init 197 = .ok (.putfield 85, 3) := by decide +kernel
theorem dX11_init_200 : decode cX11_init 200 = .ok (.aload_n 0, 1) := by decide +kernel
theorem dX11_init_201 : decode cX11_init 201 = .ok (.iconst 4, 1) := by decide +kernel
theorem dX11_init_202 : decode cX11_init 202 = .ok (.newarray .int, 2) := by decide +kernel
theorem dX11_init_204 : decode cX11_init 204 = .ok (.putfield 88, 3) := by decide +kernel
theorem dX11_init_207 : decode cX11_init 207 = .ok (.aload_n 0, 1) := by decide +kernel
theorem dX11_init_208 : decode cX11_init 208 = .ok (.iconst 4, 1) := by decide +kernel
theorem dX11_init_209 : decode cX11_init 209 = .ok (.newarray .boolean, 2) := by decide +kernel
theorem dX11_init_211 : decode cX11_init 211 = .ok (.putfield 91, 3) := by decide +kernel
theorem dX11_init_214 : decode cX11_init 214 = .ok (.aload_n 0, 1) := by decide +kernel
theorem dX11_init_215 : decode cX11_init 215 = .ok (.iconst 4, 1) := by decide +kernel
theorem dX11_init_216 : decode cX11_init 216 = .ok (.newarray .int, 2) := by decide +kernel
theorem dX11_init_218 : decode cX11_init 218 = .ok (.putfield 94, 3) := by decide +kernel
theorem dX11_init_221 : decode cX11_init 221 = .ok (.aload_n 0, 1) := by decide +kernel
theorem dX11_init_222 : decode cX11_init 222 = .ok (.iconst 4, 1) := by decide +kernel
theorem dX11_init_223 : decode cX11_init 223 = .ok (.newarray .int, 2) := by decide +kernel
theorem dX11_init_225 : decode cX11_init 225 = .ok (.putfield 97, 3) := by decide +kernel
theorem dX11_init_228 : decode cX11_init 228 = .ok (.aload_n 0, 1) := by decide +kernel
theorem dX11_init_229 : decode cX11_init 229 = .ok (.iconst 4, 1) := by decide +kernel
theorem dX11_init_230 : decode cX11_init 230 = .ok (.newarray .int, 2) := by decide +kernel
theorem dX11_init_232 : decode cX11_init 232 = .ok (.putfield 100, 3) := by decide +kernel
theorem dX11_init_235 : decode cX11_init 235 = .ok (.aload_n 0, 1) := by decide +kernel
theorem dX11_init_236 : decode cX11_init 236 = .ok (.iconst 4, 1) := by decide +kernel
theorem dX11_init_237 : decode cX11_init 237 = .ok (.newarray .int, 2) := by decide +kernel
theorem dX11_init_239 : decode cX11_init 239 = .ok (.putfield 103, 3) := by decide +kernel
theorem dX11_init_242 : decode cX11_init 242 = .ok (.aload_n 0, 1) := by decide +kernel
theorem dX11_init_243 : decode cX11_init 243 = .ok (.iconst 4, 1) := by decide +kernel
theorem dX11_init_244 : decode cX11_init 244 = .ok (.newarray .int, 2) := by decide +kernel
theorem dX11_init_246 : decode cX11_init 246 = .ok (.putfield 106, 3) := by decide +kernel
theorem dX11_init_249 : decode cX11_init 249 = .ok (.aload_n 0, 1) := by decide +kernel
theorem dX11_init_250 : decode cX11_init 250 = .ok (.iconst 4, 1) := by decide +kernel
theorem dX11_init_251 : decode cX11_init 251 = .ok (.newarray .int, 2) := by decide +kernel
theorem dX11_init_253 : decode cX11_init 253 = .ok (.putfield 109, 3) := by decide +kernel
theorem dX11_init_256 : decode cX11_init 256 = .ok (.aload_n 0, 1) := by decide +kernel
theorem dX11_init_257 : decode cX11_init 257 = .ok (.iconst 4, 1) := by decide +kernel
theorem dX11_init_258 : decode cX11_init 258 = .ok (.newarray .int, 2) := by decide +kernel
theorem dX11_init_260 : decode cX11_init 260 = .ok (.putfield 112, 3) := by decide +kernel
theorem dX11_init_263 : decode cX11_init 263 = .ok (.aload_n 0, 1) := by decide +kernel
theorem dX11_init_264 : decode cX11_init 264 = .ok (.iconst 4, 1) := by decide +kernel
theorem dX11_init_265 : decode cX11_init 265 = .ok (.newarray .int, 2) := by decide +kernel
theorem dX11_init_267 : decode cX11_init 267 = .ok (.putfield 115, 3) := by decide +kernel
theorem dX11_init_270 : decode cX11_init 270 = .ok (.aload_n 0, 1) := by decide +kernel
theorem dX11_init_271 : decode cX11_init 271 = .ok (.iconst 4, 1) := by decide +kernel
theorem dX11_init_272 : decode cX11_init 272 = .ok (.newarray .int, 2) := by decide +kernel
theorem dX11_init_274 : decode cX11_init 274 = .ok (.putfield 118, 3) := by decide +kernel
theorem dX11_init_277 : decode cX11_init 277 = .ok (.aload_n 0, 1) := by decide +kernel
theorem dX11_init_278 : decode cX11_init 278 = .ok (.iconst 4, 1) := by decide +kernel
theorem dX11_init_279 : decode cX11_init 279 = .ok (.newarray .int, 2) := by decide +kernel
theorem dX11_init_281 : decode cX11_init 281 = .ok (.putfield 121, 3) := by decide +kernel
theorem dX11_init_284 : decode cX11_init 284 = .ok (.aload_n 0, 1) := by decide +kernel
theorem dX11_init_285 : decode cX11_init 285 = .ok (.iconst 4, 1) := by decide +kernel
theorem dX11_init_286 : decode cX11_init 286 = .ok (.newarray .boolean, 2) := by decide +kernel
theorem dX11_init_288 : decode cX11_init 288 = .ok (.putfield 124, 3) := by decide +kernel
theorem dX11_init_291 : decode cX11_init 291 = .ok (.aload_n 0, 1) := by decide +kernel
theorem dX11_init_292 : decode cX11_init 292 = .ok (.iconst 4, 1) := by decide +kernel
theorem dX11_init_293 : decode cX11_init 293 = .ok (.newarray .int, 2) := by decide +kernel
theorem dX11_init_295 : decode cX11_init 295 = .ok (.putfield 127, 3) := by decide +kernel
theorem dX11_init_298 : decode cX11_init 298 = .ok (.aload_n 0, 1) := by decide +kernel
theorem dX11_init_299 : decode cX11_init 299 = .ok (.iconst 4, 1) := by decide +kernel
theorem dX11_init_300 : decode cX11_init 300 = .ok (.newarray .boolean, 2) := by decide +kernel
theorem dX11_init_302 : decode cX11_init 302 = .ok (.putfield 130, 3) := by decide +kernel
theorem dX11_init_305 : decode cX11_init 305 = .ok (.aload_n 0, 1) := by decide +kernel
theorem dX11_init_306 : decode cX11_init 306 = .ok (.iconst 4, 1) := by decide +kernel
theorem dX11_init_307 : decode cX11_init 307 = .ok (.newarray .int, 2) := by decide +kernel
theorem dX11_init_309 : decode cX11_init 309 = .ok (.putfield 133, 3) := by decide +kernel
theorem dX11_init_312 : decode cX11_init 312 = .ok (.aload_n 0, 1) := by decide +kernel
theorem dX11_init_313 : decode cX11_init 313 = .ok (.iconst 4, 1) := by decide +kernel
theorem dX11_init_314 : decode cX11_init 314 = .ok (.newarray .int, 2) := by decide +kernel
theorem dX11_init_316 : decode cX11_init 316 = .ok (.putfield 136, 3) := by decide +kernel
theorem dX11_init_319 : decode cX11_init 319 = .ok (.aload_n 0, 1) := by decide +kernel
theorem dX11_init_320 : decode cX11_init 320 = .ok (.iconst 4, 1) := by decide +kernel
theorem dX11_init_321 : decode cX11_init 321 = .ok (.newarray .int, 2) := by decide +kernel
theorem dX11_init_323 : decode cX11_init 323 = .ok (.putfield 139, 3) := by decide +kernel
theorem dX11_init_326 : decode cX11_init 326 = .ok (.aload_n 0, 1) := by decide +kernel
theorem dX11_init_327 : decode cX11_init 327 = .ok (.iconst 4, 1) := by decide +kernel
theorem dX11_init_328 : decode cX11_init 328 = .ok (.newarray .int, 2) := by decide +kernel
theorem dX11_init_330 : decode cX11_init 330 = .ok (.putfield 142, 3) := by decide +kernel
theorem dX11_init_333 : decode cX11_init 333 = .ok (.aload_n 0, 1) := by decide +kernel
theorem dX11_init_334 : decode cX11_init 334 = .ok (.iconst 4, 1) := by decide +kernel
theorem dX11_init_335 : decode cX11_init 335 = .ok (.newarray .int, 2) := by decide +kernel
theorem dX11_init_337 : decode cX11_init 337 = .ok (.putfield 145, 3) := by decide +kernel
theorem dX11_init_340 : decode cX11_init 340 = .ok (.aload_n 0, 1) := by decide +kernel
theorem dX11_init_341 : decode cX11_init 341 = .ok (.iconst 4, 1) := by decide +kernel
theorem dX11_init_342 : decode cX11_init 342 = .ok (.newarray .int, 2) := by decide +kernel
theorem dX11_init_344 : decode cX11_init 344 = .ok (.putfield 148, 3) := by decide +kernel
theorem dX11_init_347 : decode cX11_init 347 = .ok (.aload_n 0, 1) := by decide +kernel
theorem dX11_init_348 : decode cX11_init 348 = .ok (.iconst 4, 1) := by decide +kernel
theorem dX11_init_349 : decode cX11_init 349 = .ok (.newarray .int, 2) := by decide +kernel
theorem dX11_init_351 : decode cX11_init 351 = .ok (.putfield 151, 3) := by decide +kernel
theorem dX11_init_354 : decode cX11_init 354 = .ok (.aload_n 0, 1) := by decide +kernel
theorem dX11_init_355 : decode cX11_init 355 = .ok (.iconst 4, 1) := by decide +kernel
theorem dX11_init_356 : decode cX11_init 356 = .ok (.newarray .int, 2) := by decide +kernel
theorem dX11_init_358 : decode cX11_init 358 = .ok (.putfield 154, 3) := by decide +kernel
theorem dX11_init_361 : decode cX11_init 361 = .ok (.aload_n 0, 1) := by decide +kernel
theorem dX11_init_362 : decode cX11_init 362 = .ok (.iconst 4, 1) := by decide +kernel
theorem dX11_init_363 : decode cX11_init 363 = .ok (.newarray .int, 2) := by decide +kernel
theorem dX11_init_365 : decode cX11_init 365 = .ok (.putfield 157, 3) := by decide +kernel
theorem dX11_init_368 : decode cX11_init 368 = .ok (.aload_n 0, 1) := by decide +kernel
theorem dX11_init_369 : decode cX11_init 369 = .ok (.iconst 4, 1) := by decide +kernel
theorem dX11_init_370 : decode cX11_init 370 = .ok (.newarray .int, 2) := by decide +kernel
theorem dX11_init_372 : decode cX11_init 372 = .ok (.putfield 160, 3) := by decide +kernel
theorem dX11_init_375 : decode cX11_init 375 = .ok (.aload_n 0, 1) := by decide +kernel
theorem dX11_init_376 : decode cX11_init 376 = .ok (.iconst 4, 1) := by decide +kernel
theorem dX11_init_377 : decode cX11_init 377 = .ok (.newarray .int, 2) := by decide +kernel
theorem dX11_init_379 : decode cX11_init 379 = .ok (.putfield 163, 3) := by decide +kernel
theorem dX11_init_382 : decode cX11_init 382 = .ok (.aload_n 0, 1) := by decide +kernel
theorem dX11_init_383 : decode cX11_init 383 = .ok (.iconst 4, 1) := by decide +kernel
theorem dX11_init_384 : decode cX11_init 384 = .ok (.newarray .int, 2) := by decide +kernel
theorem dX11_init_386 : decode cX11_init 386 = .ok (.putfield 166, 3) := by decide +kernel
theorem dX11_init_389 : decode cX11_init 389 = .ok (.aload_n 0, 1) := by decide +kernel
theorem dX11_init_390 : decode cX11_init 390 = .ok (.iconst 4, 1) := by decide +kernel
theorem dX11_init_391 : decode cX11_init 391 = .ok (.newarray .int, 2) := by decide +kernel
theorem dX11_init_393 : decode cX11_init 393 = .ok (.putfield 169, 3) := by decide +kernel
theorem dX11_init_396 : decode cX11_init 396 = .ok (.aload_n 0, 1) := by decide +kernel
theorem dX11_init_397 : decode cX11_init 397 = .ok (.iconst 4, 1) := by decide +kernel
theorem dX11_init_398 : decode cX11_init 398 = .ok (.newarray .int, 2) := by decide +kernel
theorem dX11_init_400 : decode cX11_init 400 = .ok (.putfield 172, 3) := by decide +kernel
theorem dX11_init_403 : decode cX11_init 403 = .ok (.aload_n 0, 1) := by decide +kernel
theorem dX11_init_404 : decode cX11_init 404 = .ok (.iconst 4, 1) := by decide +kernel
theorem dX11_init_405 : decode cX11_init 405 = .ok (.newarray .int, 2) := by decide +kernel
theorem dX11_init_407 : decode cX11_init 407 = .ok (.putfield 175, 3) := by decide +kernel
theorem dX11_init_410 : decode cX11_init 410 = .ok (.aload_n 0, 1) := by decide +kernel
theorem dX11_init_411 : decode cX11_init 411 = .ok (.iconst 4, 1) := by decide +kernel
theorem dX11_init_412 : decode cX11_init 412 = .ok (.newarray .int, 2) := by decide +kernel
theorem dX11_init_414 : decode cX11_init 414 = .ok (.putfield 178, 3) := by decide +kernel
theorem dX11_init_417 : decode cX11_init 417 = .ok (.aload_n 0, 1) := by decide +kernel
theorem dX11_init_418 : decode cX11_init 418 = .ok (.sipush 800, 3) := by decide +kernel
theorem dX11_init_421 : decode cX11_init 421 = .ok (.newarray .boolean, 2) := by decide +kernel
theorem dX11_init_423 : decode cX11_init 423 = .ok (.putfield 181, 3) := by decide +kernel
theorem dX11_init_426 : decode cX11_init 426 = .ok (.aload_n 0, 1) := by decide +kernel
theorem dX11_init_427 : decode cX11_init 427 = .ok (.sipush 2048, 3) := by decide +kernel
theorem dX11_init_430 : decode cX11_init 430 = .ok (.newarray .boolean, 2) := by decide +kernel
theorem dX11_init_432 : decode cX11_init 432 = .ok (.putfield 184, 3) := by decide +kernel
theorem dX11_init_435 : decode cX11_init 435 = .ok (.return_, 1) := by decide +kernel
theorem dX11_in_0 : decode cX11_in 0 = .ok (.iload_n 0, 1) := by decide +kernel
theorem dX11_in_1 : decode cX11_in 1 = .ok (.iload_n 1, 1) := by decide +kernel
theorem dX11_in_2 : decode cX11_in 2 = .ok (.if_icmp .lt 12, 3) := by decide +kernel
theorem dX11_in_5 : decode cX11_in 5 = .ok (.iload_n 0, 1) := by decide +kernel
theorem dX11_in_6 : decode cX11_in 6 = .ok (.iload_n 2, 1) := by decide +kernel
theorem dX11_in_7 : decode cX11_in 7 = .ok (.if_icmp .gt 7, 3) := by decide +kernel
theorem dX11_in_10 : decode cX11_in 10 = .ok (.iconst 1, 1) := by decide +kernel
theorem dX11_in_11 : decode cX11_in 11 = .ok (.goto 4, 3) := by decide +kernel
theorem dX11_in_14 : decode cX11_in 14 = .ok (.iconst 0, 1) := by decide +kernel
theorem dX11_in_15 : decode cX11_in 15 = .ok (.ireturn, 1) := by decide +kernel
theorem dX11_link_0 : decode cX11_link 0 = .ok (.iload_n 1, 1) := by decide +kernel
theorem dX11_link_1 : decode cX11_link 1 = .ok (.iconst 1, 1) := by decide +kernel
theorem dX11_link_2 : decode cX11_link 2 = .ok (.bipush 100, 2) := by decide +kernel
theorem dX11_link_4 : decode cX11_link 4 = .ok (.invokestatic 187, 3) := by decide +kernel
theorem dX11_link_7 : decode cX11_link 7 = .ok (.ifCond .eq 36, 3) := by decide +kernel
theorem dX11_link_10 : decode cX11_link 10 = .ok (.iload_n 2, 1) := by decide +kernel
theorem dX11_link_11 : decode cX11_link 11 = .ok (.iconst 0, 1) := by decide +kernel
theorem dX11_link_12 : decode cX11_link 12 = .ok (.bipush 100, 2) := by decide +kernel
theorem dX11_link_14 : decode cX11_link 14 = .ok (.invokestatic 187, 3) := by decide +kernel
theorem dX11_link_17 : decode cX11_link 17 = .ok (.ifCond .eq 26, 3) := by decide +kernel
theorem dX11_link_20 : decode cX11_link 20 = .ok (.iload_n 3, 1) := by decide +kernel
theorem dX11_link_21 : decode cX11_link 21 = .ok (.iconst 1, 1) := by decide +kernel
theorem dX11_link_22 : decode cX11_link 22 = .ok (.sipush 1000, 3) := by decide +kernel
theorem dX11_link_25 : decode cX11_link 25 = .ok (.invokestatic 187, 3) := by decide +kernel
theorem dX11_link_28 : decode cX11_link 28 = .ok (.ifCond .eq 15, 3) := by decide +kernel
theorem dX11_link_31 : decode cX11_link 31 = .ok (.iload 4, 2) := by decide +kernel
theorem dX11_link_33 : decode cX11_link 33 = .ok (.iconst 1, 1) := by decide +kernel
theorem dX11_link_34 : decode cX11_link 34 = .ok (.sipush 1000, 3) := by decide +kernel
theorem dX11_link_37 : decode cX11_link 37 = .ok (.invokestatic 187, 3) := by decide +kernel
theorem dX11_link_40 : decode cX11_link 40 = .ok (.ifCond .ne 5, 3) := by decide +kernel
theorem dX11_link_43 : decode cX11_link 43 = .ok (.iconst 0, 1) := by decide +kernel
theorem dX11_link_44 : decode cX11_link 44 = .ok (.ireturn, 1) := by decide +kernel
theorem dX11_link_45 : decode cX11_link 45 = .ok (.aload_n 0, 1) := by decide +kernel
theorem dX11_link_46 : decode cX11_link 46 = .ok (.iload_n 1, 1) := by decide +kernel
theorem dX11_link_47 : decode cX11_link 47 = .ok (.putfield 7, 3) := by decide +kernel
theorem dX11_link_50 : decode cX11_link 50 = .ok (.aload_n 0, 1) := by decide +kernel
theorem dX11_link_51 : decode cX11_link 51 = .ok (.iload_n 2, 1) := by decide +kernel
theorem dX11_link_52 : decode cX11_link 52 = .ok (.putfield 13, 3) := by decide +kernel
theorem dX11_link_55 : decode cX11_link 55 = .ok (.aload_n 0, 1) := by decide +kernel
theorem dX11_link_56 : decode cX11_link 56 = .ok (.iload_n 3, 1) := by decide +kernel
theorem dX11_link_57 : decode cX11_link 57 = .ok (.putfield 16, 3) := by decide +kernel
theorem dX11_link_60 : decode cX11_link 60 = .ok (.aload_n 0, 1) := by decide +kernel
theorem dX11_link_61 : decode cX11_link 61 = .ok (.iload 4, 2) := by decide +kernel
theorem dX11_link_63 : decode cX11_link 63 = .ok (.putfield 19, 3) := by decide +kernel
theorem dX11_link_66 : decode cX11_link 66 = .ok (.iconst 1, 1) := by decide +kernel
theorem dX11_link_67 : decode cX11_link 67 = .ok (.ireturn, 1) := by decide +kernel
theorem dX11_flow_0 : decode cX11_flow 0 = .ok (.aload_n 0, 1) := by decide +kernel
theorem dX11_flow_1 : decode cX11_flow 1 = .ok (.getfield 191, 3) := by decide +kernel
theorem dX11_flow_4 : decode cX11_flow 4 = .ok (.iconst 4, 1) := by decide +kernel
theorem dX11_flow_5 : decode cX11_flow 5 = .ok (.if_icmp .eq 12, 3) := by decide +kernel
theorem dX11_flow_8 : decode cX11_flow 8 = .ok (.iload_n 1, 1) := by decide +kernel
theorem dX11_flow_9 : decode cX11_flow 9 = .ok (.iconst 0, 1) := by decide +kernel
theorem dX11_flow_10 : decode cX11_flow 10 = .ok (.iconst 3, 1) := by decide +kernel
theorem dX11_flow_11 : decode cX11_flow 11 = .ok (.invokestatic 187, 3) := by decide +kernel
theorem dX11_flow_14 : decode cX11_flow 14 = .ok (.ifCond .ne 5, 3) := by decide +kernel
theorem dX11_flow_17 : decode cX11_flow 17 = .ok (.iconst (-1), 1) := by decide +kernel
theorem dX11_flow_18 : decode cX11_flow 18 = .ok (.ireturn, 1) := by decide +kernel
theorem dX11_flow_19 : decode cX11_flow 19 = .ok (.aload_n 0, 1) := by decide +kernel
theorem dX11_flow_20 : decode cX11_flow 20 = .ok (.getfield 191, 3) := by decide +kernel
theorem dX11_flow_23 : decode cX11_flow 23 = .ok (.istore_n 3, 1) := by decide +kernel
theorem dX11_flow_24 : decode cX11_flow 24 = .ok (.aload_n 0, 1) := by decide +kernel
theorem dX11_flow_25 : decode cX11_flow 25 = .ok (.dup, 1) := by decide +kernel
theorem dX11_flow_26 : decode cX11_flow 26 = .ok (.getfield 191, 3) := by decide +kernel
theorem dX11_flow_29 : decode cX11_flow 29 = .ok (.iconst 1, 1) := by decide +kernel
theorem dX11_flow_30 : decode cX11_flow 30 = .ok (.iadd, 1) := by decide +kernel
theorem dX11_flow_31 : decode cX11_flow 31 = .ok (.putfield 191, 3) := by decide +kernel
theorem dX11_flow_34 : decode cX11_flow 34 = .ok (.aload_n 0, 1) := by decide +kernel
theorem dX11_flow_35 : decode cX11_flow 35 = .ok (.getfield 67, 3) := by decide +kernel
theorem dX11_flow_38 : decode cX11_flow 38 = .ok (.iload_n 3, 1) := by decide +kernel
theorem dX11_flow_39 : decode cX11_flow 39 = .ok (.iload_n 2, 1) := by decide +kernel
theorem dX11_flow_40 : decode cX11_flow 40 = .ok (.bastore, 1) := by decide +kernel
theorem dX11_flow_41 : decode cX11_flow 41 = .ok (.aload_n 0, 1) := by decide +kernel
theorem dX11_flow_42 : decode cX11_flow 42 = .ok (.getfield 73, 3) := by decide +kernel
theorem dX11_flow_45 : decode cX11_flow 45 = .ok (.iload_n 3, 1) := by decide +kernel
theorem dX11_flow_46 : decode cX11_flow 46 = .ok (.bipush 40, 2) := by decide +kernel
theorem dX11_flow_48 : decode cX11_flow 48 = .ok (.iastore, 1) := by decide +kernel
theorem dX11_flow_49 : decode cX11_flow 49 = .ok (.aload_n 0, 1) := by decide +kernel
theorem dX11_flow_50 : decode cX11_flow 50 = .ok (.getfield 88, 3) := by decide +kernel
theorem dX11_flow_53 : decode cX11_flow 53 = .ok (.iload_n 3, 1) := by decide +kernel
theorem dX11_flow_54 : decode cX11_flow 54 = .ok (.iconst (-1), 1) := by decide +kernel
theorem dX11_flow_55 : decode cX11_flow 55 = .ok (.iastore, 1) := by decide +kernel
theorem dX11_flow_56 : decode cX11_flow 56 = .ok (.aload_n 0, 1) := by decide +kernel
theorem dX11_flow_57 : decode cX11_flow 57 = .ok (.getfield 94, 3) := by decide +kernel
theorem dX11_flow_60 : decode cX11_flow 60 = .ok (.iload_n 3, 1) := by decide +kernel
theorem dX11_flow_61 : decode cX11_flow 61 = .ok (.iload_n 1, 1) := by decide +kernel
theorem dX11_flow_62 : decode cX11_flow 62 = .ok (.iastore, 1) := by decide +kernel
theorem dX11_flow_63 : decode cX11_flow 63 = .ok (.aload_n 0, 1) := by decide +kernel
theorem dX11_flow_64 : decode cX11_flow 64 = .ok (.getfield 109, 3) := by decide +kernel
theorem dX11_flow_67 : decode cX11_flow 67 = .ok (.iload_n 3, 1) := by decide +kernel
theorem dX11_flow_68 : decode cX11_flow 68 = .ok (.sipush 2048, 3) := by decide +kernel
theorem dX11_flow_71 : decode cX11_flow 71 = .ok (.iastore, 1) := by decide +kernel
theorem dX11_flow_72 : decode cX11_flow 72 = .ok (.aload_n 0, 1) := by decide +kernel
theorem dX11_flow_73 : decode cX11_flow 73 = .ok (.getfield 172, 3) := by decide +kernel
theorem dX11_flow_76 : decode cX11_flow 76 = .ok (.iload_n 3, 1) := by decide +kernel
theorem dX11_flow_77 : decode cX11_flow 77 = .ok (.sipush 2048, 3) := by decide +kernel
theorem dX11_flow_80 : decode cX11_flow 80 = .ok (.iastore, 1) := by decide +kernel
theorem dX11_flow_81 : decode cX11_flow 81 = .ok (.aload_n 0, 1) := by decide +kernel
theorem dX11_flow_82 : decode cX11_flow 82 = .ok (.getfield 112, 3) := by decide +kernel
theorem dX11_flow_85 : decode cX11_flow 85 = .ok (.iload_n 3, 1) := by decide +kernel
theorem dX11_flow_86 : decode cX11_flow 86 = .ok (.ldc 194, 2) := by decide +kernel
theorem dX11_flow_88 : decode cX11_flow 88 = .ok (.iastore, 1) := by decide +kernel
theorem dX11_flow_89 : decode cX11_flow 89 = .ok (.aload_n 0, 1) := by decide +kernel
theorem dX11_flow_90 : decode cX11_flow 90 = .ok (.getfield 115, 3) := by decide +kernel
theorem dX11_flow_93 : decode cX11_flow 93 = .ok (.iload_n 3, 1) := by decide +kernel
theorem dX11_flow_94 : decode cX11_flow 94 = .ok (.sipush 1000, 3) := by decide +kernel
theorem dX11_flow_97 : decode cX11_flow 97 = .ok (.iastore, 1) := by decide +kernel
theorem dX11_flow_98 : decode cX11_flow 98 = .ok (.aload_n 0, 1) := by decide +kernel
theorem dX11_flow_99 : decode cX11_flow 99 = .ok (.getfield 148, 3) := by decide +kernel
theorem dX11_flow_102 : decode cX11_flow 102 = .ok (.iload_n 3, 1) := by decide +kernel
theorem dX11_flow_103 : decode cX11_flow 103 = .ok (.bipush 40, 2) := by decide +kernel
theorem dX11_flow_105 : decode cX11_flow 105 = .ok (.iastore, 1) := by decide +kernel
theorem dX11_flow_106 : decode cX11_flow 106 = .ok (.aload_n 0, 1) := by decide +kernel
theorem dX11_flow_107 : decode cX11_flow 107 = .ok (.getfield 151, 3) := by decide +kernel
theorem dX11_flow_110 : decode cX11_flow 110 = .ok (.iload_n 3, 1) := by decide +kernel
theorem dX11_flow_111 : decode cX11_flow 111 = .ok (.iconst (-1), 1) := by decide +kernel
theorem dX11_flow_112 : decode cX11_flow 112 = .ok (.iastore, 1) := by decide +kernel
theorem dX11_flow_113 : decode cX11_flow 113 = .ok (.aload_n 0, 1) := by decide +kernel
theorem dX11_flow_114 : decode cX11_flow 114 = .ok (.getfield 169, 3) := by decide +kernel
theorem dX11_flow_117 : decode cX11_flow 117 = .ok (.iload_n 3, 1) := by decide +kernel
theorem dX11_flow_118 : decode cX11_flow 118 = .ok (.iconst (-1), 1) := by decide +kernel
theorem dX11_flow_119 : decode cX11_flow 119 = .ok (.iastore, 1) := by decide +kernel
theorem dX11_flow_120 : decode cX11_flow 120 = .ok (.aload_n 0, 1) := by decide +kernel
theorem dX11_flow_121 : decode cX11_flow 121 = .ok (.getfield 175, 3) := by decide +kernel
theorem dX11_flow_124 : decode cX11_flow 124 = .ok (.iload_n 3, 1) := by decide +kernel
theorem dX11_flow_125 : decode cX11_flow 125 = .ok (.iconst (-1), 1) := by decide +kernel
theorem dX11_flow_126 : decode cX11_flow 126 = .ok (.iastore, 1) := by decide +kernel
theorem dX11_flow_127 : decode cX11_flow 127 = .ok (.aload_n 0, 1) := by decide +kernel
theorem dX11_flow_128 : decode cX11_flow 128 = .ok (.getfield 136, 3) := by decide +kernel
theorem dX11_flow_131 : decode cX11_flow 131 = .ok (.iload_n 3, 1) := by decide +kernel
theorem dX11_flow_132 : decode cX11_flow 132 = .ok (.iconst (-1), 1) := by decide +kernel
theorem dX11_flow_133 : decode cX11_flow 133 = .ok (.iastore, 1) := by decide +kernel
theorem dX11_flow_134 : decode cX11_flow 134 = .ok (.iload_n 3, 1) := by decide +kernel
theorem dX11_flow_135 : decode cX11_flow 135 = .ok (.ireturn, 1) := by decide +kernel
theorem dX11_isFlow_0 : decode cX11_isFlow 0 = .ok (.iload_n 1, 1) := by decide +kernel
theorem dX11_isFlow_1 : decode cX11_isFlow 1 = .ok (.ifCond .lt 15, 3) := by decide +kernel
theorem dX11_isFlow_4 : decode cX11_isFlow 4 = .ok (.iload_n 1, 1) := by decide +kernel
theorem dX11_isFlow_5 : decode cX11_isFlow 5 = .ok (.aload_n 0, 1) := by decide +kernel
theorem dX11_isFlow_6 : decode cX11_isFlow 6 = .ok (.getfield 191, 3) := by decide +kernel
theorem dX11_isFlow_9 : decode cX11_isFlow 9 = .ok (.if_icmp .ge 7, 3) := by decide +kernel
theorem dX11_isFlow_12 : decode cX11_isFlow 12 = .ok (.iconst 1, 1) := by decide +kernel
theorem dX11_isFlow_13 : decode cX11_isFlow 13 = .ok (.goto 4, 3) := by decide +kernel
theorem dX11_isFlow_16 : decode cX11_isFlow 16 = .ok (.iconst 0, 1) := by decide +kernel
theorem dX11_isFlow_17 : decode cX11_isFlow 17 = .ok (.ireturn, 1) := by decide +kernel
theorem dX11_send_0 : decode cX11_send 0 = .ok (.aload_n 0, 1) := by decide +kernel
theorem dX11_send_1 : decode cX11_send 1 = .ok (.iload_n 1, 1) := by decide +kernel
