theorem dX12_bandOf_8 : decode cX12_bandOf 8 = .ok (.ifCond .eq 11, 3) := by decide +kernel
theorem dX12_bandOf_11 : decode cX12_bandOf 11 = .ok (.aload_n 0, 1) := by decide +kernel
theorem dX12_bandOf_12 : decode cX12_bandOf 12 = .ok (.iload_n 1, 1) := by decide +kernel
theorem dX12_bandOf_13 : decode cX12_bandOf 13 = .ok (.invokevirtual 237, 3) := by decide +kernel
theorem dX12_bandOf_16 : decode cX12_bandOf 16 = .ok (.goto 4, 3) := by decide +kernel
theorem dX12_bandOf_19 : decode cX12_bandOf 19 = .ok (.iconst 0, 1) := by decide +kernel
theorem dX12_bandOf_20 : decode cX12_bandOf 20 = .ok (.ireturn, 1) := by decide +kernel
theorem dX12_dues_0 : decode cX12_dues 0 = .ok (.aload_n 0, 1) := by decide +kernel
theorem dX12_dues_1 : decode cX12_dues 1 = .ok (.iload_n 1, 1) := by decide +kernel
theorem dX12_dues_2 : decode cX12_dues 2 = .ok (.invokestatic 270, 3) := by decide +kernel
theorem dX12_dues_5 : decode cX12_dues 5 = .ok (.invokevirtual 62, 3) := by decide +kernel
theorem dX12_dues_8 : decode cX12_dues 8 = .ok (.ifCond .eq 15, 3) := by decide +kernel
theorem dX12_dues_11 : decode cX12_dues 11 = .ok (.aload_n 0, 1) := by decide +kernel
theorem dX12_dues_12 : decode cX12_dues 12 = .ok (.iload_n 1, 1) := by decide +kernel
theorem dX12_dues_13 : decode cX12_dues 13 = .ok (.aload_n 0, 1) := by decide +kernel
theorem dX12_dues_14 : decode cX12_dues 14 = .ok (.invokevirtual 256, 3) := by decide +kernel
theorem dX12_dues_17 : decode cX12_dues 17 = .ok (.invokevirtual 273, 3) := by decide +kernel
theorem dX12_dues_20 : decode cX12_dues 20 = .ok (.goto 4, 3) := by decide +kernel
theorem dX12_dues_23 : decode cX12_dues 23 = .ok (.iconst 0, 1) := by decide +kernel
theorem dX12_dues_24 : decode cX12_dues 24 = .ok (.ireturn, 1) := by decide +kernel
theorem dX12_tonsIn_0 : decode cX12_tonsIn 0 = .ok (.aload_n 0, 1) := by decide +kernel
theorem dX12_tonsIn_1 : decode cX12_tonsIn 1 = .ok (.aload_n 0, 1) := by decide +kernel
theorem dX12_tonsIn_2 : decode cX12_tonsIn 2 = .ok (.iload_n 2, 1) := by decide +kernel
theorem dX12_tonsIn_3 : decode cX12_tonsIn 3 = .ok (.invokevirtual 259, 3) := by decide +kernel
theorem dX12_tonsIn_6 : decode cX12_tonsIn 6 = .ok (.iload_n 1, 1) := by decide +kernel
theorem dX12_tonsIn_7 : decode cX12_tonsIn 7 = .ok (.invokestatic 270, 3) := by decide +kernel
theorem dX12_tonsIn_10 : decode cX12_tonsIn 10 = .ok (.invokevirtual 263, 3) := by decide +kernel
theorem dX12_tonsIn_13 : decode cX12_tonsIn 13 = .ok (.ifCond .eq 12, 3) := by decide +kernel
theorem dX12_tonsIn_16 : decode cX12_tonsIn 16 = .ok (.aload_n 0, 1) := by decide +kernel
theorem dX12_tonsIn_17 : decode cX12_tonsIn 17 = .ok (.iload_n 1, 1) := by decide +kernel
theorem dX12_tonsIn_18 : decode cX12_tonsIn 18 = .ok (.iload_n 2, 1) := by decide +kernel
theorem dX12_tonsIn_19 : decode cX12_tonsIn 19 = .ok (.invokevirtual 243, 3) := by decide +kernel
theorem dX12_tonsIn_22 : decode cX12_tonsIn 22 = .ok (.goto 4, 3) := by decide +kernel
theorem dX12_tonsIn_25 : decode cX12_tonsIn 25 = .ok (.iconst 0, 1) := by decide +kernel
theorem dX12_tonsIn_26 : decode cX12_tonsIn 26 = .ok (.ireturn, 1) := by decide +kernel
theorem dX12_wasteFee_0 : decode cX12_wasteFee 0 = .ok (.aload_n 0, 1) := by decide +kernel
theorem dX12_wasteFee_1 : decode cX12_wasteFee 1 = .ok (.iload_n 1, 1) := by decide +kernel
theorem dX12_wasteFee_2 : decode cX12_wasteFee 2 = .ok (.invokestatic 276, 3) := by decide +kernel
theorem dX12_wasteFee_5 : decode cX12_wasteFee 5 = .ok (.invokevirtual 62, 3) := by decide +kernel
theorem dX12_wasteFee_8 : decode cX12_wasteFee 8 = .ok (.ifCond .eq 11, 3) := by decide +kernel
theorem dX12_wasteFee_11 : decode cX12_wasteFee 11 = .ok (.aload_n 0, 1) := by decide +kernel
theorem dX12_wasteFee_12 : decode cX12_wasteFee 12 = .ok (.iload_n 1, 1) := by decide +kernel
theorem dX12_wasteFee_13 : decode cX12_wasteFee 13 = .ok (.invokevirtual 279, 3) := by decide +kernel
theorem dX12_wasteFee_16 : decode cX12_wasteFee 16 = .ok (.goto 4, 3) := by decide +kernel
theorem dX12_wasteFee_19 : decode cX12_wasteFee 19 = .ok (.iconst 0, 1) := by decide +kernel
theorem dX12_wasteFee_20 : decode cX12_wasteFee 20 = .ok (.ireturn, 1) := by decide +kernel
theorem dX12_tons_0 : decode cX12_tons 0 = .ok (.aload_n 0, 1) := by decide +kernel
theorem dX12_tons_1 : decode cX12_tons 1 = .ok (.aload_n 0, 1) := by decide +kernel
theorem dX12_tons_2 : decode cX12_tons 2 = .ok (.iload_n 1, 1) := by decide +kernel
theorem dX12_tons_3 : decode cX12_tons 3 = .ok (.invokevirtual 282, 3) := by decide +kernel
theorem dX12_tons_6 : decode cX12_tons 6 = .ok (.invokevirtual 62, 3) := by decide +kernel
theorem dX12_tons_9 : decode cX12_tons 9 = .ok (.ifCond .eq 12, 3) := by decide +kernel
theorem dX12_tons_12 : decode cX12_tons 12 = .ok (.aload_n 0, 1) := by decide +kernel
theorem dX12_tons_13 : decode cX12_tons 13 = .ok (.iload_n 1, 1) := by decide +kernel
theorem dX12_tons_14 : decode cX12_tons 14 = .ok (.iconst 0, 1) := by decide +kernel
theorem dX12_tons_15 : decode cX12_tons 15 = .ok (.invokevirtual 285, 3) := by decide +kernel
theorem dX12_tons_18 : decode cX12_tons 18 = .ok (.goto 4, 3) := by decide +kernel
theorem dX12_tons_21 : decode cX12_tons 21 = .ok (.iconst 0, 1) := by decide +kernel
theorem dX12_tons_22 : decode cX12_tons 22 = .ok (.ireturn, 1) := by decide +kernel
theorem dX12_yearOf_0 : decode cX12_yearOf 0 = .ok (.aload_n 0, 1) := by decide +kernel
theorem dX12_yearOf_1 : decode cX12_yearOf 1 = .ok (.iload_n 1, 1) := by decide +kernel
theorem dX12_yearOf_2 : decode cX12_yearOf 2 = .ok (.iconst 1, 1) := by decide +kernel
theorem dX12_yearOf_3 : decode cX12_yearOf 3 = .ok (.invokevirtual 248, 3) := by decide +kernel
theorem dX12_yearOf_6 : decode cX12_yearOf 6 = .ok (.sipush 360, 3) := by decide +kernel
theorem dX12_yearOf_9 : decode cX12_yearOf 9 = .ok (.idiv, 1) := by decide +kernel
theorem dX12_yearOf_10 : decode cX12_yearOf 10 = .ok (.ireturn, 1) := by decide +kernel
theorem dX12_isLive_0 : decode cX12_isLive 0 = .ok (.aload_n 0, 1) := by decide +kernel
theorem dX12_isLive_1 : decode cX12_isLive 1 = .ok (.iload_n 1, 1) := by decide +kernel
theorem dX12_isLive_2 : decode cX12_isLive 2 = .ok (.iconst 0, 1) := by decide +kernel
theorem dX12_isLive_3 : decode cX12_isLive 3 = .ok (.invokevirtual 248, 3) := by decide +kernel
theorem dX12_isLive_6 : decode cX12_isLive 6 = .ok (.iload_n 2, 1) := by decide +kernel
theorem dX12_isLive_7 : decode cX12_isLive 7 = .ok (.if_icmp .ne 16, 3) := by decide +kernel
theorem dX12_isLive_10 : decode cX12_isLive 10 = .ok (.aload_n 0, 1) := by decide +kernel
theorem dX12_isLive_11 : decode cX12_isLive 11 = .ok (.iload_n 1, 1) := by decide +kernel
theorem dX12_isLive_12 : decode cX12_isLive 12 = .ok (.iconst 4, 1) := by decide +kernel
theorem dX12_isLive_13 : decode cX12_isLive 13 = .ok (.invokevirtual 248, 3) := by decide +kernel
theorem dX12_isLive_16 : decode cX12_isLive 16 = .ok (.ifCond .ne 7, 3) := by decide +kernel
theorem dX12_isLive_19 : decode cX12_isLive 19 = .ok (.iconst 1, 1) := by decide +kernel
theorem dX12_isLive_20 : decode cX12_isLive 20 = .ok (.goto 4, 3) := by decide +kernel
theorem dX12_isLive_23 : decode cX12_isLive 23 = .ok (.iconst 0, 1) := by decide +kernel
theorem dX12_isLive_24 : decode cX12_isLive 24 = .ok (.ireturn, 1) := by decide +kernel
theorem dX12_callsIn_0 : decode cX12_callsIn 0 = .ok (.iconst 0, 1) := by decide +kernel
theorem dX12_callsIn_1 : decode cX12_callsIn 1 = .ok (.istore_n 3, 1) := by decide +kernel
theorem dX12_callsIn_2 : decode cX12_callsIn 2 = .ok (.iconst 0, 1) := by decide +kernel
theorem dX12_callsIn_3 : decode cX12_callsIn 3 = .ok (.istore 4, 2) := by decide +kernel
theorem dX12_callsIn_5 : decode cX12_callsIn 5 = .ok (.iload 4, 2) := by decide +kernel
theorem dX12_callsIn_7 : decode cX12_callsIn 7 = .ok (.aload_n 0, 1) := by decide +kernel
theorem dX12_callsIn_8 : decode cX12_callsIn 8 = .ok (.getfield 17, 3) := by decide +kernel
theorem dX12_callsIn_11 : decode cX12_callsIn 11 = .ok (.iconst 1, 1) := by decide +kernel
theorem dX12_callsIn_12 : decode cX12_callsIn 12 = .ok (.iaload, 1) := by decide +kernel
theorem dX12_callsIn_13 : decode cX12_callsIn 13 = .ok (.if_icmp .ge 37, 3) := by decide +kernel
theorem dX12_callsIn_16 : decode cX12_callsIn 16 = .ok (.iload_n 3, 1) := by decide +kernel
theorem dX12_callsIn_17 : decode cX12_callsIn 17 = .ok (.aload_n 0, 1) := by decide +kernel
theorem dX12_callsIn_18 : decode cX12_callsIn 18 = .ok (.iload 4, 2) := by decide +kernel
theorem dX12_callsIn_20 : decode cX12_callsIn 20 = .ok (.iload_n 1, 1) := by decide +kernel
theorem dX12_callsIn_21 : decode cX12_callsIn 21 = .ok (.invokevirtual 288, 3) := by decide +kernel
theorem dX12_callsIn_24 : decode cX12_callsIn 24 = .ok (.ifCond .eq 17, 3) := by decide +kernel
theorem dX12_callsIn_27 : decode cX12_callsIn 27 = .ok (.aload_n 0, 1) := by decide +kernel
theorem dX12_callsIn_28 : decode cX12_callsIn 28 = .ok (.iload 4, 2) := by decide +kernel
theorem dX12_callsIn_30 : decode cX12_callsIn 30 = .ok (.invokevirtual 292, 3) := by decide +kernel
theorem dX12_callsIn_33 : decode cX12_callsIn 33 = .ok (.iload_n 2, 1) := by decide +kernel
theorem dX12_callsIn_34 : decode cX12_callsIn 34 = .ok (.if_icmp .ne 7, 3) := by decide +kernel
theorem dX12_callsIn_37 : decode cX12_callsIn 37 = .ok (.iconst 1, 1) := by decide +kernel
theorem dX12_callsIn_38 : decode cX12_callsIn 38 = .ok (.goto 4, 3) := by decide +kernel
theorem dX12_callsIn_41 : decode cX12_callsIn 41 = .ok (.iconst 0, 1) := by decide +kernel
theorem dX12_callsIn_42 : decode cX12_callsIn 42 = .ok (.iadd, 1) := by decide +kernel
theorem dX12_callsIn_43 : decode cX12_callsIn 43 = .ok (.istore_n 3, 1) := by decide +kernel
theorem dX12_callsIn_44 : decode cX12_callsIn 44 = .ok (.iinc 4 1, 3) := by decide +kernel
theorem dX12_callsIn_47 : decode cX12_callsIn 47 = .ok (.goto (-42), 3) := by decide +kernel
theorem dX12_callsIn_50 : decode cX12_callsIn 50 = .ok (.iload_n 3, 1) := by decide +kernel
theorem dX12_callsIn_51 : decode cX12_callsIn 51 = .ok (.ireturn, 1) := by decide +kernel
theorem dX12_rankWith_0 : decode cX12_rankWith 0 = .ok (.iconst 1, 1) := by decide +kernel
theorem dX12_rankWith_1 : decode cX12_rankWith 1 = .ok (.istore 4, 2) := by decide +kernel
theorem dX12_rankWith_3 : decode cX12_rankWith 3 = .ok (.iconst 0, 1) := by decide +kernel
theorem dX12_rankWith_4 : decode cX12_rankWith 4 = .ok (.istore 5, 2) := by decide +kernel
theorem dX12_rankWith_6 : decode cX12_rankWith 6 = .ok (.iload 5, 2) := by decide +kernel
theorem dX12_rankWith_8 : decode cX12_rankWith 8 = .ok (.aload_n 0, 1) := by decide +kernel
theorem dX12_rankWith_9 : decode cX12_rankWith 9 = .ok (.getfield 17, 3) := by decide +kernel
theorem dX12_rankWith_12 : decode cX12_rankWith 12 = .ok (.iconst 1, 1) := by decide +kernel
theorem dX12_rankWith_13 : decode cX12_rankWith 13 = .ok (.iaload, 1) := by decide +kernel
theorem dX12_rankWith_14 : decode cX12_rankWith 14 = .ok (.if_icmp .ge 80, 3) := by decide +kernel
theorem dX12_rankWith_17 : decode cX12_rankWith 17 = .ok (.iload 5, 2) := by decide +kernel
theorem dX12_rankWith_19 : decode cX12_rankWith 19 = .ok (.iload_n 3, 1) := by decide +kernel
theorem dX12_rankWith_20 : decode cX12_rankWith 20 = .ok (.if_icmp .eq 68, 3) := by decide +kernel
theorem dX12_rankWith_23 : decode cX12_rankWith 23 = .ok (.aload_n 0, 1) := by decide +kernel
theorem dX12_rankWith_24 : decode cX12_rankWith 24 = .ok (.iload 5, 2) := by decide +kernel
theorem dX12_rankWith_26 : decode cX12_rankWith 26 = .ok (.iload_n 1, 1) := by decide +kernel
theorem dX12_rankWith_27 : decode cX12_rankWith 27 = .ok (.invokevirtual 288, 3) := by decide +kernel
theorem dX12_rankWith_30 : decode cX12_rankWith 30 = .ok (.ifCond .eq 58, 3) := by decide +kernel
theorem dX12_rankWith_33 : decode cX12_rankWith 33 = .ok (.aload_n 0, 1) := by decide +kernel
theorem dX12_rankWith_34 : decode cX12_rankWith 34 = .ok (.iload 5, 2) := by decide +kernel
theorem dX12_rankWith_36 : decode cX12_rankWith 36 = .ok (.invokevirtual 292, 3) := by decide +kernel
theorem dX12_rankWith_39 : decode cX12_rankWith 39 = .ok (.iload_n 2, 1) := by decide +kernel
theorem dX12_rankWith_40 : decode cX12_rankWith 40 = .ok (.sipush 360, 3) := by decide +kernel
theorem dX12_rankWith_43 : decode cX12_rankWith 43 = .ok (.idiv, 1) := by decide +kernel
theorem dX12_rankWith_44 : decode cX12_rankWith 44 = .ok (.if_icmp .eq 6, 3) := by decide +kernel
theorem dX12_rankWith_47 : decode cX12_rankWith 47 = .ok (.goto 41, 3) := by decide +kernel
theorem dX12_rankWith_50 : decode cX12_rankWith 50 = .ok (.iload 4, 2) := by decide +kernel
theorem dX12_rankWith_52 : decode cX12_rankWith 52 = .ok (.aload_n 0, 1) := by decide +kernel
theorem dX12_rankWith_53 : decode cX12_rankWith 53 = .ok (.iload 5, 2) := by decide +kernel
theorem dX12_rankWith_55 : decode cX12_rankWith 55 = .ok (.iconst 1, 1) := by decide +kernel
theorem dX12_rankWith_56 : decode cX12_rankWith 56 = .ok (.invokevirtual 248, 3) := by decide +kernel
theorem dX12_rankWith_59 : decode cX12_rankWith 59 = .ok (.iload_n 2, 1) := by decide +kernel
theorem dX12_rankWith_60 : decode cX12_rankWith 60 = .ok (.if_icmp .lt 20, 3) := by decide +kernel
theorem dX12_rankWith_63 : decode cX12_rankWith 63 = .ok (.aload_n 0, 1) := by decide +kernel
theorem dX12_rankWith_64 : decode cX12_rankWith 64 = .ok (.iload 5, 2) := by decide +kernel
theorem dX12_rankWith_66 : decode cX12_rankWith 66 = .ok (.iconst 1, 1) := by decide +kernel
theorem dX12_rankWith_67 : decode cX12_rankWith 67 = .ok (.invokevirtual 248, 3) := by decide +kernel
theorem dX12_rankWith_70 : decode cX12_rankWith 70 = .ok (.iload_n 2, 1) := by decide +kernel
theorem dX12_rankWith_71 : decode cX12_rankWith 71 = .ok (.if_icmp .ne 13, 3) := by decide +kernel
theorem dX12_rankWith_74 : decode cX12_rankWith 74 = .ok (.iload 5, 2) := by decide +kernel
theorem dX12_rankWith_76 : decode cX12_rankWith 76 = .ok (.iload_n 3, 1) := by decide +kernel
theorem dX12_rankWith_77 : decode cX12_rankWith 77 = .ok (.if_icmp .ge 7, 3) := by decide +kernel
theorem dX12_rankWith_80 : decode cX12_rankWith 80 = .ok (.iconst 1, 1) := by decide +kernel
theorem dX12_rankWith_81 : decode cX12_rankWith 81 = .ok (.goto 4, 3) := by decide +kernel
theorem dX12_rankWith_84 : decode cX12_rankWith 84 = .ok (.iconst 0, 1) := by decide +kernel
theorem dX12_rankWith_85 : decode cX12_rankWith 85 = .ok (.iadd, 1) := by decide +kernel
theorem dX12_rankWith_86 : decode cX12_rankWith 86 = .ok (.istore 4, 2) := by decide +kernel
theorem dX12_rankWith_88 : decode cX12_rankWith 88 = .ok (.iinc 5 1, 3) := by decide +kernel
theorem dX12_rankWith_91 : decode cX12_rankWith 91 = .ok (.goto (-85), 3) := by decide +kernel
theorem dX12_rankWith_94 : decode cX12_rankWith 94 = .ok (.iload 4, 2) := by decide +kernel
theorem dX12_rankWith_96 : decode cX12_rankWith 96 = .ok (.ireturn, 1) := by decide +kernel
theorem dX12_rankOf_0 : decode cX12_rankOf 0 = .ok (.aload_n 0, 1) := by decide +kernel
theorem dX12_rankOf_1 : decode cX12_rankOf 1 = .ok (.iload_n 1, 1) := by decide +kernel
theorem dX12_rankOf_2 : decode cX12_rankOf 2 = .ok (.iconst 4, 1) := by decide +kernel
theorem dX12_rankOf_3 : decode cX12_rankOf 3 = .ok (.invokevirtual 248, 3) := by decide +kernel
theorem dX12_rankOf_6 : decode cX12_rankOf 6 = .ok (.iconst 1, 1) := by decide +kernel
theorem dX12_rankOf_7 : decode cX12_rankOf 7 = .ok (.if_icmp .ne 7, 3) := by decide +kernel
theorem dX12_rankOf_10 : decode cX12_rankOf 10 = .ok (.iconst 0, 1) := by decide +kernel
theorem dX12_rankOf_11 : decode cX12_rankOf 11 = .ok (.goto 20, 3) := by decide +kernel
theorem dX12_rankOf_14 : decode cX12_rankOf 14 = .ok (.aload_n 0, 1) := by decide +kernel
theorem dX12_rankOf_15 : decode cX12_rankOf 15 = .ok (.aload_n 0, 1) := by decide +kernel
theorem dX12_rankOf_16 : decode cX12_rankOf 16 = .ok (.iload_n 1, 1) := by decide +kernel
theorem dX12_rankOf_17 : decode cX12_rankOf 17 = .ok (.iconst 0, 1) := by decide +kernel
theorem dX12_rankOf_18 : decode cX12_rankOf 18 = .ok (.invokevirtual 248, 3) := by decide +kernel
theorem dX12_rankOf_21 : decode cX12_rankOf 21 = .ok (.aload_n 0, 1) := by decide +kernel
theorem dX12_rankOf_22 : decode cX12_rankOf 22 = .ok (.iload_n 1, 1) := by decide +kernel
theorem dX12_rankOf_23 : decode cX12_rankOf 23 = .ok (.iconst 1, 1) := by decide +kernel
theorem dX12_rankOf_24 : decode cX12_rankOf 24 = .ok (.invokevirtual 248, 3) := by decide +kernel
theorem dX12_rankOf_27 : decode cX12_rankOf 27 = .ok (.iload_n 1, 1) := by decide +kernel
theorem dX12_rankOf_28 : decode cX12_rankOf 28 = .ok (.invokevirtual 295, 3) := by decide +kernel
theorem dX12_rankOf_31 : decode cX12_rankOf 31 = .ok (.ireturn, 1) := by decide +kernel
theorem dX12_daysFrom_0 : decode cX12_daysFrom 0 = .ok (.iconst 0, 1) := by decide +kernel
theorem dX12_daysFrom_1 : decode cX12_daysFrom 1 = .ok (.istore_n 2, 1) := by decide +kernel
theorem dX12_daysFrom_2 : decode cX12_daysFrom 2 = .ok (.iload_n 0, 1) := by decide +kernel
theorem dX12_daysFrom_3 : decode cX12_daysFrom 3 = .ok (.istore_n 3, 1) := by decide +kernel
theorem dX12_daysFrom_4 : decode cX12_daysFrom 4 = .ok (.iload_n 3, 1) := by decide +kernel
theorem dX12_daysFrom_5 : decode cX12_daysFrom 5 = .ok (.iload_n 1, 1) := by decide +kernel
theorem dX12_daysFrom_6 : decode cX12_daysFrom 6 = .ok (.if_icmp .ge 15, 3) := by decide +kernel
theorem dX12_daysFrom_9 : decode cX12_daysFrom 9 = .ok (.iload_n 2, 1) := by decide +kernel
theorem dX12_daysFrom_10 : decode cX12_daysFrom 10 = .ok (.iconst 1, 1) := by decide +kernel
theorem dX12_daysFrom_11 : decode cX12_daysFrom 11 = .ok (.iload_n 3, 1) := by decide +kernel
theorem dX12_daysFrom_12 : decode cX12_daysFrom 12 = .ok (.ishl, 1) := by decide +kernel
theorem dX12_daysFrom_13 : decode cX12_daysFrom 13 = .ok (.ior, 1) := by decide +kernel
theorem dX12_daysFrom_14 : decode cX12_daysFrom 14 = .ok (.istore_n 2, 1) := by decide +kernel
theorem dX12_daysFrom_15 : decode cX12_daysFrom 15 = .ok (.iinc 3 1, 3) := by decide +kernel
theorem dX12_daysFrom_18 : decode cX12_daysFrom 18 = .ok (.goto (-14), 3) := by decide +kernel
theorem dX12_daysFrom_21 : decode cX12_daysFrom 21 = .ok (.iload_n 2, 1) := by decide +kernel
theorem dX12_daysFrom_22 : decode cX12_daysFrom 22 = .ok (.ireturn, 1) := by decide +kernel
theorem dX12_daysOf_0 : decode cX12_daysOf 0 = .ok (.aload_n 0, 1) := by decide +kernel
theorem dX12_daysOf_1 : decode cX12_daysOf 1 = .ok (.iload_n 1, 1) := by decide +kernel
theorem dX12_daysOf_2 : decode cX12_daysOf 2 = .ok (.iconst 2, 1) := by decide +kernel
theorem dX12_daysOf_3 : decode cX12_daysOf 3 = .ok (.invokevirtual 248, 3) := by decide +kernel
theorem dX12_daysOf_6 : decode cX12_daysOf 6 = .ok (.aload_n 0, 1) := by decide +kernel
theorem dX12_daysOf_7 : decode cX12_daysOf 7 = .ok (.iload_n 1, 1) := by decide +kernel
theorem dX12_daysOf_8 : decode cX12_daysOf 8 = .ok (.iconst 1, 1) := by decide +kernel
theorem dX12_daysOf_9 : decode cX12_daysOf 9 = .ok (.invokevirtual 248, 3) := by decide +kernel
theorem dX12_daysOf_12 : decode cX12_daysOf 12 = .ok (.isub, 1) := by decide +kernel
theorem dX12_daysOf_13 : decode cX12_daysOf 13 = .ok (.iconst 1, 1) := by decide +kernel
theorem dX12_daysOf_14 : decode cX12_daysOf 14 = .ok (.iadd, 1) := by decide +kernel
theorem dX12_daysOf_15 : decode cX12_daysOf 15 = .ok (.ireturn, 1) := by decide +kernel
theorem dX12_laySet_0 : decode cX12_laySet 0 = .ok (.aload_n 0, 1) := by decide +kernel
theorem dX12_laySet_1 : decode cX12_laySet 1 = .ok (.aload_n 0, 1) := by decide +kernel
theorem dX12_laySet_2 : decode cX12_laySet 2 = .ok (.invokevirtual 256, 3) := by decide +kernel
theorem dX12_laySet_5 : decode cX12_laySet 5 = .ok (.bipush 10, 2) := by decide +kernel
theorem dX12_laySet_7 : decode cX12_laySet 7 = .ok (.invokevirtual 240, 3) := by decide +kernel
theorem dX12_laySet_10 : decode cX12_laySet 10 = .ok (.aload_n 0, 1) := by decide +kernel
theorem dX12_laySet_11 : decode cX12_laySet 11 = .ok (.iload_n 1, 1) := by decide +kernel
theorem dX12_laySet_12 : decode cX12_laySet 12 = .ok (.invokevirtual 299, 3) := by decide +kernel
theorem dX12_laySet_15 : decode cX12_laySet 15 = .ok (.invokestatic 302, 3) := by decide +kernel
theorem dX12_laySet_18 : decode cX12_laySet 18 = .ok (.ireturn, 1) := by decide +kernel
theorem dX12_contestedSet_0 : decode cX12_contestedSet 0 = .ok (.aload_n 0, 1) := by decide +kernel
theorem dX12_contestedSet_1 : decode cX12_contestedSet 1 = .ok (.iload_n 1, 1) := by decide +kernel
theorem dX12_contestedSet_2 : decode cX12_contestedSet 2 = .ok (.iconst 5, 1) := by decide +kernel
theorem dX12_contestedSet_3 : decode cX12_contestedSet 3 = .ok (.invokevirtual 248, 3) := by decide +kernel
theorem dX12_contestedSet_6 : decode cX12_contestedSet 6 = .ok (.aload_n 0, 1) := by decide +kernel
theorem dX12_contestedSet_7 : decode cX12_contestedSet 7 = .ok (.iload_n 1, 1) := by decide +kernel
theorem dX12_contestedSet_8 : decode cX12_contestedSet 8 = .ok (.bipush 6, 2) := by decide +kernel
theorem dX12_contestedSet_10 : decode cX12_contestedSet 10 = .ok (.invokevirtual 248, 3) := by decide +kernel
theorem dX12_contestedSet_13 : decode cX12_contestedSet 13 = .ok (.ior, 1) := by decide +kernel
theorem dX12_contestedSet_14 : decode cX12_contestedSet 14 = .ok (.ireturn, 1) := by decide +kernel
theorem dX12_billedSet_0 : decode cX12_billedSet 0 = .ok (.iconst 0, 1) := by decide +kernel
theorem dX12_billedSet_1 : decode cX12_billedSet 1 = .ok (.istore_n 2, 1) := by decide +kernel
theorem dX12_billedSet_2 : decode cX12_billedSet 2 = .ok (.iconst 0, 1) := by decide +kernel
theorem dX12_billedSet_3 : decode cX12_billedSet 3 = .ok (.istore_n 3, 1) := by decide +kernel
theorem dX12_billedSet_4 : decode cX12_billedSet 4 = .ok (.iload_n 3, 1) := by decide +kernel
theorem dX12_billedSet_5 : decode cX12_billedSet 5 = .ok (.aload_n 0, 1) := by decide +kernel
theorem dX12_billedSet_6 : decode cX12_billedSet 6 = .ok (.getfield 17, 3) := by decide +kernel
theorem dX12_billedSet_9 : decode cX12_billedSet 9 = .ok (.iconst 2, 1) := by decide +kernel
theorem dX12_billedSet_10 : decode cX12_billedSet 10 = .ok (.iaload, 1) := by decide +kernel
theorem dX12_billedSet_11 : decode cX12_billedSet 11 = .ok (.if_icmp .ge 41, 3) := by decide +kernel
theorem dX12_billedSet_14 : decode cX12_billedSet 14 = .ok (.iload_n 2, 1) := by decide +kernel
theorem dX12_billedSet_15 : decode cX12_billedSet 15 = .ok (.aload_n 0, 1) := by decide +kernel
theorem dX12_billedSet_16 : decode cX12_billedSet 16 = .ok (.iload_n 3, 1) := by decide +kernel
theorem dX12_billedSet_17 : decode cX12_billedSet 17 = .ok (.iconst 0, 1) := by decide +kernel
theorem dX12_billedSet_18 : decode cX12_billedSet 18 = .ok (.invokevirtual 305, 3) := by decide +kernel
theorem dX12_billedSet_21 : decode cX12_billedSet 21 = .ok (.iload_n 1, 1) := by decide +kernel
theorem dX12_billedSet_22 : decode cX12_billedSet 22 = .ok (.if_icmp .ne 21, 3) := by decide +kernel
theorem dX12_billedSet_25 : decode cX12_billedSet 25 = .ok (.aload_n 0, 1) := by decide +kernel
theorem dX12_billedSet_26 : decode cX12_billedSet 26 = .ok (.iload_n 3, 1) := by decide +kernel
theorem dX12_billedSet_27 : decode cX12_billedSet 27 = .ok (.iconst 3, 1) := by decide +kernel
theorem dX12_billedSet_28 : decode cX12_billedSet 28 = .ok (.invokevirtual 305, 3) := by decide +kernel
theorem dX12_billedSet_31 : decode cX12_billedSet 31 = .ok (.aload_n 0, 1) := by decide +kernel
theorem dX12_billedSet_32 : decode cX12_billedSet 32 = .ok (.iload_n 3, 1) := by decide +kernel
theorem dX12_billedSet_33 : decode cX12_billedSet 33 = .ok (.iconst 4, 1) := by decide +kernel
theorem dX12_billedSet_34 : decode cX12_billedSet 34 = .ok (.invokevirtual 305, 3) := by decide +kernel
theorem dX12_billedSet_37 : decode cX12_billedSet 37 = .ok (.iconst (-1), 1) := by decide +kernel
theorem dX12_billedSet_38 : decode cX12_billedSet 38 = .ok (.ixor, 1) := by decide +kernel
theorem dX12_billedSet_39 : decode cX12_billedSet 39 = .ok (.iand, 1) := by decide +kernel
theorem dX12_billedSet_40 : decode cX12_billedSet 40 = .ok (.goto 4, 3) := by decide +kernel
theorem dX12_billedSet_43 : decode cX12_billedSet 43 = .ok (.iconst 0, 1) := by decide +kernel
theorem dX12_billedSet_44 : decode cX12_billedSet 44 = .ok (.ior, 1) := by decide +kernel
theorem dX12_billedSet_45 : decode cX12_billedSet 45 = .ok (.istore_n 2, 1) := by decide +kernel
theorem dX12_billedSet_46 : decode cX12_billedSet 46 = .ok (.iinc 3 1, 3) := by decide +kernel
theorem dX12_billedSet_49 : decode cX12_billedSet 49 = .ok (.goto (-45), 3) := by decide +kernel
theorem dX12_billedSet_52 : decode cX12_billedSet 52 = .ok (.iload_n 2, 1) := by decide +kernel
theorem dX12_billedSet_53 : decode cX12_billedSet 53 = .ok (.bipush 7, 2) := by decide +kernel
theorem dX12_billedSet_55 : decode cX12_billedSet 55 = .ok (.iand, 1) := by decide +kernel
theorem dX12_billedSet_56 : decode cX12_billedSet 56 = .ok (.ireturn, 1) := by decide +kernel
theorem dX12_billedDaySet_0 : decode cX12_billedDaySet 0 = .ok (.iconst 0, 1) := by decide +kernel
theorem dX12_billedDaySet_1 : decode cX12_billedDaySet 1 = .ok (.istore_n 2, 1) := by decide +kernel
theorem dX12_billedDaySet_2 : decode cX12_billedDaySet 2 = .ok (.iconst 0, 1) := by decide +kernel
theorem dX12_billedDaySet_3 : decode cX12_billedDaySet 3 = .ok (.istore_n 3, 1) := by decide +kernel
theorem dX12_billedDaySet_4 : decode cX12_billedDaySet 4 = .ok (.iload_n 3, 1) := by decide +kernel
theorem dX12_billedDaySet_5 : decode cX12_billedDaySet 5 = .ok (.aload_n 0, 1) := by decide +kernel
theorem dX12_billedDaySet_6 : decode cX12_billedDaySet 6 = .ok (.getfield 17, 3) := by decide +kernel
theorem dX12_billedDaySet_9 : decode cX12_billedDaySet 9 = .ok (.iconst 2, 1) := by decide +kernel
theorem dX12_billedDaySet_10 : decode cX12_billedDaySet 10 = .ok (.iaload, 1) := by decide +kernel
theorem dX12_billedDaySet_11 : decode cX12_billedDaySet 11 = .ok (.if_icmp .ge 45, 3) := by decide +kernel
theorem dX12_billedDaySet_14 : decode cX12_billedDaySet 14 = .ok (.iload_n 2, 1) := by decide +kernel
theorem dX12_billedDaySet_15 : decode cX12_billedDaySet 15 = .ok (.aload_n 0, 1) := by decide +kernel
theorem dX12_billedDaySet_16 : decode cX12_billedDaySet 16 = .ok (.iload_n 3, 1) := by decide +kernel
theorem dX12_billedDaySet_17 : decode cX12_billedDaySet 17 = .ok (.iconst 0, 1) := by decide +kernel
theorem dX12_billedDaySet_18 : decode cX12_billedDaySet 18 = .ok (.invokevirtual 305, 3) := by decide +kernel
theorem dX12_billedDaySet_21 : decode cX12_billedDaySet 21 = .ok (.iload_n 1, 1) := by decide +kernel
theorem dX12_billedDaySet_22 : decode cX12_billedDaySet 22 = .ok (.if_icmp .ne 25, 3) := by decide +kernel
theorem dX12_billedDaySet_25 : decode cX12_billedDaySet 25 = .ok (.aload_n 0, 1) := by decide +kernel
theorem dX12_billedDaySet_26 : decode cX12_billedDaySet 26 = .ok (.iload_n 3, 1) := by decide +kernel
theorem dX12_billedDaySet_27 : decode cX12_billedDaySet 27 = .ok (.iconst 4, 1) := by decide +kernel
theorem dX12_billedDaySet_28 : decode cX12_billedDaySet 28 = .ok (.invokevirtual 305, 3) := by decide +kernel
theorem dX12_billedDaySet_31 : decode cX12_billedDaySet 31 = .ok (.iconst 3, 1) := by decide +kernel
theorem dX12_billedDaySet_32 : decode cX12_billedDaySet 32 = .ok (.invokestatic 308, 3) := by decide +kernel
theorem dX12_billedDaySet_35 : decode cX12_billedDaySet 35 = .ok (.ifCond .ne 12, 3) := by decide +kernel
theorem dX12_billedDaySet_38 : decode cX12_billedDaySet 38 = .ok (.aload_n 0, 1) := by decide +kernel
theorem dX12_billedDaySet_39 : decode cX12_billedDaySet 39 = .ok (.iload_n 3, 1) := by decide +kernel
theorem dX12_billedDaySet_40 : decode cX12_billedDaySet 40 = .ok (.iconst 5, 1) := by decide +kernel
theorem dX12_billedDaySet_41 : decode cX12_billedDaySet 41 = .ok (.invokevirtual 305, 3) := by decide +kernel
theorem dX12_billedDaySet_44 : decode cX12_billedDaySet 44 = .ok (.goto 4, 3) := by decide +kernel
theorem dX12_billedDaySet_47 : decode cX12_billedDaySet 47 = .ok (.iconst 0, 1) := by decide +kernel
theorem dX12_billedDaySet_48 : decode cX12_billedDaySet 48 = .ok (.ior, 1) := by decide +kernel
theorem dX12_billedDaySet_49 : decode cX12_billedDaySet 49 = .ok (.istore_n 2, 1) := by decide +kernel
theorem dX12_billedDaySet_50 : decode cX12_billedDaySet 50 = .ok (.iinc 3 1, 3) := by decide +kernel
theorem dX12_billedDaySet_53 : decode cX12_billedDaySet 53 = .ok (.goto (-49), 3) := by decide +kernel
theorem dX12_billedDaySet_56 : decode cX12_billedDaySet 56 = .ok (.iload_n 2, 1) := by decide +kernel
theorem dX12_billedDaySet_57 : decode cX12_billedDaySet 57 = .ok (.ireturn, 1) := by decide +kernel
theorem dX12_billableSet_0 : decode cX12_billableSet 0 = .ok (.aload_n 0, 1) := by decide +kernel
theorem dX12_billableSet_1 : decode cX12_billableSet 1 = .ok (.iload_n 1, 1) := by decide +kernel
theorem dX12_billableSet_2 : decode cX12_billableSet 2 = .ok (.invokevirtual 311, 3) := by decide +kernel
theorem dX12_billableSet_5 : decode cX12_billableSet 5 = .ok (.aload_n 0, 1) := by decide +kernel
theorem dX12_billableSet_6 : decode cX12_billableSet 6 = .ok (.iload_n 1, 1) := by decide +kernel
theorem dX12_billableSet_7 : decode cX12_billableSet 7 = .ok (.invokevirtual 314, 3) := by decide +kernel
theorem dX12_billableSet_10 : decode cX12_billableSet 10 = .ok (.iconst (-1), 1) := by decide +kernel
theorem dX12_billableSet_11 : decode cX12_billableSet 11 = .ok (.ixor, 1) := by decide +kernel
theorem dX12_billableSet_12 : decode cX12_billableSet 12 = .ok (.iand, 1) := by decide +kernel
theorem dX12_billableSet_13 : decode cX12_billableSet 13 = .ok (.aload_n 0, 1) := by decide +kernel
theorem dX12_billableSet_14 : decode cX12_billableSet 14 = .ok (.iload_n 1, 1) := by decide +kernel
theorem dX12_billableSet_15 : decode cX12_billableSet 15 = .ok (.invokevirtual 317, 3) := by decide +kernel
theorem dX12_billableSet_18 : decode cX12_billableSet 18 = .ok (.iconst (-1), 1) := by decide +kernel
theorem dX12_billableSet_19 : decode cX12_billableSet 19 = .ok (.ixor, 1) := by decide +kernel
theorem dX12_billableSet_20 : decode cX12_billableSet 20 = .ok (.iand, 1) := by decide +kernel
theorem dX12_billableSet_21 : decode cX12_billableSet 21 = .ok (.ireturn, 1) := by decide +kernel
theorem dX12_lineOf_0 : decode cX12_lineOf 0 = .ok (.iload 4, 2) := by decide +kernel
theorem dX12_lineOf_2 : decode cX12_lineOf 2 = .ok (.iconst 2, 1) := by decide +kernel
theorem dX12_lineOf_3 : decode cX12_lineOf 3 = .ok (.if_icmp .ne 9, 3) := by decide +kernel
theorem dX12_lineOf_6 : decode cX12_lineOf 6 = .ok (.aload_n 0, 1) := by decide +kernel
theorem dX12_lineOf_7 : decode cX12_lineOf 7 = .ok (.iload_n 3, 1) := by decide +kernel
theorem dX12_lineOf_8 : decode cX12_lineOf 8 = .ok (.invokevirtual 279, 3) := by decide +kernel
theorem dX12_lineOf_11 : decode cX12_lineOf 11 = .ok (.ireturn, 1) := by decide +kernel
theorem dX12_lineOf_12 : decode cX12_lineOf 12 = .ok (.aload_n 0, 1) := by decide +kernel
theorem dX12_lineOf_13 : decode cX12_lineOf 13 = .ok (.iload_n 1, 1) := by decide +kernel
theorem dX12_lineOf_14 : decode cX12_lineOf 14 = .ok (.iload 5, 2) := by decide +kernel
theorem dX12_lineOf_16 : decode cX12_lineOf 16 = .ok (.invokevirtual 273, 3) := by decide +kernel
theorem dX12_lineOf_19 : decode cX12_lineOf 19 = .ok (.istore 6, 2) := by decide +kernel
theorem dX12_lineOf_21 : decode cX12_lineOf 21 = .ok (.iload 4, 2) := by decide +kernel
theorem dX12_lineOf_23 : decode cX12_lineOf 23 = .ok (.ifCond .ne 8, 3) := by decide +kernel
theorem dX12_lineOf_26 : decode cX12_lineOf 26 = .ok (.iload 6, 2) := by decide +kernel
theorem dX12_lineOf_28 : decode cX12_lineOf 28 = .ok (.goto 17, 3) := by decide +kernel
theorem dX12_lineOf_31 : decode cX12_lineOf 31 = .ok (.iload 6, 2) := by decide +kernel
theorem dX12_lineOf_33 : decode cX12_lineOf 33 = .ok (.aload_n 0, 1) := by decide +kernel
theorem dX12_lineOf_34 : decode cX12_lineOf 34 = .ok (.iload_n 2, 1) := by decide +kernel
theorem dX12_lineOf_35 : decode cX12_lineOf 35 = .ok (.iload 5, 2) := by decide +kernel
theorem dX12_lineOf_37 : decode cX12_lineOf 37 = .ok (.invokevirtual 320, 3) := by decide +kernel
theorem dX12_lineOf_40 : decode cX12_lineOf 40 = .ok (.imul, 1) := by decide +kernel
theorem dX12_lineOf_41 : decode cX12_lineOf 41 = .ok (.bipush 100, 2) := by decide +kernel
theorem dX12_lineOf_43 : decode cX12_lineOf 43 = .ok (.idiv, 1) := by decide +kernel
theorem dX12_lineOf_44 : decode cX12_lineOf 44 = .ok (.ineg, 1) := by decide +kernel
theorem dX12_lineOf_45 : decode cX12_lineOf 45 = .ok (.ireturn, 1) := by decide +kernel
theorem dX12_callLine_0 : decode cX12_callLine 0 = .ok (.aload_n 0, 1) := by decide +kernel
theorem dX12_callLine_1 : decode cX12_callLine 1 = .ok (.aload_n 0, 1) := by decide +kernel
theorem dX12_callLine_2 : decode cX12_callLine 2 = .ok (.aload_n 0, 1) := by decide +kernel
theorem dX12_callLine_3 : decode cX12_callLine 3 = .ok (.iload_n 1, 1) := by decide +kernel
theorem dX12_callLine_4 : decode cX12_callLine 4 = .ok (.iconst 0, 1) := by decide +kernel
theorem dX12_callLine_5 : decode cX12_callLine 5 = .ok (.invokevirtual 248, 3) := by decide +kernel
theorem dX12_callLine_8 : decode cX12_callLine 8 = .ok (.iconst 0, 1) := by decide +kernel
theorem dX12_callLine_9 : decode cX12_callLine 9 = .ok (.invokevirtual 285, 3) := by decide +kernel
theorem dX12_callLine_12 : decode cX12_callLine 12 = .ok (.aload_n 0, 1) := by decide +kernel
theorem dX12_callLine_13 : decode cX12_callLine 13 = .ok (.iload_n 1, 1) := by decide +kernel
theorem dX12_callLine_14 : decode cX12_callLine 14 = .ok (.invokevirtual 323, 3) := by decide +kernel
theorem dX12_callLine_17 : decode cX12_callLine 17 = .ok (.aload_n 0, 1) := by decide +kernel
theorem dX12_callLine_18 : decode cX12_callLine 18 = .ok (.iload_n 1, 1) := by decide +kernel
theorem dX12_callLine_19 : decode cX12_callLine 19 = .ok (.iconst 3, 1) := by decide +kernel
theorem dX12_callLine_20 : decode cX12_callLine 20 = .ok (.invokevirtual 248, 3) := by decide +kernel
theorem dX12_callLine_23 : decode cX12_callLine 23 = .ok (.iload_n 2, 1) := by decide +kernel
theorem dX12_callLine_24 : decode cX12_callLine 24 = .ok (.iload_n 3, 1) := by decide +kernel
theorem dX12_callLine_25 : decode cX12_callLine 25 = .ok (.invokevirtual 326, 3) := by decide +kernel
theorem dX12_callLine_28 : decode cX12_callLine 28 = .ok (.ireturn, 1) := by decide +kernel
theorem dX12_layOf_0 : decode cX12_layOf 0 = .ok (.iload_n 1, 1) := by decide +kernel
theorem dX12_layOf_1 : decode cX12_layOf 1 = .ok (.invokestatic 251, 3) := by decide +kernel
theorem dX12_layOf_4 : decode cX12_layOf 4 = .ok (.aload_n 0, 1) := by decide +kernel
theorem dX12_layOf_5 : decode cX12_layOf 5 = .ok (.iload_n 2, 1) := by decide +kernel
theorem dX12_layOf_6 : decode cX12_layOf 6 = .ok (.bipush 11, 2) := by decide +kernel
theorem dX12_layOf_8 : decode cX12_layOf 8 = .ok (.invokevirtual 240, 3) := by decide +kernel
theorem dX12_layOf_11 : decode cX12_layOf 11 = .ok (.imul, 1) := by decide +kernel
theorem dX12_layOf_12 : decode cX12_layOf 12 = .ok (.ireturn, 1) := by decide +kernel
theorem dX12_amountOf_0 : decode cX12_amountOf 0 = .ok (.iload_n 2, 1) := by decide +kernel
theorem dX12_amountOf_1 : decode cX12_amountOf 1 = .ok (.iconst 3, 1) := by decide +kernel
theorem dX12_amountOf_2 : decode cX12_amountOf 2 = .ok (.if_icmp .ne 27, 3) := by decide +kernel
theorem dX12_amountOf_5 : decode cX12_amountOf 5 = .ok (.aload_n 0, 1) := by decide +kernel
theorem dX12_amountOf_6 : decode cX12_amountOf 6 = .ok (.aload_n 0, 1) := by decide +kernel
theorem dX12_amountOf_7 : decode cX12_amountOf 7 = .ok (.iload_n 1, 1) := by decide +kernel
theorem dX12_amountOf_8 : decode cX12_amountOf 8 = .ok (.invokevirtual 311, 3) := by decide +kernel
theorem dX12_amountOf_11 : decode cX12_amountOf 11 = .ok (.aload_n 0, 1) := by decide +kernel
theorem dX12_amountOf_12 : decode cX12_amountOf 12 = .ok (.iload_n 1, 1) := by decide +kernel
theorem dX12_amountOf_13 : decode cX12_amountOf 13 = .ok (.invokevirtual 317, 3) := by decide +kernel
theorem dX12_amountOf_16 : decode cX12_amountOf 16 = .ok (.iconst (-1), 1) := by decide +kernel
theorem dX12_amountOf_17 : decode cX12_amountOf 17 = .ok (.ixor, 1) := by decide +kernel
theorem dX12_amountOf_18 : decode cX12_amountOf 18 = .ok (.iand, 1) := by decide +kernel
theorem dX12_amountOf_19 : decode cX12_amountOf 19 = .ok (.aload_n 0, 1) := by decide +kernel
theorem dX12_amountOf_20 : decode cX12_amountOf 20 = .ok (.invokevirtual 256, 3) := by decide +kernel
theorem dX12_amountOf_23 : decode cX12_amountOf 23 = .ok (.invokevirtual 330, 3) := by decide +kernel
theorem dX12_amountOf_26 : decode cX12_amountOf 26 = .ok (.goto 13, 3) := by decide +kernel
theorem dX12_amountOf_29 : decode cX12_amountOf 29 = .ok (.aload_n 0, 1) := by decide +kernel
theorem dX12_amountOf_30 : decode cX12_amountOf 30 = .ok (.iload_n 1, 1) := by decide +kernel
theorem dX12_amountOf_31 : decode cX12_amountOf 31 = .ok (.iload_n 2, 1) := by decide +kernel
theorem dX12_amountOf_32 : decode cX12_amountOf 32 = .ok (.aload_n 0, 1) := by decide +kernel
theorem dX12_amountOf_33 : decode cX12_amountOf 33 = .ok (.invokevirtual 256, 3) := by decide +kernel
theorem dX12_amountOf_36 : decode cX12_amountOf 36 = .ok (.invokevirtual 333, 3) := by decide +kernel
theorem dX12_amountOf_39 : decode cX12_amountOf 39 = .ok (.ireturn, 1) := by decide +kernel
theorem dX12_totalOf_0 : decode cX12_totalOf 0 = .ok (.aload_n 0, 1) := by decide +kernel
theorem dX12_totalOf_1 : decode cX12_totalOf 1 = .ok (.iload_n 1, 1) := by decide +kernel
theorem dX12_totalOf_2 : decode cX12_totalOf 2 = .ok (.iconst 4, 1) := by decide +kernel
theorem dX12_totalOf_3 : decode cX12_totalOf 3 = .ok (.invokevirtual 248, 3) := by decide +kernel
theorem dX12_totalOf_6 : decode cX12_totalOf 6 = .ok (.iconst 1, 1) := by decide +kernel
theorem dX12_totalOf_7 : decode cX12_totalOf 7 = .ok (.if_icmp .ne 5, 3) := by decide +kernel
theorem dX12_totalOf_10 : decode cX12_totalOf 10 = .ok (.iconst 0, 1) := by decide +kernel
theorem dX12_totalOf_11 : decode cX12_totalOf 11 = .ok (.ireturn, 1) := by decide +kernel
theorem dX12_totalOf_12 : decode cX12_totalOf 12 = .ok (.aload_n 0, 1) := by decide +kernel
theorem dX12_totalOf_13 : decode cX12_totalOf 13 = .ok (.iload_n 1, 1) := by decide +kernel
theorem dX12_totalOf_14 : decode cX12_totalOf 14 = .ok (.iconst 0, 1) := by decide +kernel
theorem dX12_totalOf_15 : decode cX12_totalOf 15 = .ok (.invokevirtual 336, 3) := by decide +kernel
theorem dX12_totalOf_18 : decode cX12_totalOf 18 = .ok (.aload_n 0, 1) := by decide +kernel
theorem dX12_totalOf_19 : decode cX12_totalOf 19 = .ok (.iload_n 1, 1) := by decide +kernel
theorem dX12_totalOf_20 : decode cX12_totalOf 20 = .ok (.iconst 1, 1) := by decide +kernel
theorem dX12_totalOf_21 : decode cX12_totalOf 21 = .ok (.invokevirtual 336, 3) := by decide +kernel
theorem dX12_totalOf_24 : decode cX12_totalOf 24 = .ok (.iadd, 1) := by decide +kernel
theorem dX12_totalOf_25 : decode cX12_totalOf 25 = .ok (.aload_n 0, 1) := by decide +kernel
theorem dX12_totalOf_26 : decode cX12_totalOf 26 = .ok (.iload_n 1, 1) := by decide +kernel
theorem dX12_totalOf_27 : decode cX12_totalOf 27 = .ok (.iconst 2, 1) := by decide +kernel
theorem dX12_totalOf_28 : decode cX12_totalOf 28 = .ok (.invokevirtual 336, 3) := by decide +kernel
theorem dX12_totalOf_31 : decode cX12_totalOf 31 = .ok (.iadd, 1) := by decide +kernel
theorem dX12_totalOf_32 : decode cX12_totalOf 32 = .ok (.aload_n 0, 1) := by decide +kernel
theorem dX12_totalOf_33 : decode cX12_totalOf 33 = .ok (.iload_n 1, 1) := by decide +kernel
theorem dX12_totalOf_34 : decode cX12_totalOf 34 = .ok (.iconst 3, 1) := by decide +kernel
theorem dX12_totalOf_35 : decode cX12_totalOf 35 = .ok (.invokevirtual 336, 3) := by decide +kernel
theorem dX12_totalOf_38 : decode cX12_totalOf 38 = .ok (.iadd, 1) := by decide +kernel
theorem dX12_totalOf_39 : decode cX12_totalOf 39 = .ok (.ireturn, 1) := by decide +kernel
theorem dX12_calls_0 : decode cX12_calls 0 = .ok (.aload_n 0, 1) := by decide +kernel
theorem dX12_calls_1 : decode cX12_calls 1 = .ok (.aload_n 0, 1) := by decide +kernel
theorem dX12_calls_2 : decode cX12_calls 2 = .ok (.iload_n 1, 1) := by decide +kernel
theorem dX12_calls_3 : decode cX12_calls 3 = .ok (.invokevirtual 282, 3) := by decide +kernel
theorem dX12_calls_6 : decode cX12_calls 6 = .ok (.iload_n 2, 1) := by decide +kernel
theorem dX12_calls_7 : decode cX12_calls 7 = .ok (.invokestatic 339, 3) := by decide +kernel
theorem dX12_calls_10 : decode cX12_calls 10 = .ok (.invokevirtual 263, 3) := by decide +kernel
theorem dX12_calls_13 : decode cX12_calls 13 = .ok (.ifCond .eq 12, 3) := by decide +kernel
theorem dX12_calls_16 : decode cX12_calls 16 = .ok (.aload_n 0, 1) := by decide +kernel
theorem dX12_calls_17 : decode cX12_calls 17 = .ok (.iload_n 1, 1) := by decide +kernel
theorem dX12_calls_18 : decode cX12_calls 18 = .ok (.iload_n 2, 1) := by decide +kernel
theorem dX12_calls_19 : decode cX12_calls 19 = .ok (.invokevirtual 342, 3) := by decide +kernel
theorem dX12_calls_22 : decode cX12_calls 22 = .ok (.goto 4, 3) := by decide +kernel
theorem dX12_calls_25 : decode cX12_calls 25 = .ok (.iconst 0, 1) := by decide +kernel
theorem dX12_calls_26 : decode cX12_calls 26 = .ok (.ireturn, 1) := by decide +kernel
theorem dX12_call_0 : decode cX12_call 0 = .ok (.aload_n 0, 1) := by decide +kernel
theorem dX12_call_1 : decode cX12_call 1 = .ok (.aload_n 0, 1) := by decide +kernel
theorem dX12_call_2 : decode cX12_call 2 = .ok (.iload_n 1, 1) := by decide +kernel
theorem dX12_call_3 : decode cX12_call 3 = .ok (.invokevirtual 345, 3) := by decide +kernel
theorem dX12_call_6 : decode cX12_call 6 = .ok (.iload_n 2, 1) := by decide +kernel
theorem dX12_call_7 : decode cX12_call 7 = .ok (.i2l, 1) := by decide +kernel
theorem dX12_call_8 : decode cX12_call 8 = .ok (.lconst 0, 1) := by decide +kernel
theorem dX12_call_9 : decode cX12_call 9 = .ok (.ldc2_w 348, 3) := by decide +kernel
theorem dX12_call_12 : decode cX12_call 12 = .ok (.invokestatic 47, 3) := by decide +kernel
theorem dX12_call_15 : decode cX12_call 15 = .ok (.invokevirtual 263, 3) := by decide +kernel
theorem dX12_call_18 : decode cX12_call 18 = .ok (.ifCond .ne 5, 3) := by decide +kernel
theorem dX12_call_21 : decode cX12_call 21 = .ok (.iconst 0, 1) := by decide +kernel
theorem dX12_call_22 : decode cX12_call 22 = .ok (.ireturn, 1) := by decide +kernel
theorem dX12_call_23 : decode cX12_call 23 = .ok (.iload_n 2, 1) := by decide +kernel
theorem dX12_call_24 : decode cX12_call 24 = .ok (.tableswitch 54 5 7 #[28, 34, 48], 28) := by decide +kernel
theorem dX12_call_52 : decode cX12_call 52 = .ok (.aload_n 0, 1) := by decide +kernel
theorem dX12_call_53 : decode cX12_call 53 = .ok (.iload_n 1, 1) := by decide +kernel
theorem dX12_call_54 : decode cX12_call 54 = .ok (.invokevirtual 323, 3) := by decide +kernel
theorem dX12_call_57 : decode cX12_call 57 = .ok (.ireturn, 1) := by decide +kernel
theorem dX12_call_58 : decode cX12_call 58 = .ok (.aload_n 0, 1) := by decide +kernel
theorem dX12_call_59 : decode cX12_call 59 = .ok (.aload_n 0, 1) := by decide +kernel
theorem dX12_call_60 : decode cX12_call 60 = .ok (.iload_n 1, 1) := by decide +kernel
theorem dX12_call_61 : decode cX12_call 61 = .ok (.invokevirtual 323, 3) := by decide +kernel
theorem dX12_call_64 : decode cX12_call 64 = .ok (.aload_n 0, 1) := by decide +kernel
theorem dX12_call_65 : decode cX12_call 65 = .ok (.invokevirtual 256, 3) := by decide +kernel
theorem dX12_call_68 : decode cX12_call 68 = .ok (.invokevirtual 320, 3) := by decide +kernel
theorem dX12_call_71 : decode cX12_call 71 = .ok (.ireturn, 1) := by decide +kernel
theorem dX12_call_72 : decode cX12_call 72 = .ok (.aload_n 0, 1) := by decide +kernel
theorem dX12_call_73 : decode cX12_call 73 = .ok (.iload_n 1, 1) := by decide +kernel
theorem dX12_call_74 : decode cX12_call 74 = .ok (.invokevirtual 350, 3) := by decide +kernel
theorem dX12_call_77 : decode cX12_call 77 = .ok (.ireturn, 1) := by decide +kernel
theorem dX12_call_78 : decode cX12_call 78 = .ok (.aload_n 0, 1) := by decide +kernel
theorem dX12_call_79 : decode cX12_call 79 = .ok (.iload_n 1, 1) := by decide +kernel
theorem dX12_call_80 : decode cX12_call 80 = .ok (.iload_n 2, 1) := by decide +kernel
theorem dX12_call_81 : decode cX12_call 81 = .ok (.invokevirtual 248, 3) := by decide +kernel
theorem dX12_call_84 : decode cX12_call 84 = .ok (.ireturn, 1) := by decide +kernel
theorem dX12_layDays_0 : decode cX12_layDays 0 = .ok (.aload_n 0, 1) := by decide +kernel
theorem dX12_layDays_1 : decode cX12_layDays 1 = .ok (.aload_n 0, 1) := by decide +kernel
theorem dX12_layDays_2 : decode cX12_layDays 2 = .ok (.iload_n 1, 1) := by decide +kernel
theorem dX12_layDays_3 : decode cX12_layDays 3 = .ok (.invokevirtual 345, 3) := by decide +kernel
theorem dX12_layDays_6 : decode cX12_layDays 6 = .ok (.invokevirtual 62, 3) := by decide +kernel
theorem dX12_layDays_9 : decode cX12_layDays 9 = .ok (.ifCond .eq 11, 3) := by decide +kernel
theorem dX12_layDays_12 : decode cX12_layDays 12 = .ok (.aload_n 0, 1) := by decide +kernel
theorem dX12_layDays_13 : decode cX12_layDays 13 = .ok (.iload_n 1, 1) := by decide +kernel
theorem dX12_layDays_14 : decode cX12_layDays 14 = .ok (.invokevirtual 311, 3) := by decide +kernel
theorem dX12_layDays_17 : decode cX12_layDays 17 = .ok (.goto 4, 3) := by decide +kernel
theorem dX12_layDays_20 : decode cX12_layDays 20 = .ok (.iconst 0, 1) := by decide +kernel
theorem dX12_layDays_21 : decode cX12_layDays 21 = .ok (.ireturn, 1) := by decide +kernel
theorem dX12_pending_0 : decode cX12_pending 0 = .ok (.aload_n 0, 1) := by decide +kernel
theorem dX12_pending_1 : decode cX12_pending 1 = .ok (.aload_n 0, 1) := by decide +kernel
theorem dX12_pending_2 : decode cX12_pending 2 = .ok (.iload_n 1, 1) := by decide +kernel
theorem dX12_pending_3 : decode cX12_pending 3 = .ok (.invokevirtual 345, 3) := by decide +kernel
theorem dX12_pending_6 : decode cX12_pending 6 = .ok (.invokevirtual 62, 3) := by decide +kernel
theorem dX12_pending_9 : decode cX12_pending 9 = .ok (.ifCond .eq 12, 3) := by decide +kernel
theorem dX12_pending_12 : decode cX12_pending 12 = .ok (.aload_n 0, 1) := by decide +kernel
theorem dX12_pending_13 : decode cX12_pending 13 = .ok (.iload_n 1, 1) := by decide +kernel
theorem dX12_pending_14 : decode cX12_pending 14 = .ok (.iconst 5, 1) := by decide +kernel
theorem dX12_pending_15 : decode cX12_pending 15 = .ok (.invokevirtual 248, 3) := by decide +kernel
theorem dX12_pending_18 : decode cX12_pending 18 = .ok (.goto 4, 3) := by decide +kernel
theorem dX12_pending_21 : decode cX12_pending 21 = .ok (.iconst 0, 1) := by decide +kernel
theorem dX12_pending_22 : decode cX12_pending 22 = .ok (.ireturn, 1) := by decide +kernel
theorem dX12_upheld_0 : decode cX12_upheld 0 = .ok (.aload_n 0, 1) := by decide +kernel
theorem dX12_upheld_1 : decode cX12_upheld 1 = .ok (.aload_n 0, 1) := by decide +kernel
theorem dX12_upheld_2 : decode cX12_upheld 2 = .ok (.iload_n 1, 1) := by decide +kernel
theorem dX12_upheld_3 : decode cX12_upheld 3 = .ok (.invokevirtual 345, 3) := by decide +kernel
theorem dX12_upheld_6 : decode cX12_upheld 6 = .ok (.invokevirtual 62, 3) := by decide +kernel
theorem dX12_upheld_9 : decode cX12_upheld 9 = .ok (.ifCond .eq 13, 3) := by decide +kernel
theorem dX12_upheld_12 : decode cX12_upheld 12 = .ok (.aload_n 0, 1) := by decide +kernel
theorem dX12_upheld_13 : decode cX12_upheld 13 = .ok (.iload_n 1, 1) := by decide +kernel
theorem dX12_upheld_14 : decode cX12_upheld 14 = .ok (.bipush 6, 2) := by decide +kernel
theorem dX12_upheld_16 : decode cX12_upheld 16 = .ok (.invokevirtual 248, 3) := by decide +kernel
theorem dX12_upheld_19 : decode cX12_upheld 19 = .ok (.goto 4, 3) := by decide +kernel
theorem dX12_upheld_22 : decode cX12_upheld 22 = .ok (.iconst 0, 1) := by decide +kernel
theorem dX12_upheld_23 : decode cX12_upheld 23 = .ok (.ireturn, 1) := by decide +kernel
theorem dX12_billedDays_0 : decode cX12_billedDays 0 = .ok (.aload_n 0, 1) := by decide +kernel
theorem dX12_billedDays_1 : decode cX12_billedDays 1 = .ok (.aload_n 0, 1) := by decide +kernel
theorem dX12_billedDays_2 : decode cX12_billedDays 2 = .ok (.iload_n 1, 1) := by decide +kernel
theorem dX12_billedDays_3 : decode cX12_billedDays 3 = .ok (.invokevirtual 345, 3) := by decide +kernel
theorem dX12_billedDays_6 : decode cX12_billedDays 6 = .ok (.invokevirtual 62, 3) := by decide +kernel
theorem dX12_billedDays_9 : decode cX12_billedDays 9 = .ok (.ifCond .eq 11, 3) := by decide +kernel
theorem dX12_billedDays_12 : decode cX12_billedDays 12 = .ok (.aload_n 0, 1) := by decide +kernel
theorem dX12_billedDays_13 : decode cX12_billedDays 13 = .ok (.iload_n 1, 1) := by decide +kernel
theorem dX12_billedDays_14 : decode cX12_billedDays 14 = .ok (.invokevirtual 314, 3) := by decide +kernel
theorem dX12_billedDays_17 : decode cX12_billedDays 17 = .ok (.goto 4, 3) := by decide +kernel
theorem dX12_billedDays_20 : decode cX12_billedDays 20 = .ok (.iconst 0, 1) := by decide +kernel
theorem dX12_billedDays_21 : decode cX12_billedDays 21 = .ok (.ireturn, 1) := by decide +kernel
theorem dX12_billable_0 : decode cX12_billable 0 = .ok (.aload_n 0, 1) := by decide +kernel
theorem dX12_billable_1 : decode cX12_billable 1 = .ok (.aload_n 0, 1) := by decide +kernel
theorem dX12_billable_2 : decode cX12_billable 2 = .ok (.iload_n 1, 1) := by decide +kernel
theorem dX12_billable_3 : decode cX12_billable 3 = .ok (.invokevirtual 345, 3) := by decide +kernel
theorem dX12_billable_6 : decode cX12_billable 6 = .ok (.invokevirtual 62, 3) := by decide +kernel
theorem dX12_billable_9 : decode cX12_billable 9 = .ok (.ifCond .eq 11, 3) := by decide +kernel
theorem dX12_billable_12 : decode cX12_billable 12 = .ok (.aload_n 0, 1) := by decide +kernel
theorem dX12_billable_13 : decode cX12_billable 13 = .ok (.iload_n 1, 1) := by decide +kernel
theorem dX12_billable_14 : decode cX12_billable 14 = .ok (.invokevirtual 353, 3) := by decide +kernel
theorem dX12_billable_17 : decode cX12_billable 17 = .ok (.goto 4, 3) := by decide +kernel
theorem dX12_billable_20 : decode cX12_billable 20 = .ok (.iconst 0, 1) := by decide +kernel
theorem dX12_billable_21 : decode cX12_billable 21 = .ok (.ireturn, 1) := by decide +kernel
theorem dX12_amount_0 : decode cX12_amount 0 = .ok (.aload_n 0, 1) := by decide +kernel
theorem dX12_amount_1 : decode cX12_amount 1 = .ok (.aload_n 0, 1) := by decide +kernel
theorem dX12_amount_2 : decode cX12_amount 2 = .ok (.iload_n 1, 1) := by decide +kernel
theorem dX12_amount_3 : decode cX12_amount 3 = .ok (.invokevirtual 345, 3) := by decide +kernel
theorem dX12_amount_6 : decode cX12_amount 6 = .ok (.iload_n 2, 1) := by decide +kernel
theorem dX12_amount_7 : decode cX12_amount 7 = .ok (.invokestatic 356, 3) := by decide +kernel
theorem dX12_amount_10 : decode cX12_amount 10 = .ok (.invokevirtual 263, 3) := by decide +kernel
theorem dX12_amount_13 : decode cX12_amount 13 = .ok (.ifCond .eq 12, 3) := by decide +kernel
theorem dX12_amount_16 : decode cX12_amount 16 = .ok (.aload_n 0, 1) := by decide +kernel
theorem dX12_amount_17 : decode cX12_amount 17 = .ok (.iload_n 1, 1) := by decide +kernel
theorem dX12_amount_18 : decode cX12_amount 18 = .ok (.iload_n 2, 1) := by decide +kernel
theorem dX12_amount_19 : decode cX12_amount 19 = .ok (.invokevirtual 336, 3) := by decide +kernel
theorem dX12_amount_22 : decode cX12_amount 22 = .ok (.goto 4, 3) := by decide +kernel
theorem dX12_amount_25 : decode cX12_amount 25 = .ok (.iconst 0, 1) := by decide +kernel
theorem dX12_amount_26 : decode cX12_amount 26 = .ok (.ireturn, 1) := by decide +kernel
theorem dX12_callTotal_0 : decode cX12_callTotal 0 = .ok (.aload_n 0, 1) := by decide +kernel
theorem dX12_callTotal_1 : decode cX12_callTotal 1 = .ok (.aload_n 0, 1) := by decide +kernel
theorem dX12_callTotal_2 : decode cX12_callTotal 2 = .ok (.iload_n 1, 1) := by decide +kernel
theorem dX12_callTotal_3 : decode cX12_callTotal 3 = .ok (.invokevirtual 345, 3) := by decide +kernel
theorem dX12_callTotal_6 : decode cX12_callTotal 6 = .ok (.invokevirtual 62, 3) := by decide +kernel
theorem dX12_callTotal_9 : decode cX12_callTotal 9 = .ok (.ifCond .eq 11, 3) := by decide +kernel
theorem dX12_callTotal_12 : decode cX12_callTotal 12 = .ok (.aload_n 0, 1) := by decide +kernel
theorem dX12_callTotal_13 : decode cX12_callTotal 13 = .ok (.iload_n 1, 1) := by decide +kernel
theorem dX12_callTotal_14 : decode cX12_callTotal 14 = .ok (.invokevirtual 359, 3) := by decide +kernel
theorem dX12_callTotal_17 : decode cX12_callTotal 17 = .ok (.goto 4, 3) := by decide +kernel
theorem dX12_callTotal_20 : decode cX12_callTotal 20 = .ok (.iconst 0, 1) := by decide +kernel
theorem dX12_callTotal_21 : decode cX12_callTotal 21 = .ok (.ireturn, 1) := by decide +kernel
theorem dX12_lineIn_0 : decode cX12_lineIn 0 = .ok (.aload_n 0, 1) := by decide +kernel
theorem dX12_lineIn_1 : decode cX12_lineIn 1 = .ok (.iload_n 1, 1) := by decide +kernel
theorem dX12_lineIn_2 : decode cX12_lineIn 2 = .ok (.bipush 6, 2) := by decide +kernel
theorem dX12_lineIn_4 : decode cX12_lineIn 4 = .ok (.iload_n 2, 1) := by decide +kernel
theorem dX12_lineIn_5 : decode cX12_lineIn 5 = .ok (.iadd, 1) := by decide +kernel
theorem dX12_lineIn_6 : decode cX12_lineIn 6 = .ok (.invokevirtual 305, 3) := by decide +kernel
theorem dX12_lineIn_9 : decode cX12_lineIn 9 = .ok (.ireturn, 1) := by decide +kernel
theorem dX12_shipOf_0 : decode cX12_shipOf 0 = .ok (.aload_n 0, 1) := by decide +kernel
theorem dX12_shipOf_1 : decode cX12_shipOf 1 = .ok (.aload_n 0, 1) := by decide +kernel
theorem dX12_shipOf_2 : decode cX12_shipOf 2 = .ok (.iload_n 1, 1) := by decide +kernel
theorem dX12_shipOf_3 : decode cX12_shipOf 3 = .ok (.iconst 0, 1) := by decide +kernel
theorem dX12_shipOf_4 : decode cX12_shipOf 4 = .ok (.invokevirtual 305, 3) := by decide +kernel
theorem dX12_shipOf_7 : decode cX12_shipOf 7 = .ok (.iconst 0, 1) := by decide +kernel
theorem dX12_shipOf_8 : decode cX12_shipOf 8 = .ok (.invokevirtual 248, 3) := by decide +kernel
theorem dX12_shipOf_11 : decode cX12_shipOf 11 = .ok (.ireturn, 1) := by decide +kernel
theorem dX12_livingLines_0 : decode cX12_livingLines 0 = .ok (.aload_n 0, 1) := by decide +kernel
theorem dX12_livingLines_1 : decode cX12_livingLines 1 = .ok (.iload_n 1, 1) := by decide +kernel
theorem dX12_livingLines_2 : decode cX12_livingLines 2 = .ok (.iconst 3, 1) := by decide +kernel
theorem dX12_livingLines_3 : decode cX12_livingLines 3 = .ok (.invokevirtual 305, 3) := by decide +kernel
theorem dX12_livingLines_6 : decode cX12_livingLines 6 = .ok (.aload_n 0, 1) := by decide +kernel
theorem dX12_livingLines_7 : decode cX12_livingLines 7 = .ok (.iload_n 1, 1) := by decide +kernel
theorem dX12_livingLines_8 : decode cX12_livingLines 8 = .ok (.iconst 4, 1) := by decide +kernel
theorem dX12_livingLines_9 : decode cX12_livingLines 9 = .ok (.invokevirtual 305, 3) := by decide +kernel
theorem dX12_livingLines_12 : decode cX12_livingLines 12 = .ok (.iconst (-1), 1) := by decide +kernel
theorem dX12_livingLines_13 : decode cX12_livingLines 13 = .ok (.ixor, 1) := by decide +kernel
theorem dX12_livingLines_14 : decode cX12_livingLines 14 = .ok (.iand, 1) := by decide +kernel
theorem dX12_livingLines_15 : decode cX12_livingLines 15 = .ok (.ireturn, 1) := by decide +kernel
theorem dX12_netOf_0 : decode cX12_netOf 0 = .ok (.iconst 0, 1) := by decide +kernel
theorem dX12_netOf_1 : decode cX12_netOf 1 = .ok (.istore_n 2, 1) := by decide +kernel
theorem dX12_netOf_2 : decode cX12_netOf 2 = .ok (.iconst 0, 1) := by decide +kernel
theorem dX12_netOf_3 : decode cX12_netOf 3 = .ok (.istore_n 3, 1) := by decide +kernel
theorem dX12_netOf_4 : decode cX12_netOf 4 = .ok (.iload_n 3, 1) := by decide +kernel
theorem dX12_netOf_5 : decode cX12_netOf 5 = .ok (.iconst 4, 1) := by decide +kernel
theorem dX12_netOf_6 : decode cX12_netOf 6 = .ok (.if_icmp .ge 34, 3) := by decide +kernel
theorem dX12_netOf_9 : decode cX12_netOf 9 = .ok (.iload_n 2, 1) := by decide +kernel
theorem dX12_netOf_10 : decode cX12_netOf 10 = .ok (.aload_n 0, 1) := by decide +kernel
theorem dX12_netOf_11 : decode cX12_netOf 11 = .ok (.iload_n 1, 1) := by decide +kernel
theorem dX12_netOf_12 : decode cX12_netOf 12 = .ok (.invokevirtual 362, 3) := by decide +kernel
theorem dX12_netOf_15 : decode cX12_netOf 15 = .ok (.iload_n 3, 1) := by decide +kernel
theorem dX12_netOf_16 : decode cX12_netOf 16 = .ok (.invokestatic 308, 3) := by decide +kernel
theorem dX12_netOf_19 : decode cX12_netOf 19 = .ok (.ifCond .eq 12, 3) := by decide +kernel
theorem dX12_netOf_22 : decode cX12_netOf 22 = .ok (.aload_n 0, 1) := by decide +kernel
theorem dX12_netOf_23 : decode cX12_netOf 23 = .ok (.iload_n 1, 1) := by decide +kernel
theorem dX12_netOf_24 : decode cX12_netOf 24 = .ok (.iload_n 3, 1) := by decide +kernel
theorem dX12_netOf_25 : decode cX12_netOf 25 = .ok (.invokevirtual 365, 3) := by decide +kernel
theorem dX12_netOf_28 : decode cX12_netOf 28 = .ok (.goto 4, 3) := by decide +kernel
theorem dX12_netOf_31 : decode cX12_netOf 31 = .ok (.iconst 0, 1) := by decide +kernel
theorem dX12_netOf_32 : decode cX12_netOf 32 = .ok (.iadd, 1) := by decide +kernel
theorem dX12_netOf_33 : decode cX12_netOf 33 = .ok (.istore_n 2, 1) := by decide +kernel
theorem dX12_netOf_34 : decode cX12_netOf 34 = .ok (.iinc 3 1, 3) := by decide +kernel
theorem dX12_netOf_37 : decode cX12_netOf 37 = .ok (.goto (-33), 3) := by decide +kernel
theorem dX12_netOf_40 : decode cX12_netOf 40 = .ok (.iload_n 2, 1) := by decide +kernel
theorem dX12_netOf_41 : decode cX12_netOf 41 = .ok (.ireturn, 1) := by decide +kernel
theorem dX12_openOf_0 : decode cX12_openOf 0 = .ok (.aload_n 0, 1) := by decide +kernel
theorem dX12_openOf_1 : decode cX12_openOf 1 = .ok (.iload_n 1, 1) := by decide +kernel
theorem dX12_openOf_2 : decode cX12_openOf 2 = .ok (.invokevirtual 368, 3) := by decide +kernel
theorem dX12_openOf_5 : decode cX12_openOf 5 = .ok (.istore_n 2, 1) := by decide +kernel
theorem dX12_openOf_6 : decode cX12_openOf 6 = .ok (.aload_n 0, 1) := by decide +kernel
theorem dX12_openOf_7 : decode cX12_openOf 7 = .ok (.getfield 27, 3) := by decide +kernel
theorem dX12_openOf_10 : decode cX12_openOf 10 = .ok (.iload_n 2, 1) := by decide +kernel
theorem dX12_openOf_11 : decode cX12_openOf 11 = .ok (.laload, 1) := by decide +kernel
theorem dX12_openOf_12 : decode cX12_openOf 12 = .ok (.lstore_n 3, 1) := by decide +kernel
theorem dX12_openOf_13 : decode cX12_openOf 13 = .ok (.iconst 0, 1) := by decide +kernel
theorem dX12_openOf_14 : decode cX12_openOf 14 = .ok (.istore 5, 2) := by decide +kernel
theorem dX12_openOf_16 : decode cX12_openOf 16 = .ok (.iload 5, 2) := by decide +kernel
theorem dX12_openOf_18 : decode cX12_openOf 18 = .ok (.aload_n 0, 1) := by decide +kernel
theorem dX12_openOf_19 : decode cX12_openOf 19 = .ok (.getfield 17, 3) := by decide +kernel
theorem dX12_openOf_22 : decode cX12_openOf 22 = .ok (.iconst 2, 1) := by decide +kernel
theorem dX12_openOf_23 : decode cX12_openOf 23 = .ok (.iaload, 1) := by decide +kernel
theorem dX12_openOf_24 : decode cX12_openOf 24 = .ok (.if_icmp .ge 38, 3) := by decide +kernel
theorem dX12_openOf_27 : decode cX12_openOf 27 = .ok (.lload_n 3, 1) := by decide +kernel
theorem dX12_openOf_28 : decode cX12_openOf 28 = .ok (.aload_n 0, 1) := by decide +kernel
theorem dX12_openOf_29 : decode cX12_openOf 29 = .ok (.iload 5, 2) := by decide +kernel
theorem dX12_openOf_31 : decode cX12_openOf 31 = .ok (.invokevirtual 368, 3) := by decide +kernel
theorem dX12_openOf_34 : decode cX12_openOf 34 = .ok (.iload_n 2, 1) := by decide +kernel
theorem dX12_openOf_35 : decode cX12_openOf 35 = .ok (.if_icmp .ne 18, 3) := by decide +kernel
theorem dX12_openOf_38 : decode cX12_openOf 38 = .ok (.iconst 0, 1) := by decide +kernel
theorem dX12_openOf_39 : decode cX12_openOf 39 = .ok (.aload_n 0, 1) := by decide +kernel
theorem dX12_openOf_40 : decode cX12_openOf 40 = .ok (.iload 5, 2) := by decide +kernel
theorem dX12_openOf_42 : decode cX12_openOf 42 = .ok (.invokevirtual 371, 3) := by decide +kernel
theorem dX12_openOf_45 : decode cX12_openOf 45 = .ok (.ineg, 1) := by decide +kernel
theorem dX12_openOf_46 : decode cX12_openOf 46 = .ok (.invokestatic 234, 3) := by decide +kernel
theorem dX12_openOf_49 : decode cX12_openOf 49 = .ok (.i2l, 1) := by decide +kernel
theorem dX12_openOf_50 : decode cX12_openOf 50 = .ok (.goto 4, 3) := by decide +kernel
theorem dX12_openOf_53 : decode cX12_openOf 53 = .ok (.lconst 0, 1) := by decide +kernel
theorem dX12_openOf_54 : decode cX12_openOf 54 = .ok (.ladd, 1) := by decide +kernel
theorem dX12_openOf_55 : decode cX12_openOf 55 = .ok (.lstore_n 3, 1) := by decide +kernel
theorem dX12_openOf_56 : decode cX12_openOf 56 = .ok (.iinc 5 1, 3) := by decide +kernel
theorem dX12_openOf_59 : decode cX12_openOf 59 = .ok (.goto (-43), 3) := by decide +kernel
theorem dX12_openOf_62 : decode cX12_openOf 62 = .ok (.iconst 0, 1) := by decide +kernel
theorem dX12_openOf_63 : decode cX12_openOf 63 = .ok (.istore 5, 2) := by decide +kernel
theorem dX12_openOf_65 : decode cX12_openOf 65 = .ok (.iload 5, 2) := by decide +kernel
theorem dX12_openOf_67 : decode cX12_openOf 67 = .ok (.iload_n 1, 1) := by decide +kernel
theorem dX12_openOf_68 : decode cX12_openOf 68 = .ok (.if_icmp .ge 41, 3) := by decide +kernel
theorem dX12_openOf_71 : decode cX12_openOf 71 = .ok (.lload_n 3, 1) := by decide +kernel
theorem dX12_openOf_72 : decode cX12_openOf 72 = .ok (.aload_n 0, 1) := by decide +kernel
theorem dX12_openOf_73 : decode cX12_openOf 73 = .ok (.iload 5, 2) := by decide +kernel
theorem dX12_openOf_75 : decode cX12_openOf 75 = .ok (.invokevirtual 368, 3) := by decide +kernel
theorem dX12_openOf_78 : decode cX12_openOf 78 = .ok (.iload_n 2, 1) := by decide +kernel
theorem dX12_openOf_79 : decode cX12_openOf 79 = .ok (.if_icmp .ne 21, 3) := by decide +kernel
theorem dX12_openOf_82 : decode cX12_openOf 82 = .ok (.lload_n 3, 1) := by decide +kernel
theorem dX12_openOf_83 : decode cX12_openOf 83 = .ok (.iconst 0, 1) := by decide +kernel
theorem dX12_openOf_84 : decode cX12_openOf 84 = .ok (.aload_n 0, 1) := by decide +kernel
theorem dX12_openOf_85 : decode cX12_openOf 85 = .ok (.iload 5, 2) := by decide +kernel
theorem dX12_openOf_87 : decode cX12_openOf 87 = .ok (.invokevirtual 371, 3) := by decide +kernel
theorem dX12_openOf_90 : decode cX12_openOf 90 = .ok (.invokestatic 234, 3) := by decide +kernel
theorem dX12_openOf_93 : decode cX12_openOf 93 = .ok (.i2l, 1) := by decide +kernel
theorem dX12_openOf_94 : decode cX12_openOf 94 = .ok (.invokestatic 374, 3) := by decide +kernel
theorem dX12_openOf_97 : decode cX12_openOf 97 = .ok (.goto 4, 3) := by decide +kernel
theorem dX12_openOf_100 : decode cX12_openOf 100 = .ok (.lconst 0, 1) := by decide +kernel
theorem dX12_openOf_101 : decode cX12_openOf 101 = .ok (.lsub, 1) := by decide +kernel
theorem dX12_openOf_102 : decode cX12_openOf 102 = .ok (.lstore_n 3, 1) := by decide +kernel
theorem dX12_openOf_103 : decode cX12_openOf 103 = .ok (.iinc 5 1, 3) := by decide +kernel
theorem dX12_openOf_106 : decode cX12_openOf 106 = .ok (.goto (-41), 3) := by decide +kernel
theorem dX12_openOf_109 : decode cX12_openOf 109 = .ok (.iconst 0, 1) := by decide +kernel
theorem dX12_openOf_110 : decode cX12_openOf 110 = .ok (.aload_n 0, 1) := by decide +kernel
theorem dX12_openOf_111 : decode cX12_openOf 111 = .ok (.iload_n 1, 1) := by decide +kernel
theorem dX12_openOf_112 : decode cX12_openOf 112 = .ok (.invokevirtual 371, 3) := by decide +kernel
theorem dX12_openOf_115 : decode cX12_openOf 115 = .ok (.invokestatic 234, 3) := by decide +kernel
theorem dX12_openOf_118 : decode cX12_openOf 118 = .ok (.istore 5, 2) := by decide +kernel
theorem dX12_openOf_120 : decode cX12_openOf 120 = .ok (.iload 5, 2) := by decide +kernel
theorem dX12_openOf_122 : decode cX12_openOf 122 = .ok (.i2l, 1) := by decide +kernel
theorem dX12_openOf_123 : decode cX12_openOf 123 = .ok (.lload_n 3, 1) := by decide +kernel
theorem dX12_openOf_124 : decode cX12_openOf 124 = .ok (.iload 5, 2) := by decide +kernel
theorem dX12_openOf_126 : decode cX12_openOf 126 = .ok (.i2l, 1) := by decide +kernel
theorem dX12_openOf_127 : decode cX12_openOf 127 = .ok (.invokestatic 374, 3) := by decide +kernel
theorem dX12_openOf_130 : decode cX12_openOf 130 = .ok (.lsub, 1) := by decide +kernel
theorem dX12_openOf_131 : decode cX12_openOf 131 = .ok (.l2i, 1) := by decide +kernel
theorem dX12_openOf_132 : decode cX12_openOf 132 = .ok (.ireturn, 1) := by decide +kernel
theorem dX12_rebuiltOf_0 : decode cX12_rebuiltOf 0 = .ok (.aload_n 0, 1) := by decide +kernel
theorem dX12_rebuiltOf_1 : decode cX12_rebuiltOf 1 = .ok (.iload_n 1, 1) := by decide +kernel
theorem dX12_rebuiltOf_2 : decode cX12_rebuiltOf 2 = .ok (.invokevirtual 362, 3) := by decide +kernel
theorem dX12_rebuiltOf_5 : decode cX12_rebuiltOf 5 = .ok (.iload_n 2, 1) := by decide +kernel
theorem dX12_rebuiltOf_6 : decode cX12_rebuiltOf 6 = .ok (.invokestatic 308, 3) := by decide +kernel
theorem dX12_rebuiltOf_9 : decode cX12_rebuiltOf 9 = .ok (.ifCond .ne 5, 3) := by decide +kernel
theorem dX12_rebuiltOf_12 : decode cX12_rebuiltOf 12 = .ok (.iconst 0, 1) := by decide +kernel
theorem dX12_rebuiltOf_13 : decode cX12_rebuiltOf 13 = .ok (.ireturn, 1) := by decide +kernel
theorem dX12_rebuiltOf_14 : decode cX12_rebuiltOf 14 = .ok (.aload_n 0, 1) := by decide +kernel
theorem dX12_rebuiltOf_15 : decode cX12_rebuiltOf 15 = .ok (.iload_n 1, 1) := by decide +kernel
theorem dX12_rebuiltOf_16 : decode cX12_rebuiltOf 16 = .ok (.iconst 0, 1) := by decide +kernel
theorem dX12_rebuiltOf_17 : decode cX12_rebuiltOf 17 = .ok (.invokevirtual 305, 3) := by decide +kernel
theorem dX12_rebuiltOf_20 : decode cX12_rebuiltOf 20 = .ok (.istore_n 3, 1) := by decide +kernel
theorem dX12_rebuiltOf_21 : decode cX12_rebuiltOf 21 = .ok (.aload_n 0, 1) := by decide +kernel
theorem dX12_rebuiltOf_22 : decode cX12_rebuiltOf 22 = .ok (.iload_n 1, 1) := by decide +kernel
theorem dX12_rebuiltOf_23 : decode cX12_rebuiltOf 23 = .ok (.iconst 2, 1) := by decide +kernel
theorem dX12_rebuiltOf_24 : decode cX12_rebuiltOf 24 = .ok (.invokevirtual 305, 3) := by decide +kernel
theorem dX12_rebuiltOf_27 : decode cX12_rebuiltOf 27 = .ok (.istore 4, 2) := by decide +kernel
theorem dX12_rebuiltOf_29 : decode cX12_rebuiltOf 29 = .ok (.iload_n 2, 1) := by decide +kernel
theorem dX12_rebuiltOf_30 : decode cX12_rebuiltOf 30 = .ok (.iconst 3, 1) := by decide +kernel
theorem dX12_rebuiltOf_31 : decode cX12_rebuiltOf 31 = .ok (.if_icmp .ne 26, 3) := by decide +kernel
theorem dX12_rebuiltOf_34 : decode cX12_rebuiltOf 34 = .ok (.aload_n 0, 1) := by decide +kernel
theorem dX12_rebuiltOf_35 : decode cX12_rebuiltOf 35 = .ok (.aload_n 0, 1) := by decide +kernel
theorem dX12_rebuiltOf_36 : decode cX12_rebuiltOf 36 = .ok (.iload_n 1, 1) := by decide +kernel
theorem dX12_rebuiltOf_37 : decode cX12_rebuiltOf 37 = .ok (.iconst 5, 1) := by decide +kernel
theorem dX12_rebuiltOf_38 : decode cX12_rebuiltOf 38 = .ok (.invokevirtual 305, 3) := by decide +kernel
theorem dX12_rebuiltOf_41 : decode cX12_rebuiltOf 41 = .ok (.aload_n 0, 1) := by decide +kernel
theorem dX12_rebuiltOf_42 : decode cX12_rebuiltOf 42 = .ok (.iload_n 3, 1) := by decide +kernel
theorem dX12_rebuiltOf_43 : decode cX12_rebuiltOf 43 = .ok (.invokevirtual 317, 3) := by decide +kernel
theorem dX12_rebuiltOf_46 : decode cX12_rebuiltOf 46 = .ok (.iconst (-1), 1) := by decide +kernel
theorem dX12_rebuiltOf_47 : decode cX12_rebuiltOf 47 = .ok (.ixor, 1) := by decide +kernel
theorem dX12_rebuiltOf_48 : decode cX12_rebuiltOf 48 = .ok (.iand, 1) := by decide +kernel
theorem dX12_rebuiltOf_49 : decode cX12_rebuiltOf 49 = .ok (.iload 4, 2) := by decide +kernel
theorem dX12_rebuiltOf_51 : decode cX12_rebuiltOf 51 = .ok (.invokevirtual 330, 3) := by decide +kernel
theorem dX12_rebuiltOf_54 : decode cX12_rebuiltOf 54 = .ok (.goto 11, 3) := by decide +kernel
theorem dX12_rebuiltOf_57 : decode cX12_rebuiltOf 57 = .ok (.aload_n 0, 1) := by decide +kernel
theorem dX12_rebuiltOf_58 : decode cX12_rebuiltOf 58 = .ok (.iload_n 3, 1) := by decide +kernel
theorem dX12_rebuiltOf_59 : decode cX12_rebuiltOf 59 = .ok (.iload_n 2, 1) := by decide +kernel
theorem dX12_rebuiltOf_60 : decode cX12_rebuiltOf 60 = .ok (.iload 4, 2) := by decide +kernel
theorem dX12_rebuiltOf_62 : decode cX12_rebuiltOf 62 = .ok (.invokevirtual 333, 3) := by decide +kernel
theorem dX12_rebuiltOf_65 : decode cX12_rebuiltOf 65 = .ok (.ireturn, 1) := by decide +kernel
theorem dX12_isOld_0 : decode cX12_isOld 0 = .ok (.iconst 0, 1) := by decide +kernel
theorem dX12_isOld_1 : decode cX12_isOld 1 = .ok (.istore_n 2, 1) := by decide +kernel
theorem dX12_isOld_2 : decode cX12_isOld 2 = .ok (.iconst 0, 1) := by decide +kernel
theorem dX12_isOld_3 : decode cX12_isOld 3 = .ok (.istore_n 3, 1) := by decide +kernel
theorem dX12_isOld_4 : decode cX12_isOld 4 = .ok (.iload_n 3, 1) := by decide +kernel
theorem dX12_isOld_5 : decode cX12_isOld 5 = .ok (.iconst 4, 1) := by decide +kernel
theorem dX12_isOld_6 : decode cX12_isOld 6 = .ok (.if_icmp .ge 46, 3) := by decide +kernel
theorem dX12_isOld_9 : decode cX12_isOld 9 = .ok (.iload_n 2, 1) := by decide +kernel
theorem dX12_isOld_10 : decode cX12_isOld 10 = .ok (.ifCond .ne 30, 3) := by decide +kernel
theorem dX12_isOld_13 : decode cX12_isOld 13 = .ok (.aload_n 0, 1) := by decide +kernel
theorem dX12_isOld_14 : decode cX12_isOld 14 = .ok (.iload_n 1, 1) := by decide +kernel
theorem dX12_isOld_15 : decode cX12_isOld 15 = .ok (.invokevirtual 362, 3) := by decide +kernel
theorem dX12_isOld_18 : decode cX12_isOld 18 = .ok (.iload_n 3, 1) := by decide +kernel
theorem dX12_isOld_19 : decode cX12_isOld 19 = .ok (.invokestatic 308, 3) := by decide +kernel
theorem dX12_isOld_22 : decode cX12_isOld 22 = .ok (.ifCond .eq 22, 3) := by decide +kernel
theorem dX12_isOld_25 : decode cX12_isOld 25 = .ok (.aload_n 0, 1) := by decide +kernel
theorem dX12_isOld_26 : decode cX12_isOld 26 = .ok (.iload_n 1, 1) := by decide +kernel
theorem dX12_isOld_27 : decode cX12_isOld 27 = .ok (.iload_n 3, 1) := by decide +kernel
theorem dX12_isOld_28 : decode cX12_isOld 28 = .ok (.invokevirtual 365, 3) := by decide +kernel
theorem dX12_isOld_31 : decode cX12_isOld 31 = .ok (.aload_n 0, 1) := by decide +kernel
theorem dX12_isOld_32 : decode cX12_isOld 32 = .ok (.iload_n 1, 1) := by decide +kernel
theorem dX12_isOld_33 : decode cX12_isOld 33 = .ok (.iload_n 3, 1) := by decide +kernel
theorem dX12_isOld_34 : decode cX12_isOld 34 = .ok (.invokevirtual 377, 3) := by decide +kernel
theorem dX12_isOld_37 : decode cX12_isOld 37 = .ok (.if_icmp .eq 7, 3) := by decide +kernel
theorem dX12_isOld_40 : decode cX12_isOld 40 = .ok (.iconst 1, 1) := by decide +kernel
theorem dX12_isOld_41 : decode cX12_isOld 41 = .ok (.goto 4, 3) := by decide +kernel
theorem dX12_isOld_44 : decode cX12_isOld 44 = .ok (.iconst 0, 1) := by decide +kernel
theorem dX12_isOld_45 : decode cX12_isOld 45 = .ok (.istore_n 2, 1) := by decide +kernel
theorem dX12_isOld_46 : decode cX12_isOld 46 = .ok (.iinc 3 1, 3) := by decide +kernel
theorem dX12_isOld_49 : decode cX12_isOld 49 = .ok (.goto (-45), 3) := by decide +kernel
theorem dX12_isOld_52 : decode cX12_isOld 52 = .ok (.iload_n 2, 1) := by decide +kernel
theorem dX12_isOld_53 : decode cX12_isOld 53 = .ok (.ireturn, 1) := by decide +kernel
theorem dX12_invoice_0 : decode cX12_invoice 0 = .ok (.aload_n 0, 1) := by decide +kernel
theorem dX12_invoice_1 : decode cX12_invoice 1 = .ok (.aload_n 0, 1) := by decide +kernel
theorem dX12_invoice_2 : decode cX12_invoice 2 = .ok (.iload_n 1, 1) := by decide +kernel
theorem dX12_invoice_3 : decode cX12_invoice 3 = .ok (.invokevirtual 380, 3) := by decide +kernel
theorem dX12_invoice_6 : decode cX12_invoice 6 = .ok (.iload_n 2, 1) := by decide +kernel
theorem dX12_invoice_7 : decode cX12_invoice 7 = .ok (.i2l, 1) := by decide +kernel
theorem dX12_invoice_8 : decode cX12_invoice 8 = .ok (.lconst 0, 1) := by decide +kernel
theorem dX12_invoice_9 : decode cX12_invoice 9 = .ok (.ldc2_w 254, 3) := by decide +kernel
theorem dX12_invoice_12 : decode cX12_invoice 12 = .ok (.invokestatic 47, 3) := by decide +kernel
theorem dX12_invoice_15 : decode cX12_invoice 15 = .ok (.invokevirtual 263, 3) := by decide +kernel
theorem dX12_invoice_18 : decode cX12_invoice 18 = .ok (.ifCond .eq 12, 3) := by decide +kernel
theorem dX12_invoice_21 : decode cX12_invoice 21 = .ok (.aload_n 0, 1) := by decide +kernel
theorem dX12_invoice_22 : decode cX12_invoice 22 = .ok (.iload_n 1, 1) := by decide +kernel
theorem dX12_invoice_23 : decode cX12_invoice 23 = .ok (.iload_n 2, 1) := by decide +kernel
theorem dX12_invoice_24 : decode cX12_invoice 24 = .ok (.invokevirtual 305, 3) := by decide +kernel
theorem dX12_invoice_27 : decode cX12_invoice 27 = .ok (.goto 4, 3) := by decide +kernel
theorem dX12_invoice_30 : decode cX12_invoice 30 = .ok (.iconst 0, 1) := by decide +kernel
theorem dX12_invoice_31 : decode cX12_invoice 31 = .ok (.ireturn, 1) := by decide +kernel
theorem dX12_line_0 : decode cX12_line 0 = .ok (.aload_n 0, 1) := by decide +kernel
theorem dX12_line_1 : decode cX12_line 1 = .ok (.aload_n 0, 1) := by decide +kernel
theorem dX12_line_2 : decode cX12_line 2 = .ok (.iload_n 1, 1) := by decide +kernel
theorem dX12_line_3 : decode cX12_line 3 = .ok (.invokevirtual 380, 3) := by decide +kernel
theorem dX12_line_6 : decode cX12_line 6 = .ok (.iload_n 2, 1) := by decide +kernel
theorem dX12_line_7 : decode cX12_line 7 = .ok (.invokestatic 356, 3) := by decide +kernel
theorem dX12_line_10 : decode cX12_line 10 = .ok (.invokevirtual 263, 3) := by decide +kernel
theorem dX12_line_13 : decode cX12_line 13 = .ok (.ifCond .eq 12, 3) := by decide +kernel
theorem dX12_line_16 : decode cX12_line 16 = .ok (.aload_n 0, 1) := by decide +kernel
theorem dX12_line_17 : decode cX12_line 17 = .ok (.iload_n 1, 1) := by decide +kernel
theorem dX12_line_18 : decode cX12_line 18 = .ok (.iload_n 2, 1) := by decide +kernel
theorem dX12_line_19 : decode cX12_line 19 = .ok (.invokevirtual 365, 3) := by decide +kernel
theorem dX12_line_22 : decode cX12_line 22 = .ok (.goto 4, 3) := by decide +kernel
theorem dX12_line_25 : decode cX12_line 25 = .ok (.iconst 0, 1) := by decide +kernel
theorem dX12_line_26 : decode cX12_line 26 = .ok (.ireturn, 1) := by decide +kernel
theorem dX12_net_0 : decode cX12_net 0 = .ok (.aload_n 0, 1) := by decide +kernel
theorem dX12_net_1 : decode cX12_net 1 = .ok (.aload_n 0, 1) := by decide +kernel
theorem dX12_net_2 : decode cX12_net 2 = .ok (.iload_n 1, 1) := by decide +kernel
theorem dX12_net_3 : decode cX12_net 3 = .ok (.invokevirtual 380, 3) := by decide +kernel
theorem dX12_net_6 : decode cX12_net 6 = .ok (.invokevirtual 62, 3) := by decide +kernel
theorem dX12_net_9 : decode cX12_net 9 = .ok (.ifCond .eq 11, 3) := by decide +kernel
theorem dX12_net_12 : decode cX12_net 12 = .ok (.aload_n 0, 1) := by decide +kernel
theorem dX12_net_13 : decode cX12_net 13 = .ok (.iload_n 1, 1) := by decide +kernel
theorem dX12_net_14 : decode cX12_net 14 = .ok (.invokevirtual 371, 3) := by decide +kernel
theorem dX12_net_17 : decode cX12_net 17 = .ok (.goto 4, 3) := by decide +kernel
theorem dX12_net_20 : decode cX12_net 20 = .ok (.iconst 0, 1) := by decide +kernel
theorem dX12_net_21 : decode cX12_net 21 = .ok (.ireturn, 1) := by decide +kernel
theorem dX12_open_0 : decode cX12_open 0 = .ok (.aload_n 0, 1) := by decide +kernel
theorem dX12_open_1 : decode cX12_open 1 = .ok (.aload_n 0, 1) := by decide +kernel
theorem dX12_open_2 : decode cX12_open 2 = .ok (.iload_n 1, 1) := by decide +kernel
theorem dX12_open_3 : decode cX12_open 3 = .ok (.invokevirtual 380, 3) := by decide +kernel
theorem dX12_open_6 : decode cX12_open 6 = .ok (.invokevirtual 62, 3) := by decide +kernel
theorem dX12_open_9 : decode cX12_open 9 = .ok (.ifCond .eq 11, 3) := by decide +kernel
theorem dX12_open_12 : decode cX12_open 12 = .ok (.aload_n 0, 1) := by decide +kernel
theorem dX12_open_13 : decode cX12_open 13 = .ok (.iload_n 1, 1) := by decide +kernel
theorem dX12_open_14 : decode cX12_open 14 = .ok (.invokevirtual 383, 3) := by decide +kernel
theorem dX12_open_17 : decode cX12_open 17 = .ok (.goto 4, 3) := by decide +kernel
theorem dX12_open_20 : decode cX12_open 20 = .ok (.iconst 0, 1) := by decide +kernel
theorem dX12_open_21 : decode cX12_open 21 = .ok (.ireturn, 1) := by decide +kernel
theorem dX12_rebuilt_0 : decode cX12_rebuilt 0 = .ok (.aload_n 0, 1) := by decide +kernel
theorem dX12_rebuilt_1 : decode cX12_rebuilt 1 = .ok (.aload_n 0, 1) := by decide +kernel
theorem dX12_rebuilt_2 : decode cX12_rebuilt 2 = .ok (.iload_n 1, 1) := by decide +kernel
theorem dX12_rebuilt_3 : decode cX12_rebuilt 3 = .ok (.invokevirtual 380, 3) := by decide +kernel
theorem dX12_rebuilt_6 : decode cX12_rebuilt 6 = .ok (.iload_n 2, 1) := by decide +kernel
theorem dX12_rebuilt_7 : decode cX12_rebuilt 7 = .ok (.invokestatic 356, 3) := by decide +kernel
theorem dX12_rebuilt_10 : decode cX12_rebuilt 10 = .ok (.invokevirtual 263, 3) := by decide +kernel
theorem dX12_rebuilt_13 : decode cX12_rebuilt 13 = .ok (.ifCond .eq 12, 3) := by decide +kernel
theorem dX12_rebuilt_16 : decode cX12_rebuilt 16 = .ok (.aload_n 0, 1) := by decide +kernel
theorem dX12_rebuilt_17 : decode cX12_rebuilt 17 = .ok (.iload_n 1, 1) := by decide +kernel
theorem dX12_rebuilt_18 : decode cX12_rebuilt 18 = .ok (.iload_n 2, 1) := by decide +kernel
theorem dX12_rebuilt_19 : decode cX12_rebuilt 19 = .ok (.invokevirtual 377, 3) := by decide +kernel
theorem dX12_rebuilt_22 : decode cX12_rebuilt 22 = .ok (.goto 4, 3) := by decide +kernel
theorem dX12_rebuilt_25 : decode cX12_rebuilt 25 = .ok (.iconst 0, 1) := by decide +kernel
theorem dX12_rebuilt_26 : decode cX12_rebuilt 26 = .ok (.ireturn, 1) := by decide +kernel
theorem dX12_isStale_0 : decode cX12_isStale 0 = .ok (.aload_n 0, 1) := by decide +kernel
theorem dX12_isStale_1 : decode cX12_isStale 1 = .ok (.aload_n 0, 1) := by decide +kernel
theorem dX12_isStale_2 : decode cX12_isStale 2 = .ok (.iload_n 1, 1) := by decide +kernel
theorem dX12_isStale_3 : decode cX12_isStale 3 = .ok (.invokevirtual 380, 3) := by decide +kernel
theorem dX12_isStale_6 : decode cX12_isStale 6 = .ok (.invokevirtual 62, 3) := by decide +kernel
theorem dX12_isStale_9 : decode cX12_isStale 9 = .ok (.ifCond .eq 15, 3) := by decide +kernel
theorem dX12_isStale_12 : decode cX12_isStale 12 = .ok (.aload_n 0, 1) := by decide +kernel
theorem dX12_isStale_13 : decode cX12_isStale 13 = .ok (.iload_n 1, 1) := by decide +kernel
theorem dX12_isStale_14 : decode cX12_isStale 14 = .ok (.invokevirtual 386, 3) := by decide +kernel
theorem dX12_isStale_17 : decode cX12_isStale 17 = .ok (.ifCond .eq 7, 3) := by decide +kernel
theorem dX12_isStale_20 : decode cX12_isStale 20 = .ok (.iconst 1, 1) := by decide +kernel
theorem dX12_isStale_21 : decode cX12_isStale 21 = .ok (.goto 4, 3) := by decide +kernel
theorem dX12_isStale_24 : decode cX12_isStale 24 = .ok (.iconst 0, 1) := by decide +kernel
theorem dX12_isStale_25 : decode cX12_isStale 25 = .ok (.ireturn, 1) := by decide +kernel
theorem dX12_staleCount_0 : decode cX12_staleCount 0 = .ok (.aload_n 0, 1) := by decide +kernel
theorem dX12_staleCount_1 : decode cX12_staleCount 1 = .ok (.iconst 0, 1) := by decide +kernel
theorem dX12_staleCount_2 : decode cX12_staleCount 2 = .ok (.putfield 3, 3) := by decide +kernel
theorem dX12_staleCount_5 : decode cX12_staleCount 5 = .ok (.iconst 0, 1) := by decide +kernel
theorem dX12_staleCount_6 : decode cX12_staleCount 6 = .ok (.istore_n 1, 1) := by decide +kernel
theorem dX12_staleCount_7 : decode cX12_staleCount 7 = .ok (.iconst 0, 1) := by decide +kernel
theorem dX12_staleCount_8 : decode cX12_staleCount 8 = .ok (.istore_n 2, 1) := by decide +kernel
theorem dX12_staleCount_9 : decode cX12_staleCount 9 = .ok (.iload_n 2, 1) := by decide +kernel
theorem dX12_staleCount_10 : decode cX12_staleCount 10 = .ok (.aload_n 0, 1) := by decide +kernel
theorem dX12_staleCount_11 : decode cX12_staleCount 11 = .ok (.getfield 17, 3) := by decide +kernel
theorem dX12_staleCount_14 : decode cX12_staleCount 14 = .ok (.iconst 2, 1) := by decide +kernel
theorem dX12_staleCount_15 : decode cX12_staleCount 15 = .ok (.iaload, 1) := by decide +kernel
theorem dX12_staleCount_16 : decode cX12_staleCount 16 = .ok (.if_icmp .ge 25, 3) := by decide +kernel
theorem dX12_staleCount_19 : decode cX12_staleCount 19 = .ok (.iload_n 1, 1) := by decide +kernel
theorem dX12_staleCount_20 : decode cX12_staleCount 20 = .ok (.aload_n 0, 1) := by decide +kernel
theorem dX12_staleCount_21 : decode cX12_staleCount 21 = .ok (.iload_n 2, 1) := by decide +kernel
theorem dX12_staleCount_22 : decode cX12_staleCount 22 = .ok (.invokevirtual 386, 3) := by decide +kernel
theorem dX12_staleCount_25 : decode cX12_staleCount 25 = .ok (.ifCond .eq 7, 3) := by decide +kernel
theorem dX12_staleCount_28 : decode cX12_staleCount 28 = .ok (.iconst 1, 1) := by decide +kernel
theorem dX12_staleCount_29 : decode cX12_staleCount 29 = .ok (.goto 4, 3) := by decide +kernel
theorem dX12_staleCount_32 : decode cX12_staleCount 32 = .ok (.iconst 0, 1) := by decide +kernel
theorem dX12_staleCount_33 : decode cX12_staleCount 33 = .ok (.iadd, 1) := by decide +kernel
theorem dX12_staleCount_34 : decode cX12_staleCount 34 = .ok (.istore_n 1, 1) := by decide +kernel
theorem dX12_staleCount_35 : decode cX12_staleCount 35 = .ok (.iinc 2 1, 3) := by decide +kernel
theorem dX12_staleCount_38 : decode cX12_staleCount 38 = .ok (.goto (-29), 3) := by decide +kernel
theorem dX12_staleCount_41 : decode cX12_staleCount 41 = .ok (.iload_n 1, 1) := by decide +kernel
theorem dX12_staleCount_42 : decode cX12_staleCount 42 = .ok (.ireturn, 1) := by decide +kernel
theorem dX12_contested_0 : decode cX12_contested 0 = .ok (.aload_n 0, 1) := by decide +kernel
theorem dX12_contested_1 : decode cX12_contested 1 = .ok (.aload_n 0, 1) := by decide +kernel
theorem dX12_contested_2 : decode cX12_contested 2 = .ok (.iload_n 1, 1) := by decide +kernel
theorem dX12_contested_3 : decode cX12_contested 3 = .ok (.invokevirtual 380, 3) := by decide +kernel
theorem dX12_contested_6 : decode cX12_contested 6 = .ok (.invokevirtual 62, 3) := by decide +kernel
theorem dX12_contested_9 : decode cX12_contested 9 = .ok (.ifCond .ne 5, 3) := by decide +kernel
theorem dX12_contested_12 : decode cX12_contested 12 = .ok (.iconst 0, 1) := by decide +kernel
theorem dX12_contested_13 : decode cX12_contested 13 = .ok (.ireturn, 1) := by decide +kernel
theorem dX12_contested_14 : decode cX12_contested 14 = .ok (.aload_n 0, 1) := by decide +kernel
theorem dX12_contested_15 : decode cX12_contested 15 = .ok (.iload_n 1, 1) := by decide +kernel
theorem dX12_contested_16 : decode cX12_contested 16 = .ok (.invokevirtual 362, 3) := by decide +kernel
theorem dX12_contested_19 : decode cX12_contested 19 = .ok (.iconst 3, 1) := by decide +kernel
theorem dX12_contested_20 : decode cX12_contested 20 = .ok (.invokestatic 308, 3) := by decide +kernel
theorem dX12_contested_23 : decode cX12_contested 23 = .ok (.ifCond .eq 26, 3) := by decide +kernel
theorem dX12_contested_26 : decode cX12_contested 26 = .ok (.aload_n 0, 1) := by decide +kernel
theorem dX12_contested_27 : decode cX12_contested 27 = .ok (.iload_n 1, 1) := by decide +kernel
theorem dX12_contested_28 : decode cX12_contested 28 = .ok (.iconst 5, 1) := by decide +kernel
theorem dX12_contested_29 : decode cX12_contested 29 = .ok (.invokevirtual 305, 3) := by decide +kernel
theorem dX12_contested_32 : decode cX12_contested 32 = .ok (.aload_n 0, 1) := by decide +kernel
theorem dX12_contested_33 : decode cX12_contested 33 = .ok (.aload_n 0, 1) := by decide +kernel
theorem dX12_contested_34 : decode cX12_contested 34 = .ok (.iload_n 1, 1) := by decide +kernel
theorem dX12_contested_35 : decode cX12_contested 35 = .ok (.iconst 0, 1) := by decide +kernel
theorem dX12_contested_36 : decode cX12_contested 36 = .ok (.invokevirtual 305, 3) := by decide +kernel
theorem dX12_contested_39 : decode cX12_contested 39 = .ok (.invokevirtual 317, 3) := by decide +kernel
theorem dX12_contested_42 : decode cX12_contested 42 = .ok (.iand, 1) := by decide +kernel
theorem dX12_contested_43 : decode cX12_contested 43 = .ok (.invokestatic 251, 3) := by decide +kernel
theorem dX12_contested_46 : decode cX12_contested 46 = .ok (.goto 4, 3) := by decide +kernel
theorem dX12_contested_49 : decode cX12_contested 49 = .ok (.iconst 0, 1) := by decide +kernel
theorem dX12_contested_50 : decode cX12_contested 50 = .ok (.ireturn, 1) := by decide +kernel
theorem dX12_note_0 : decode cX12_note 0 = .ok (.aload_n 0, 1) := by decide +kernel
theorem dX12_note_1 : decode cX12_note 1 = .ok (.iload_n 1, 1) := by decide +kernel
theorem dX12_note_2 : decode cX12_note 2 = .ok (.i2l, 1) := by decide +kernel
theorem dX12_note_3 : decode cX12_note 3 = .ok (.lconst 0, 1) := by decide +kernel
theorem dX12_note_4 : decode cX12_note 4 = .ok (.aload_n 0, 1) := by decide +kernel
theorem dX12_note_5 : decode cX12_note 5 = .ok (.getfield 17, 3) := by decide +kernel
theorem dX12_note_8 : decode cX12_note 8 = .ok (.iconst 3, 1) := by decide +kernel
theorem dX12_note_9 : decode cX12_note 9 = .ok (.iaload, 1) := by decide +kernel
theorem dX12_note_10 : decode cX12_note 10 = .ok (.iconst 1, 1) := by decide +kernel
theorem dX12_note_11 : decode cX12_note 11 = .ok (.isub, 1) := by decide +kernel
theorem dX12_note_12 : decode cX12_note 12 = .ok (.i2l, 1) := by decide +kernel
theorem dX12_note_13 : decode cX12_note 13 = .ok (.invokestatic 47, 3) := by decide +kernel
theorem dX12_note_16 : decode cX12_note 16 = .ok (.iload_n 2, 1) := by decide +kernel
theorem dX12_note_17 : decode cX12_note 17 = .ok (.i2l, 1) := by decide +kernel
theorem dX12_note_18 : decode cX12_note 18 = .ok (.lconst 0, 1) := by decide +kernel
theorem dX12_note_19 : decode cX12_note 19 = .ok (.ldc2_w 57, 3) := by decide +kernel
theorem dX12_note_22 : decode cX12_note 22 = .ok (.invokestatic 47, 3) := by decide +kernel
theorem dX12_note_25 : decode cX12_note 25 = .ok (.invokevirtual 263, 3) := by decide +kernel
theorem dX12_note_28 : decode cX12_note 28 = .ok (.ifCond .eq 20, 3) := by decide +kernel
theorem dX12_note_31 : decode cX12_note 31 = .ok (.aload_n 0, 1) := by decide +kernel
theorem dX12_note_32 : decode cX12_note 32 = .ok (.getfield 17, 3) := by decide +kernel
theorem dX12_note_35 : decode cX12_note 35 = .ok (.sipush 1217, 3) := by decide +kernel
theorem dX12_note_38 : decode cX12_note 38 = .ok (.iconst 4, 1) := by decide +kernel
theorem dX12_note_39 : decode cX12_note 39 = .ok (.iload_n 1, 1) := by decide +kernel
theorem dX12_note_40 : decode cX12_note 40 = .ok (.imul, 1) := by decide +kernel
theorem dX12_note_41 : decode cX12_note 41 = .ok (.iadd, 1) := by decide +kernel
theorem dX12_note_42 : decode cX12_note 42 = .ok (.iload_n 2, 1) := by decide +kernel
theorem dX12_note_43 : decode cX12_note 43 = .ok (.iadd, 1) := by decide +kernel
theorem dX12_note_44 : decode cX12_note 44 = .ok (.iaload, 1) := by decide +kernel
theorem dX12_note_45 : decode cX12_note 45 = .ok (.goto 4, 3) := by decide +kernel
theorem dX12_note_48 : decode cX12_note 48 = .ok (.iconst 0, 1) := by decide +kernel
theorem dX12_note_49 : decode cX12_note 49 = .ok (.ireturn, 1) := by decide +kernel
theorem dX12_balanceOf_0 : decode cX12_balanceOf 0 = .ok (.aload_n 0, 1) := by decide +kernel
theorem dX12_balanceOf_1 : decode cX12_balanceOf 1 = .ok (.getfield 27, 3) := by decide +kernel
theorem dX12_balanceOf_4 : decode cX12_balanceOf 4 = .ok (.iload_n 1, 1) := by decide +kernel
theorem dX12_balanceOf_5 : decode cX12_balanceOf 5 = .ok (.laload, 1) := by decide +kernel
theorem dX12_balanceOf_6 : decode cX12_balanceOf 6 = .ok (.lneg, 1) := by decide +kernel
theorem dX12_balanceOf_7 : decode cX12_balanceOf 7 = .ok (.lstore_n 2, 1) := by decide +kernel
theorem dX12_balanceOf_8 : decode cX12_balanceOf 8 = .ok (.iconst 0, 1) := by decide +kernel
theorem dX12_balanceOf_9 : decode cX12_balanceOf 9 = .ok (.istore 4, 2) := by decide +kernel
theorem dX12_balanceOf_11 : decode cX12_balanceOf 11 = .ok (.iload 4, 2) := by decide +kernel
theorem dX12_balanceOf_13 : decode cX12_balanceOf 13 = .ok (.aload_n 0, 1) := by decide +kernel
theorem dX12_balanceOf_14 : decode cX12_balanceOf 14 = .ok (.getfield 17, 3) := by decide +kernel
theorem dX12_balanceOf_17 : decode cX12_balanceOf 17 = .ok (.iconst 2, 1) := by decide +kernel
theorem dX12_balanceOf_18 : decode cX12_balanceOf 18 = .ok (.iaload, 1) := by decide +kernel
theorem dX12_balanceOf_19 : decode cX12_balanceOf 19 = .ok (.if_icmp .ge 33, 3) := by decide +kernel
theorem dX12_balanceOf_22 : decode cX12_balanceOf 22 = .ok (.lload_n 2, 1) := by decide +kernel
theorem dX12_balanceOf_23 : decode cX12_balanceOf 23 = .ok (.aload_n 0, 1) := by decide +kernel
theorem dX12_balanceOf_24 : decode cX12_balanceOf 24 = .ok (.iload 4, 2) := by decide +kernel
theorem dX12_balanceOf_26 : decode cX12_balanceOf 26 = .ok (.invokevirtual 368, 3) := by decide +kernel
theorem dX12_balanceOf_29 : decode cX12_balanceOf 29 = .ok (.iload_n 1, 1) := by decide +kernel
theorem dX12_balanceOf_30 : decode cX12_balanceOf 30 = .ok (.if_icmp .ne 13, 3) := by decide +kernel
theorem dX12_balanceOf_33 : decode cX12_balanceOf 33 = .ok (.aload_n 0, 1) := by decide +kernel
theorem dX12_balanceOf_34 : decode cX12_balanceOf 34 = .ok (.iload 4, 2) := by decide +kernel
theorem dX12_balanceOf_36 : decode cX12_balanceOf 36 = .ok (.invokevirtual 371, 3) := by decide +kernel
theorem dX12_balanceOf_39 : decode cX12_balanceOf 39 = .ok (.i2l, 1) := by decide +kernel
theorem dX12_balanceOf_40 : decode cX12_balanceOf 40 = .ok (.goto 4, 3) := by decide +kernel
theorem dX12_balanceOf_43 : decode cX12_balanceOf 43 = .ok (.lconst 0, 1) := by decide +kernel
theorem dX12_balanceOf_44 : decode cX12_balanceOf 44 = .ok (.ladd, 1) := by decide +kernel
theorem dX12_balanceOf_45 : decode cX12_balanceOf 45 = .ok (.lstore_n 2, 1) := by decide +kernel
theorem dX12_balanceOf_46 : decode cX12_balanceOf 46 = .ok (.iinc 4 1, 3) := by decide +kernel
theorem dX12_balanceOf_49 : decode cX12_balanceOf 49 = .ok (.goto (-38), 3) := by decide +kernel
theorem dX12_balanceOf_52 : decode cX12_balanceOf 52 = .ok (.lload_n 2, 1) := by decide +kernel
theorem dX12_balanceOf_53 : decode cX12_balanceOf 53 = .ok (.lreturn, 1) := by decide +kernel
theorem dX12_balance_0 : decode cX12_balance 0 = .ok (.aload_n 0, 1) := by decide +kernel
theorem dX12_balance_1 : decode cX12_balance 1 = .ok (.aload_n 0, 1) := by decide +kernel
theorem dX12_balance_2 : decode cX12_balance 2 = .ok (.iload_n 1, 1) := by decide +kernel
theorem dX12_balance_3 : decode cX12_balance 3 = .ok (.invokevirtual 282, 3) := by decide +kernel
theorem dX12_balance_6 : decode cX12_balance 6 = .ok (.invokevirtual 62, 3) := by decide +kernel
theorem dX12_balance_9 : decode cX12_balance 9 = .ok (.ifCond .eq 11, 3) := by decide +kernel
theorem dX12_balance_12 : decode cX12_balance 12 = .ok (.aload_n 0, 1) := by decide +kernel
theorem dX12_balance_13 : decode cX12_balance 13 = .ok (.iload_n 1, 1) := by decide +kernel
theorem dX12_balance_14 : decode cX12_balance 14 = .ok (.invokevirtual 389, 3) := by decide +kernel
theorem dX12_balance_17 : decode cX12_balance 17 = .ok (.goto 4, 3) := by decide +kernel
theorem dX12_balance_20 : decode cX12_balance 20 = .ok (.lconst 0, 1) := by decide +kernel
theorem dX12_balance_21 : decode cX12_balance 21 = .ok (.lreturn, 1) := by decide +kernel
theorem dX12_paid_0 : decode cX12_paid 0 = .ok (.aload_n 0, 1) := by decide +kernel
theorem dX12_paid_1 : decode cX12_paid 1 = .ok (.aload_n 0, 1) := by decide +kernel
theorem dX12_paid_2 : decode cX12_paid 2 = .ok (.iload_n 1, 1) := by decide +kernel
theorem dX12_paid_3 : decode cX12_paid 3 = .ok (.invokevirtual 282, 3) := by decide +kernel
theorem dX12_paid_6 : decode cX12_paid 6 = .ok (.invokevirtual 62, 3) := by decide +kernel
theorem dX12_paid_9 : decode cX12_paid 9 = .ok (.ifCond .eq 12, 3) := by decide +kernel
theorem dX12_paid_12 : decode cX12_paid 12 = .ok (.aload_n 0, 1) := by decide +kernel
theorem dX12_paid_13 : decode cX12_paid 13 = .ok (.getfield 27, 3) := by decide +kernel
theorem dX12_paid_16 : decode cX12_paid 16 = .ok (.iload_n 1, 1) := by decide +kernel
theorem dX12_paid_17 : decode cX12_paid 17 = .ok (.laload, 1) := by decide +kernel
theorem dX12_paid_18 : decode cX12_paid 18 = .ok (.goto 4, 3) := by decide +kernel
theorem dX12_paid_21 : decode cX12_paid 21 = .ok (.lconst 0, 1) := by decide +kernel
theorem dX12_paid_22 : decode cX12_paid 22 = .ok (.lreturn, 1) := by decide +kernel
theorem dX12_oldestOpen_0 : decode cX12_oldestOpen 0 = .ok (.aload_n 0, 1) := by decide +kernel
theorem dX12_oldestOpen_1 : decode cX12_oldestOpen 1 = .ok (.aload_n 0, 1) := by decide +kernel
theorem dX12_oldestOpen_2 : decode cX12_oldestOpen 2 = .ok (.iload_n 1, 1) := by decide +kernel
theorem dX12_oldestOpen_3 : decode cX12_oldestOpen 3 = .ok (.invokevirtual 282, 3) := by decide +kernel
theorem dX12_oldestOpen_6 : decode cX12_oldestOpen 6 = .ok (.invokevirtual 62, 3) := by decide +kernel
theorem dX12_oldestOpen_9 : decode cX12_oldestOpen 9 = .ok (.ifCond .ne 5, 3) := by decide +kernel
theorem dX12_oldestOpen_12 : decode cX12_oldestOpen 12 = .ok (.iconst 0, 1) := by decide +kernel
theorem dX12_oldestOpen_13 : decode cX12_oldestOpen 13 = .ok (.ireturn, 1) := by decide +kernel
theorem dX12_oldestOpen_14 : decode cX12_oldestOpen 14 = .ok (.iconst 0, 1) := by decide +kernel
theorem dX12_oldestOpen_15 : decode cX12_oldestOpen 15 = .ok (.istore_n 2, 1) := by decide +kernel
theorem dX12_oldestOpen_16 : decode cX12_oldestOpen 16 = .ok (.iload_n 2, 1) := by decide +kernel
theorem dX12_oldestOpen_17 : decode cX12_oldestOpen 17 = .ok (.aload_n 0, 1) := by decide +kernel
theorem dX12_oldestOpen_18 : decode cX12_oldestOpen 18 = .ok (.getfield 17, 3) := by decide +kernel
theorem dX12_oldestOpen_21 : decode cX12_oldestOpen 21 = .ok (.iconst 2, 1) := by decide +kernel
theorem dX12_oldestOpen_22 : decode cX12_oldestOpen 22 = .ok (.iaload, 1) := by decide +kernel
theorem dX12_oldestOpen_23 : decode cX12_oldestOpen 23 = .ok (.if_icmp .ge 28, 3) := by decide +kernel
theorem dX12_oldestOpen_26 : decode cX12_oldestOpen 26 = .ok (.aload_n 0, 1) := by decide +kernel
theorem dX12_oldestOpen_27 : decode cX12_oldestOpen 27 = .ok (.iload_n 2, 1) := by decide +kernel
theorem dX12_oldestOpen_28 : decode cX12_oldestOpen 28 = .ok (.invokevirtual 368, 3) := by decide +kernel
theorem dX12_oldestOpen_31 : decode cX12_oldestOpen 31 = .ok (.iload_n 1, 1) := by decide +kernel
theorem dX12_oldestOpen_32 : decode cX12_oldestOpen 32 = .ok (.if_icmp .ne 13, 3) := by decide +kernel
theorem dX12_oldestOpen_35 : decode cX12_oldestOpen 35 = .ok (.aload_n 0, 1) := by decide +kernel
theorem dX12_oldestOpen_36 : decode cX12_oldestOpen 36 = .ok (.iload_n 2, 1) := by decide +kernel
theorem dX12_oldestOpen_37 : decode cX12_oldestOpen 37 = .ok (.invokevirtual 383, 3) := by decide +kernel
theorem dX12_oldestOpen_40 : decode cX12_oldestOpen 40 = .ok (.ifCond .le 5, 3) := by decide +kernel
theorem dX12_oldestOpen_43 : decode cX12_oldestOpen 43 = .ok (.iload_n 2, 1) := by decide +kernel
theorem dX12_oldestOpen_44 : decode cX12_oldestOpen 44 = .ok (.ireturn, 1) := by decide +kernel
theorem dX12_oldestOpen_45 : decode cX12_oldestOpen 45 = .ok (.iinc 2 1, 3) := by decide +kernel
theorem dX12_oldestOpen_48 : decode cX12_oldestOpen 48 = .ok (.goto (-32), 3) := by decide +kernel
theorem dX12_oldestOpen_51 : decode cX12_oldestOpen 51 = .ok (.iconst (-1), 1) := by decide +kernel
theorem dX12_oldestOpen_52 : decode cX12_oldestOpen 52 = .ok (.ireturn, 1) := by decide +kernel
theorem dX12_overdue_0 : decode cX12_overdue 0 = .ok (.aload_n 0, 1) := by decide +kernel
theorem dX12_overdue_1 : decode cX12_overdue 1 = .ok (.iload_n 1, 1) := by decide +kernel
theorem dX12_overdue_2 : decode cX12_overdue 2 = .ok (.i2l, 1) := by decide +kernel
theorem dX12_overdue_3 : decode cX12_overdue 3 = .ok (.lconst 0, 1) := by decide +kernel
theorem dX12_overdue_4 : decode cX12_overdue 4 = .ok (.ldc2_w 393, 3) := by decide +kernel
theorem dX12_overdue_7 : decode cX12_overdue 7 = .ok (.invokestatic 47, 3) := by decide +kernel
theorem dX12_overdue_10 : decode cX12_overdue 10 = .ok (.invokevirtual 62, 3) := by decide +kernel
theorem dX12_overdue_13 : decode cX12_overdue 13 = .ok (.ifCond .ne 5, 3) := by decide +kernel
theorem dX12_overdue_16 : decode cX12_overdue 16 = .ok (.iconst 0, 1) := by decide +kernel
theorem dX12_overdue_17 : decode cX12_overdue 17 = .ok (.ireturn, 1) := by decide +kernel
theorem dX12_overdue_18 : decode cX12_overdue 18 = .ok (.iconst 0, 1) := by decide +kernel
theorem dX12_overdue_19 : decode cX12_overdue 19 = .ok (.istore_n 2, 1) := by decide +kernel
theorem dX12_overdue_20 : decode cX12_overdue 20 = .ok (.iconst 0, 1) := by decide +kernel
theorem dX12_overdue_21 : decode cX12_overdue 21 = .ok (.istore_n 3, 1) := by decide +kernel
theorem dX12_overdue_22 : decode cX12_overdue 22 = .ok (.iload_n 3, 1) := by decide +kernel
theorem dX12_overdue_23 : decode cX12_overdue 23 = .ok (.aload_n 0, 1) := by decide +kernel
theorem dX12_overdue_24 : decode cX12_overdue 24 = .ok (.getfield 17, 3) := by decide +kernel
theorem dX12_overdue_27 : decode cX12_overdue 27 = .ok (.iconst 2, 1) := by decide +kernel
theorem dX12_overdue_28 : decode cX12_overdue 28 = .ok (.iaload, 1) := by decide +kernel
theorem dX12_overdue_29 : decode cX12_overdue 29 = .ok (.if_icmp .ge 42, 3) := by decide +kernel
theorem dX12_overdue_32 : decode cX12_overdue 32 = .ok (.iload_n 2, 1) := by decide +kernel
theorem dX12_overdue_33 : decode cX12_overdue 33 = .ok (.aload_n 0, 1) := by decide +kernel
theorem dX12_overdue_34 : decode cX12_overdue 34 = .ok (.getfield 17, 3) := by decide +kernel
theorem dX12_overdue_37 : decode cX12_overdue 37 = .ok (.iconst 5, 1) := by decide +kernel
theorem dX12_overdue_38 : decode cX12_overdue 38 = .ok (.iaload, 1) := by decide +kernel
theorem dX12_overdue_39 : decode cX12_overdue 39 = .ok (.aload_n 0, 1) := by decide +kernel
theorem dX12_overdue_40 : decode cX12_overdue 40 = .ok (.iload_n 3, 1) := by decide +kernel
theorem dX12_overdue_41 : decode cX12_overdue 41 = .ok (.iconst 1, 1) := by decide +kernel
theorem dX12_overdue_42 : decode cX12_overdue 42 = .ok (.invokevirtual 305, 3) := by decide +kernel
theorem dX12_overdue_45 : decode cX12_overdue 45 = .ok (.isub, 1) := by decide +kernel
theorem dX12_overdue_46 : decode cX12_overdue 46 = .ok (.iload_n 1, 1) := by decide +kernel
theorem dX12_overdue_47 : decode cX12_overdue 47 = .ok (.if_icmp .lt 15, 3) := by decide +kernel
theorem dX12_overdue_50 : decode cX12_overdue 50 = .ok (.aload_n 0, 1) := by decide +kernel
theorem dX12_overdue_51 : decode cX12_overdue 51 = .ok (.iload_n 3, 1) := by decide +kernel
theorem dX12_overdue_52 : decode cX12_overdue 52 = .ok (.invokevirtual 383, 3) := by decide +kernel
theorem dX12_overdue_55 : decode cX12_overdue 55 = .ok (.ifCond .le 7, 3) := by decide +kernel
theorem dX12_overdue_58 : decode cX12_overdue 58 = .ok (.iconst 1, 1) := by decide +kernel
theorem dX12_overdue_59 : decode cX12_overdue 59 = .ok (.goto 4, 3) := by decide +kernel
theorem dX12_overdue_62 : decode cX12_overdue 62 = .ok (.iconst 0, 1) := by decide +kernel
theorem dX12_overdue_63 : decode cX12_overdue 63 = .ok (.iadd, 1) := by decide +kernel
theorem dX12_overdue_64 : decode cX12_overdue 64 = .ok (.istore_n 2, 1) := by decide +kernel
theorem dX12_overdue_65 : decode cX12_overdue 65 = .ok (.iinc 3 1, 3) := by decide +kernel
theorem dX12_overdue_68 : decode cX12_overdue 68 = .ok (.goto (-46), 3) := by decide +kernel
theorem dX12_overdue_71 : decode cX12_overdue 71 = .ok (.iload_n 2, 1) := by decide +kernel
theorem dX12_overdue_72 : decode cX12_overdue 72 = .ok (.ireturn, 1) := by decide +kernel
theorem dX12_revenue_0 : decode cX12_revenue 0 = .ok (.aload_n 0, 1) := by decide +kernel
theorem dX12_revenue_1 : decode cX12_revenue 1 = .ok (.iload_n 1, 1) := by decide +kernel
theorem dX12_revenue_2 : decode cX12_revenue 2 = .ok (.invokestatic 339, 3) := by decide +kernel
theorem dX12_revenue_5 : decode cX12_revenue 5 = .ok (.ifCond .eq 14, 3) := by decide +kernel
theorem dX12_revenue_8 : decode cX12_revenue 8 = .ok (.iload_n 2, 1) := by decide +kernel
theorem dX12_revenue_9 : decode cX12_revenue 9 = .ok (.invokestatic 356, 3) := by decide +kernel
theorem dX12_revenue_12 : decode cX12_revenue 12 = .ok (.ifCond .eq 7, 3) := by decide +kernel
theorem dX12_revenue_15 : decode cX12_revenue 15 = .ok (.iconst 1, 1) := by decide +kernel
theorem dX12_revenue_16 : decode cX12_revenue 16 = .ok (.goto 4, 3) := by decide +kernel
theorem dX12_revenue_19 : decode cX12_revenue 19 = .ok (.iconst 0, 1) := by decide +kernel
theorem dX12_revenue_20 : decode cX12_revenue 20 = .ok (.invokevirtual 62, 3) := by decide +kernel
theorem dX12_revenue_23 : decode cX12_revenue 23 = .ok (.ifCond .ne 5, 3) := by decide +kernel
theorem dX12_revenue_26 : decode cX12_revenue 26 = .ok (.lconst 0, 1) := by decide +kernel
theorem dX12_revenue_27 : decode cX12_revenue 27 = .ok (.lreturn, 1) := by decide +kernel
theorem dX12_revenue_28 : decode cX12_revenue 28 = .ok (.lconst 0, 1) := by decide +kernel
theorem dX12_revenue_29 : decode cX12_revenue 29 = .ok (.lstore_n 3, 1) := by decide +kernel
theorem dX12_revenue_30 : decode cX12_revenue 30 = .ok (.iconst 0, 1) := by decide +kernel
theorem dX12_revenue_31 : decode cX12_revenue 31 = .ok (.istore 5, 2) := by decide +kernel
theorem dX12_revenue_33 : decode cX12_revenue 33 = .ok (.iload 5, 2) := by decide +kernel
theorem dX12_revenue_35 : decode cX12_revenue 35 = .ok (.aload_n 0, 1) := by decide +kernel
theorem dX12_revenue_36 : decode cX12_revenue 36 = .ok (.getfield 17, 3) := by decide +kernel
theorem dX12_revenue_39 : decode cX12_revenue 39 = .ok (.iconst 2, 1) := by decide +kernel
theorem dX12_revenue_40 : decode cX12_revenue 40 = .ok (.iaload, 1) := by decide +kernel
theorem dX12_revenue_41 : decode cX12_revenue 41 = .ok (.if_icmp .ge 52, 3) := by decide +kernel
theorem dX12_revenue_44 : decode cX12_revenue 44 = .ok (.lload_n 3, 1) := by decide +kernel
theorem dX12_revenue_45 : decode cX12_revenue 45 = .ok (.aload_n 0, 1) := by decide +kernel
theorem dX12_revenue_46 : decode cX12_revenue 46 = .ok (.aload_n 0, 1) := by decide +kernel
theorem dX12_revenue_47 : decode cX12_revenue 47 = .ok (.iload 5, 2) := by decide +kernel
theorem dX12_revenue_49 : decode cX12_revenue 49 = .ok (.iconst 0, 1) := by decide +kernel
theorem dX12_revenue_50 : decode cX12_revenue 50 = .ok (.invokevirtual 305, 3) := by decide +kernel
theorem dX12_revenue_53 : decode cX12_revenue 53 = .ok (.invokevirtual 292, 3) := by decide +kernel
theorem dX12_revenue_56 : decode cX12_revenue 56 = .ok (.iload_n 1, 1) := by decide +kernel
theorem dX12_revenue_57 : decode cX12_revenue 57 = .ok (.if_icmp .ne 27, 3) := by decide +kernel
theorem dX12_revenue_60 : decode cX12_revenue 60 = .ok (.aload_n 0, 1) := by decide +kernel
theorem dX12_revenue_61 : decode cX12_revenue 61 = .ok (.iload 5, 2) := by decide +kernel
theorem dX12_revenue_63 : decode cX12_revenue 63 = .ok (.invokevirtual 362, 3) := by decide +kernel
theorem dX12_revenue_66 : decode cX12_revenue 66 = .ok (.iload_n 2, 1) := by decide +kernel
theorem dX12_revenue_67 : decode cX12_revenue 67 = .ok (.invokestatic 308, 3) := by decide +kernel
theorem dX12_revenue_70 : decode cX12_revenue 70 = .ok (.ifCond .eq 14, 3) := by decide +kernel
theorem dX12_revenue_73 : decode cX12_revenue 73 = .ok (.aload_n 0, 1) := by decide +kernel
theorem dX12_revenue_74 : decode cX12_revenue 74 = .ok (.iload 5, 2) := by decide +kernel
theorem dX12_revenue_76 : decode cX12_revenue 76 = .ok (.iload_n 2, 1) := by decide +kernel
theorem dX12_revenue_77 : decode cX12_revenue 77 = .ok (.invokevirtual 365, 3) := by decide +kernel
theorem dX12_revenue_80 : decode cX12_revenue 80 = .ok (.i2l, 1) := by decide +kernel
theorem dX12_revenue_81 : decode cX12_revenue 81 = .ok (.goto 4, 3) := by decide +kernel
theorem dX12_revenue_84 : decode cX12_revenue 84 = .ok (.lconst 0, 1) := by decide +kernel
theorem dX12_revenue_85 : decode cX12_revenue 85 = .ok (.ladd, 1) := by decide +kernel
theorem dX12_revenue_86 : decode cX12_revenue 86 = .ok (.lstore_n 3, 1) := by decide +kernel
theorem dX12_revenue_87 : decode cX12_revenue 87 = .ok (.iinc 5 1, 3) := by decide +kernel
theorem dX12_revenue_90 : decode cX12_revenue 90 = .ok (.goto (-57), 3) := by decide +kernel
theorem dX12_revenue_93 : decode cX12_revenue 93 = .ok (.lload_n 3, 1) := by decide +kernel
theorem dX12_revenue_94 : decode cX12_revenue 94 = .ok (.lreturn, 1) := by decide +kernel
theorem dX12_rebates_0 : decode cX12_rebates 0 = .ok (.aload_n 0, 1) := by decide +kernel
theorem dX12_rebates_1 : decode cX12_rebates 1 = .ok (.aload_n 0, 1) := by decide +kernel
theorem dX12_rebates_2 : decode cX12_rebates 2 = .ok (.iload_n 1, 1) := by decide +kernel
theorem dX12_rebates_3 : decode cX12_rebates 3 = .ok (.invokevirtual 282, 3) := by decide +kernel
theorem dX12_rebates_6 : decode cX12_rebates 6 = .ok (.iload_n 2, 1) := by decide +kernel
theorem dX12_rebates_7 : decode cX12_rebates 7 = .ok (.invokestatic 339, 3) := by decide +kernel
theorem dX12_rebates_10 : decode cX12_rebates 10 = .ok (.invokevirtual 263, 3) := by decide +kernel
theorem dX12_rebates_13 : decode cX12_rebates 13 = .ok (.ifCond .ne 5, 3) := by decide +kernel
theorem dX12_rebates_16 : decode cX12_rebates 16 = .ok (.lconst 0, 1) := by decide +kernel
theorem dX12_rebates_17 : decode cX12_rebates 17 = .ok (.lreturn, 1) := by decide +kernel
theorem dX12_rebates_18 : decode cX12_rebates 18 = .ok (.lconst 0, 1) := by decide +kernel
theorem dX12_rebates_19 : decode cX12_rebates 19 = .ok (.lstore_n 3, 1) := by decide +kernel
theorem dX12_rebates_20 : decode cX12_rebates 20 = .ok (.iconst 0, 1) := by decide +kernel
theorem dX12_rebates_21 : decode cX12_rebates 21 = .ok (.istore 5, 2) := by decide +kernel
theorem dX12_rebates_23 : decode cX12_rebates 23 = .ok (.iload 5, 2) := by decide +kernel
theorem dX12_rebates_25 : decode cX12_rebates 25 = .ok (.aload_n 0, 1) := by decide +kernel
theorem dX12_rebates_26 : decode cX12_rebates 26 = .ok (.getfield 17, 3) := by decide +kernel
theorem dX12_rebates_29 : decode cX12_rebates 29 = .ok (.iconst 1, 1) := by decide +kernel
theorem dX12_rebates_30 : decode cX12_rebates 30 = .ok (.iaload, 1) := by decide +kernel
theorem dX12_rebates_31 : decode cX12_rebates 31 = .ok (.if_icmp .ge 45, 3) := by decide +kernel
theorem dX12_rebates_34 : decode cX12_rebates 34 = .ok (.lload_n 3, 1) := by decide +kernel
theorem dX12_rebates_35 : decode cX12_rebates 35 = .ok (.aload_n 0, 1) := by decide +kernel
theorem dX12_rebates_36 : decode cX12_rebates 36 = .ok (.iload 5, 2) := by decide +kernel
theorem dX12_rebates_38 : decode cX12_rebates 38 = .ok (.iconst 0, 1) := by decide +kernel
theorem dX12_rebates_39 : decode cX12_rebates 39 = .ok (.invokevirtual 248, 3) := by decide +kernel
theorem dX12_rebates_42 : decode cX12_rebates 42 = .ok (.iload_n 1, 1) := by decide +kernel
theorem dX12_rebates_43 : decode cX12_rebates 43 = .ok (.if_icmp .ne 24, 3) := by decide +kernel
theorem dX12_rebates_46 : decode cX12_rebates 46 = .ok (.aload_n 0, 1) := by decide +kernel
theorem dX12_rebates_47 : decode cX12_rebates 47 = .ok (.iload 5, 2) := by decide +kernel
theorem dX12_rebates_49 : decode cX12_rebates 49 = .ok (.invokevirtual 292, 3) := by decide +kernel
theorem dX12_rebates_52 : decode cX12_rebates 52 = .ok (.iload_n 2, 1) := by decide +kernel
theorem dX12_rebates_53 : decode cX12_rebates 53 = .ok (.if_icmp .ne 14, 3) := by decide +kernel
theorem dX12_rebates_56 : decode cX12_rebates 56 = .ok (.aload_n 0, 1) := by decide +kernel
theorem dX12_rebates_57 : decode cX12_rebates 57 = .ok (.iload 5, 2) := by decide +kernel
theorem dX12_rebates_59 : decode cX12_rebates 59 = .ok (.iconst 1, 1) := by decide +kernel
theorem dX12_rebates_60 : decode cX12_rebates 60 = .ok (.invokevirtual 336, 3) := by decide +kernel
theorem dX12_rebates_63 : decode cX12_rebates 63 = .ok (.i2l, 1) := by decide +kernel
theorem dX12_rebates_64 : decode cX12_rebates 64 = .ok (.goto 4, 3) := by decide +kernel
theorem dX12_rebates_67 : decode cX12_rebates 67 = .ok (.lconst 0, 1) := by decide +kernel
theorem dX12_rebates_68 : decode cX12_rebates 68 = .ok (.ladd, 1) := by decide +kernel
theorem dX12_rebates_69 : decode cX12_rebates 69 = .ok (.lstore_n 3, 1) := by decide +kernel
theorem dX12_rebates_70 : decode cX12_rebates 70 = .ok (.iinc 5 1, 3) := by decide +kernel
theorem dX12_rebates_73 : decode cX12_rebates 73 = .ok (.goto (-50), 3) := by decide +kernel
theorem dX12_rebates_76 : decode cX12_rebates 76 = .ok (.lload_n 3, 1) := by decide +kernel
theorem dX12_rebates_77 : decode cX12_rebates 77 = .ok (.lreturn, 1) := by decide +kernel
theorem dX12_areDays_0 : decode cX12_areDays 0 = .ok (.iload_n 0, 1) := by decide +kernel
theorem dX12_areDays_1 : decode cX12_areDays 1 = .ok (.i2l, 1) := by decide +kernel
theorem dX12_areDays_2 : decode cX12_areDays 2 = .ok (.lconst 0, 1) := by decide +kernel
theorem dX12_areDays_3 : decode cX12_areDays 3 = .ok (.ldc2_w 393, 3) := by decide +kernel
theorem dX12_areDays_6 : decode cX12_areDays 6 = .ok (.invokestatic 47, 3) := by decide +kernel
theorem dX12_areDays_9 : decode cX12_areDays 9 = .ok (.ifCond .eq 22, 3) := by decide +kernel
theorem dX12_areDays_12 : decode cX12_areDays 12 = .ok (.iload_n 1, 1) := by decide +kernel
theorem dX12_areDays_13 : decode cX12_areDays 13 = .ok (.i2l, 1) := by decide +kernel
theorem dX12_areDays_14 : decode cX12_areDays 14 = .ok (.iload_n 0, 1) := by decide +kernel
theorem dX12_areDays_15 : decode cX12_areDays 15 = .ok (.i2l, 1) := by decide +kernel
theorem dX12_areDays_16 : decode cX12_areDays 16 = .ok (.iload_n 0, 1) := by decide +kernel
theorem dX12_areDays_17 : decode cX12_areDays 17 = .ok (.bipush 29, 2) := by decide +kernel
theorem dX12_areDays_19 : decode cX12_areDays 19 = .ok (.iadd, 1) := by decide +kernel
theorem dX12_areDays_20 : decode cX12_areDays 20 = .ok (.i2l, 1) := by decide +kernel
theorem dX12_areDays_21 : decode cX12_areDays 21 = .ok (.invokestatic 47, 3) := by decide +kernel
theorem dX12_areDays_24 : decode cX12_areDays 24 = .ok (.ifCond .eq 7, 3) := by decide +kernel
theorem dX12_areDays_27 : decode cX12_areDays 27 = .ok (.iconst 1, 1) := by decide +kernel
theorem dX12_areDays_28 : decode cX12_areDays 28 = .ok (.goto 4, 3) := by decide +kernel
theorem dX12_areDays_31 : decode cX12_areDays 31 = .ok (.iconst 0, 1) := by decide +kernel
theorem dX12_areDays_32 : decode cX12_areDays 32 = .ok (.ireturn, 1) := by decide +kernel
theorem dX12_quote_0 : decode cX12_quote 0 = .ok (.aload_n 0, 1) := by decide +kernel
theorem dX12_quote_1 : decode cX12_quote 1 = .ok (.aload_n 0, 1) := by decide +kernel
theorem dX12_quote_2 : decode cX12_quote 2 = .ok (.iload_n 1, 1) := by decide +kernel
theorem dX12_quote_3 : decode cX12_quote 3 = .ok (.invokevirtual 282, 3) := by decide +kernel
theorem dX12_quote_6 : decode cX12_quote 6 = .ok (.iload_n 2, 1) := by decide +kernel
theorem dX12_quote_7 : decode cX12_quote 7 = .ok (.iload_n 3, 1) := by decide +kernel
theorem dX12_quote_8 : decode cX12_quote 8 = .ok (.invokestatic 395, 3) := by decide +kernel
theorem dX12_quote_11 : decode cX12_quote 11 = .ok (.ifCond .eq 15, 3) := by decide +kernel
theorem dX12_quote_14 : decode cX12_quote 14 = .ok (.iload 4, 2) := by decide +kernel
theorem dX12_quote_16 : decode cX12_quote 16 = .ok (.invokestatic 276, 3) := by decide +kernel
theorem dX12_quote_19 : decode cX12_quote 19 = .ok (.ifCond .eq 7, 3) := by decide +kernel
theorem dX12_quote_22 : decode cX12_quote 22 = .ok (.iconst 1, 1) := by decide +kernel
theorem dX12_quote_23 : decode cX12_quote 23 = .ok (.goto 4, 3) := by decide +kernel
theorem dX12_quote_26 : decode cX12_quote 26 = .ok (.iconst 0, 1) := by decide +kernel
theorem dX12_quote_27 : decode cX12_quote 27 = .ok (.invokevirtual 263, 3) := by decide +kernel
theorem dX12_quote_30 : decode cX12_quote 30 = .ok (.ifCond .ne 5, 3) := by decide +kernel
theorem dX12_quote_33 : decode cX12_quote 33 = .ok (.iconst 0, 1) := by decide +kernel
theorem dX12_quote_34 : decode cX12_quote 34 = .ok (.ireturn, 1) := by decide +kernel
theorem dX12_quote_35 : decode cX12_quote 35 = .ok (.aload_n 0, 1) := by decide +kernel
theorem dX12_quote_36 : decode cX12_quote 36 = .ok (.iload_n 1, 1) := by decide +kernel
theorem dX12_quote_37 : decode cX12_quote 37 = .ok (.iload_n 2, 1) := by decide +kernel
theorem dX12_quote_38 : decode cX12_quote 38 = .ok (.bipush 40, 2) := by decide +kernel
theorem dX12_quote_40 : decode cX12_quote 40 = .ok (.invokevirtual 295, 3) := by decide +kernel
theorem dX12_quote_43 : decode cX12_quote 43 = .ok (.istore 5, 2) := by decide +kernel
theorem dX12_quote_45 : decode cX12_quote 45 = .ok (.aload_n 0, 1) := by decide +kernel
theorem dX12_quote_46 : decode cX12_quote 46 = .ok (.aload_n 0, 1) := by decide +kernel
theorem dX12_quote_47 : decode cX12_quote 47 = .ok (.aload_n 0, 1) := by decide +kernel
theorem dX12_quote_48 : decode cX12_quote 48 = .ok (.invokevirtual 256, 3) := by decide +kernel
theorem dX12_quote_51 : decode cX12_quote 51 = .ok (.bipush 10, 2) := by decide +kernel
theorem dX12_quote_53 : decode cX12_quote 53 = .ok (.invokevirtual 240, 3) := by decide +kernel
theorem dX12_quote_56 : decode cX12_quote 56 = .ok (.iload_n 3, 1) := by decide +kernel
theorem dX12_quote_57 : decode cX12_quote 57 = .ok (.iload_n 2, 1) := by decide +kernel
theorem dX12_quote_58 : decode cX12_quote 58 = .ok (.isub, 1) := by decide +kernel
theorem dX12_quote_59 : decode cX12_quote 59 = .ok (.iconst 1, 1) := by decide +kernel
theorem dX12_quote_60 : decode cX12_quote 60 = .ok (.iadd, 1) := by decide +kernel
theorem dX12_quote_61 : decode cX12_quote 61 = .ok (.invokestatic 302, 3) := by decide +kernel
theorem dX12_quote_64 : decode cX12_quote 64 = .ok (.aload_n 0, 1) := by decide +kernel
theorem dX12_quote_65 : decode cX12_quote 65 = .ok (.invokevirtual 256, 3) := by decide +kernel
theorem dX12_quote_68 : decode cX12_quote 68 = .ok (.invokevirtual 330, 3) := by decide +kernel
theorem dX12_quote_71 : decode cX12_quote 71 = .ok (.istore 6, 2) := by decide +kernel
theorem dX12_quote_73 : decode cX12_quote 73 = .ok (.iconst 0, 1) := by decide +kernel
theorem dX12_quote_74 : decode cX12_quote 74 = .ok (.istore 7, 2) := by decide +kernel
theorem dX12_quote_76 : decode cX12_quote 76 = .ok (.iload 7, 2) := by decide +kernel
theorem dX12_quote_78 : decode cX12_quote 78 = .ok (.iconst 3, 1) := by decide +kernel
theorem dX12_quote_79 : decode cX12_quote 79 = .ok (.if_icmp .ge 34, 3) := by decide +kernel
theorem dX12_quote_82 : decode cX12_quote 82 = .ok (.iload 6, 2) := by decide +kernel
theorem dX12_quote_84 : decode cX12_quote 84 = .ok (.aload_n 0, 1) := by decide +kernel
theorem dX12_quote_85 : decode cX12_quote 85 = .ok (.aload_n 0, 1) := by decide +kernel
theorem dX12_quote_86 : decode cX12_quote 86 = .ok (.iload_n 1, 1) := by decide +kernel
theorem dX12_quote_87 : decode cX12_quote 87 = .ok (.iconst 0, 1) := by decide +kernel
theorem dX12_quote_88 : decode cX12_quote 88 = .ok (.invokevirtual 285, 3) := by decide +kernel
theorem dX12_quote_91 : decode cX12_quote 91 = .ok (.iload 5, 2) := by decide +kernel
theorem dX12_quote_93 : decode cX12_quote 93 = .ok (.iload 4, 2) := by decide +kernel
theorem dX12_quote_95 : decode cX12_quote 95 = .ok (.iload 7, 2) := by decide +kernel
theorem dX12_quote_97 : decode cX12_quote 97 = .ok (.aload_n 0, 1) := by decide +kernel
theorem dX12_quote_98 : decode cX12_quote 98 = .ok (.invokevirtual 256, 3) := by decide +kernel
theorem dX12_quote_101 : decode cX12_quote 101 = .ok (.invokevirtual 326, 3) := by decide +kernel
theorem dX12_quote_104 : decode cX12_quote 104 = .ok (.iadd, 1) := by decide +kernel
theorem dX12_quote_105 : decode cX12_quote 105 = .ok (.istore 6, 2) := by decide +kernel
theorem dX12_quote_107 : decode cX12_quote 107 = .ok (.iinc 7 1, 3) := by decide +kernel
theorem dX12_quote_110 : decode cX12_quote 110 = .ok (.goto (-34), 3) := by decide +kernel
theorem dX12_quote_113 : decode cX12_quote 113 = .ok (.iload 6, 2) := by decide +kernel
theorem dX12_quote_115 : decode cX12_quote 115 = .ok (.ireturn, 1) := by decide +kernel
theorem dX12_callsToRebate_0 : decode cX12_callsToRebate 0 = .ok (.aload_n 0, 1) := by decide +kernel
theorem dX12_callsToRebate_1 : decode cX12_callsToRebate 1 = .ok (.aload_n 0, 1) := by decide +kernel
theorem dX12_callsToRebate_2 : decode cX12_callsToRebate 2 = .ok (.iload_n 1, 1) := by decide +kernel
theorem dX12_callsToRebate_3 : decode cX12_callsToRebate 3 = .ok (.invokevirtual 282, 3) := by decide +kernel
theorem dX12_callsToRebate_6 : decode cX12_callsToRebate 6 = .ok (.iload_n 2, 1) := by decide +kernel
theorem dX12_callsToRebate_7 : decode cX12_callsToRebate 7 = .ok (.invokestatic 339, 3) := by decide +kernel
theorem dX12_callsToRebate_10 : decode cX12_callsToRebate 10 = .ok (.invokevirtual 263, 3) := by decide +kernel
theorem dX12_callsToRebate_13 : decode cX12_callsToRebate 13 = .ok (.ifCond .ne 5, 3) := by decide +kernel
theorem dX12_callsToRebate_16 : decode cX12_callsToRebate 16 = .ok (.iconst 0, 1) := by decide +kernel
theorem dX12_callsToRebate_17 : decode cX12_callsToRebate 17 = .ok (.ireturn, 1) := by decide +kernel
theorem dX12_callsToRebate_18 : decode cX12_callsToRebate 18 = .ok (.aload_n 0, 1) := by decide +kernel
theorem dX12_callsToRebate_19 : decode cX12_callsToRebate 19 = .ok (.iload_n 1, 1) := by decide +kernel
theorem dX12_callsToRebate_20 : decode cX12_callsToRebate 20 = .ok (.iload_n 2, 1) := by decide +kernel
theorem dX12_callsToRebate_21 : decode cX12_callsToRebate 21 = .ok (.invokevirtual 342, 3) := by decide +kernel
theorem dX12_callsToRebate_24 : decode cX12_callsToRebate 24 = .ok (.istore_n 3, 1) := by decide +kernel
theorem dX12_callsToRebate_25 : decode cX12_callsToRebate 25 = .ok (.aload_n 0, 1) := by decide +kernel
theorem dX12_callsToRebate_26 : decode cX12_callsToRebate 26 = .ok (.iload_n 3, 1) := by decide +kernel
theorem dX12_callsToRebate_27 : decode cX12_callsToRebate 27 = .ok (.aload_n 0, 1) := by decide +kernel
theorem dX12_callsToRebate_28 : decode cX12_callsToRebate 28 = .ok (.invokevirtual 256, 3) := by decide +kernel
theorem dX12_callsToRebate_31 : decode cX12_callsToRebate 31 = .ok (.invokevirtual 320, 3) := by decide +kernel
theorem dX12_callsToRebate_34 : decode cX12_callsToRebate 34 = .ok (.istore 4, 2) := by decide +kernel
theorem dX12_callsToRebate_36 : decode cX12_callsToRebate 36 = .ok (.iconst 1, 1) := by decide +kernel
theorem dX12_callsToRebate_37 : decode cX12_callsToRebate 37 = .ok (.istore 5, 2) := by decide +kernel
theorem dX12_callsToRebate_39 : decode cX12_callsToRebate 39 = .ok (.iload_n 3, 1) := by decide +kernel
theorem dX12_callsToRebate_40 : decode cX12_callsToRebate 40 = .ok (.iload 5, 2) := by decide +kernel
theorem dX12_callsToRebate_42 : decode cX12_callsToRebate 42 = .ok (.iadd, 1) := by decide +kernel
theorem dX12_callsToRebate_43 : decode cX12_callsToRebate 43 = .ok (.bipush 99, 2) := by decide +kernel
theorem dX12_callsToRebate_45 : decode cX12_callsToRebate 45 = .ok (.if_icmp .gt 29, 3) := by decide +kernel
theorem dX12_callsToRebate_48 : decode cX12_callsToRebate 48 = .ok (.aload_n 0, 1) := by decide +kernel
theorem dX12_callsToRebate_49 : decode cX12_callsToRebate 49 = .ok (.iload_n 3, 1) := by decide +kernel
theorem dX12_callsToRebate_50 : decode cX12_callsToRebate 50 = .ok (.iload 5, 2) := by decide +kernel
theorem dX12_callsToRebate_52 : decode cX12_callsToRebate 52 = .ok (.iadd, 1) := by decide +kernel
theorem dX12_callsToRebate_53 : decode cX12_callsToRebate 53 = .ok (.aload_n 0, 1) := by decide +kernel
theorem dX12_callsToRebate_54 : decode cX12_callsToRebate 54 = .ok (.invokevirtual 256, 3) := by decide +kernel
theorem dX12_callsToRebate_57 : decode cX12_callsToRebate 57 = .ok (.invokevirtual 320, 3) := by decide +kernel
theorem dX12_callsToRebate_60 : decode cX12_callsToRebate 60 = .ok (.iload 4, 2) := by decide +kernel
theorem dX12_callsToRebate_62 : decode cX12_callsToRebate 62 = .ok (.if_icmp .le 6, 3) := by decide +kernel
theorem dX12_callsToRebate_65 : decode cX12_callsToRebate 65 = .ok (.iload 5, 2) := by decide +kernel
theorem dX12_callsToRebate_67 : decode cX12_callsToRebate 67 = .ok (.ireturn, 1) := by decide +kernel
theorem dX12_callsToRebate_68 : decode cX12_callsToRebate 68 = .ok (.iinc 5 1, 3) := by decide +kernel
theorem dX12_callsToRebate_71 : decode cX12_callsToRebate 71 = .ok (.goto (-32), 3) := by decide +kernel
theorem dX12_callsToRebate_74 : decode cX12_callsToRebate 74 = .ok (.iconst (-1), 1) := by decide +kernel
theorem dX12_callsToRebate_75 : decode cX12_callsToRebate 75 = .ok (.ireturn, 1) := by decide +kernel
theorem dX12_totalFor_0 : decode cX12_totalFor 0 = .ok (.iconst 0, 1) := by decide +kernel
theorem dX12_totalFor_1 : decode cX12_totalFor 1 = .ok (.istore_n 2, 1) := by decide +kernel
theorem dX12_totalFor_2 : decode cX12_totalFor 2 = .ok (.iconst 0, 1) := by decide +kernel
theorem dX12_totalFor_3 : decode cX12_totalFor 3 = .ok (.istore_n 3, 1) := by decide +kernel
theorem dX12_totalFor_4 : decode cX12_totalFor 4 = .ok (.iload_n 3, 1) := by decide +kernel
theorem dX12_totalFor_5 : decode cX12_totalFor 5 = .ok (.aload_n 0, 1) := by decide +kernel
theorem dX12_totalFor_6 : decode cX12_totalFor 6 = .ok (.getfield 17, 3) := by decide +kernel
theorem dX12_totalFor_9 : decode cX12_totalFor 9 = .ok (.iconst 1, 1) := by decide +kernel
theorem dX12_totalFor_10 : decode cX12_totalFor 10 = .ok (.iaload, 1) := by decide +kernel
theorem dX12_totalFor_11 : decode cX12_totalFor 11 = .ok (.if_icmp .ge 31, 3) := by decide +kernel
theorem dX12_totalFor_14 : decode cX12_totalFor 14 = .ok (.iload_n 2, 1) := by decide +kernel
theorem dX12_totalFor_15 : decode cX12_totalFor 15 = .ok (.aload_n 0, 1) := by decide +kernel
theorem dX12_totalFor_16 : decode cX12_totalFor 16 = .ok (.iload_n 3, 1) := by decide +kernel
theorem dX12_totalFor_17 : decode cX12_totalFor 17 = .ok (.iconst 0, 1) := by decide +kernel
theorem dX12_totalFor_18 : decode cX12_totalFor 18 = .ok (.invokevirtual 248, 3) := by decide +kernel
theorem dX12_totalFor_21 : decode cX12_totalFor 21 = .ok (.iload_n 1, 1) := by decide +kernel
theorem dX12_totalFor_22 : decode cX12_totalFor 22 = .ok (.if_icmp .ne 11, 3) := by decide +kernel
theorem dX12_totalFor_25 : decode cX12_totalFor 25 = .ok (.aload_n 0, 1) := by decide +kernel
theorem dX12_totalFor_26 : decode cX12_totalFor 26 = .ok (.iload_n 3, 1) := by decide +kernel
theorem dX12_totalFor_27 : decode cX12_totalFor 27 = .ok (.invokevirtual 359, 3) := by decide +kernel
theorem dX12_totalFor_30 : decode cX12_totalFor 30 = .ok (.goto 4, 3) := by decide +kernel
theorem dX12_totalFor_33 : decode cX12_totalFor 33 = .ok (.iconst 0, 1) := by decide +kernel
theorem dX12_totalFor_34 : decode cX12_totalFor 34 = .ok (.iadd, 1) := by decide +kernel
theorem dX12_totalFor_35 : decode cX12_totalFor 35 = .ok (.istore_n 2, 1) := by decide +kernel
theorem dX12_totalFor_36 : decode cX12_totalFor 36 = .ok (.iinc 3 1, 3) := by decide +kernel
theorem dX12_totalFor_39 : decode cX12_totalFor 39 = .ok (.goto (-35), 3) := by decide +kernel
theorem dX12_totalFor_42 : decode cX12_totalFor 42 = .ok (.iload_n 2, 1) := by decide +kernel
theorem dX12_totalFor_43 : decode cX12_totalFor 43 = .ok (.ireturn, 1) := by decide +kernel
theorem dX12_worth_0 : decode cX12_worth 0 = .ok (.aload_n 0, 1) := by decide +kernel
theorem dX12_worth_1 : decode cX12_worth 1 = .ok (.aload_n 0, 1) := by decide +kernel
theorem dX12_worth_2 : decode cX12_worth 2 = .ok (.iload_n 1, 1) := by decide +kernel
theorem dX12_worth_3 : decode cX12_worth 3 = .ok (.invokevirtual 345, 3) := by decide +kernel
theorem dX12_worth_6 : decode cX12_worth 6 = .ok (.invokevirtual 62, 3) := by decide +kernel
theorem dX12_worth_9 : decode cX12_worth 9 = .ok (.ifCond .ne 5, 3) := by decide +kernel
theorem dX12_worth_12 : decode cX12_worth 12 = .ok (.iconst 0, 1) := by decide +kernel
theorem dX12_worth_13 : decode cX12_worth 13 = .ok (.ireturn, 1) := by decide +kernel
theorem dX12_worth_14 : decode cX12_worth 14 = .ok (.aload_n 0, 1) := by decide +kernel
theorem dX12_worth_15 : decode cX12_worth 15 = .ok (.iload_n 1, 1) := by decide +kernel
theorem dX12_worth_16 : decode cX12_worth 16 = .ok (.iconst 4, 1) := by decide +kernel
theorem dX12_worth_17 : decode cX12_worth 17 = .ok (.invokevirtual 248, 3) := by decide +kernel
theorem dX12_worth_20 : decode cX12_worth 20 = .ok (.iconst 1, 1) := by decide +kernel
theorem dX12_worth_21 : decode cX12_worth 21 = .ok (.if_icmp .ne 5, 3) := by decide +kernel
theorem dX12_worth_24 : decode cX12_worth 24 = .ok (.iconst 0, 1) := by decide +kernel
theorem dX12_worth_25 : decode cX12_worth 25 = .ok (.ireturn, 1) := by decide +kernel
theorem dX12_worth_26 : decode cX12_worth 26 = .ok (.aload_n 0, 1) := by decide +kernel
theorem dX12_worth_27 : decode cX12_worth 27 = .ok (.iload_n 1, 1) := by decide +kernel
theorem dX12_worth_28 : decode cX12_worth 28 = .ok (.iconst 0, 1) := by decide +kernel
theorem dX12_worth_29 : decode cX12_worth 29 = .ok (.invokevirtual 248, 3) := by decide +kernel
theorem dX12_worth_32 : decode cX12_worth 32 = .ok (.istore_n 2, 1) := by decide +kernel
theorem dX12_worth_33 : decode cX12_worth 33 = .ok (.aload_n 0, 1) := by decide +kernel
theorem dX12_worth_34 : decode cX12_worth 34 = .ok (.iload_n 2, 1) := by decide +kernel
theorem dX12_worth_35 : decode cX12_worth 35 = .ok (.invokevirtual 398, 3) := by decide +kernel
theorem dX12_worth_38 : decode cX12_worth 38 = .ok (.istore_n 3, 1) := by decide +kernel
theorem dX12_worth_39 : decode cX12_worth 39 = .ok (.aload_n 0, 1) := by decide +kernel
theorem dX12_worth_40 : decode cX12_worth 40 = .ok (.iload_n 1, 1) := by decide +kernel
theorem dX12_worth_41 : decode cX12_worth 41 = .ok (.iconst 4, 1) := by decide +kernel
theorem dX12_worth_42 : decode cX12_worth 42 = .ok (.iconst 1, 1) := by decide +kernel
theorem dX12_worth_43 : decode cX12_worth 43 = .ok (.invokevirtual 401, 3) := by decide +kernel
theorem dX12_worth_46 : decode cX12_worth 46 = .ok (.aload_n 0, 1) := by decide +kernel
theorem dX12_worth_47 : decode cX12_worth 47 = .ok (.iload_n 2, 1) := by decide +kernel
theorem dX12_worth_48 : decode cX12_worth 48 = .ok (.invokevirtual 398, 3) := by decide +kernel
theorem dX12_worth_51 : decode cX12_worth 51 = .ok (.istore 4, 2) := by decide +kernel
theorem dX12_worth_53 : decode cX12_worth 53 = .ok (.aload_n 0, 1) := by decide +kernel
theorem dX12_worth_54 : decode cX12_worth 54 = .ok (.iload_n 1, 1) := by decide +kernel
theorem dX12_worth_55 : decode cX12_worth 55 = .ok (.iconst 4, 1) := by decide +kernel
theorem dX12_worth_56 : decode cX12_worth 56 = .ok (.iconst 0, 1) := by decide +kernel
theorem dX12_worth_57 : decode cX12_worth 57 = .ok (.invokevirtual 401, 3) := by decide +kernel
theorem dX12_worth_60 : decode cX12_worth 60 = .ok (.iload_n 3, 1) := by decide +kernel
theorem dX12_worth_61 : decode cX12_worth 61 = .ok (.iload 4, 2) := by decide +kernel
theorem dX12_worth_63 : decode cX12_worth 63 = .ok (.isub, 1) := by decide +kernel
theorem dX12_worth_64 : decode cX12_worth 64 = .ok (.ireturn, 1) := by decide +kernel
theorem dX12_totalWith_0 : decode cX12_totalWith 0 = .ok (.aload_n 0, 1) := by decide +kernel
theorem dX12_totalWith_1 : decode cX12_totalWith 1 = .ok (.aload_n 0, 1) := by decide +kernel
theorem dX12_totalWith_2 : decode cX12_totalWith 2 = .ok (.getfield 17, 3) := by decide +kernel
theorem dX12_totalWith_5 : decode cX12_totalWith 5 = .ok (.iconst 1, 1) := by decide +kernel
theorem dX12_totalWith_6 : decode cX12_totalWith 6 = .ok (.iaload, 1) := by decide +kernel
theorem dX12_totalWith_7 : decode cX12_totalWith 7 = .ok (.iload_n 1, 1) := by decide +kernel
theorem dX12_totalWith_8 : decode cX12_totalWith 8 = .ok (.iload_n 2, 1) := by decide +kernel
theorem dX12_totalWith_9 : decode cX12_totalWith 9 = .ok (.iload_n 2, 1) := by decide +kernel
theorem dX12_totalWith_10 : decode cX12_totalWith 10 = .ok (.iload_n 3, 1) := by decide +kernel
theorem dX12_totalWith_11 : decode cX12_totalWith 11 = .ok (.iadd, 1) := by decide +kernel
theorem dX12_totalWith_12 : decode cX12_totalWith 12 = .ok (.iconst 1, 1) := by decide +kernel
theorem dX12_totalWith_13 : decode cX12_totalWith 13 = .ok (.isub, 1) := by decide +kernel
theorem dX12_totalWith_14 : decode cX12_totalWith 14 = .ok (.iload 4, 2) := by decide +kernel
theorem dX12_totalWith_16 : decode cX12_totalWith 16 = .ok (.invokevirtual 200, 3) := by decide +kernel
theorem dX12_totalWith_19 : decode cX12_totalWith 19 = .ok (.aload_n 0, 1) := by decide +kernel
theorem dX12_totalWith_20 : decode cX12_totalWith 20 = .ok (.getfield 17, 3) := by decide +kernel
theorem dX12_totalWith_23 : decode cX12_totalWith 23 = .ok (.iconst 1, 1) := by decide +kernel
theorem dX12_totalWith_24 : decode cX12_totalWith 24 = .ok (.dup2, 1) := by decide +kernel
theorem dX12_totalWith_25 : decode cX12_totalWith 25 = .ok (.iaload, 1) := by decide +kernel
theorem dX12_totalWith_26 : decode cX12_totalWith 26 = .ok (.iconst 1, 1) := by decide +kernel
theorem dX12_totalWith_27 : decode cX12_totalWith 27 = .ok (.iadd, 1) := by decide +kernel
theorem dX12_totalWith_28 : decode cX12_totalWith 28 = .ok (.iastore, 1) := by decide +kernel
theorem dX12_totalWith_29 : decode cX12_totalWith 29 = .ok (.aload_n 0, 1) := by decide +kernel
theorem dX12_totalWith_30 : decode cX12_totalWith 30 = .ok (.iload_n 1, 1) := by decide +kernel
theorem dX12_totalWith_31 : decode cX12_totalWith 31 = .ok (.invokevirtual 398, 3) := by decide +kernel
theorem dX12_totalWith_34 : decode cX12_totalWith 34 = .ok (.istore 5, 2) := by decide +kernel
theorem dX12_totalWith_36 : decode cX12_totalWith 36 = .ok (.aload_n 0, 1) := by decide +kernel
theorem dX12_totalWith_37 : decode cX12_totalWith 37 = .ok (.getfield 17, 3) := by decide +kernel
theorem dX12_totalWith_40 : decode cX12_totalWith 40 = .ok (.iconst 1, 1) := by decide +kernel
theorem dX12_totalWith_41 : decode cX12_totalWith 41 = .ok (.dup2, 1) := by decide +kernel
theorem dX12_totalWith_42 : decode cX12_totalWith 42 = .ok (.iaload, 1) := by decide +kernel
theorem dX12_totalWith_43 : decode cX12_totalWith 43 = .ok (.iconst 1, 1) := by decide +kernel
theorem dX12_totalWith_44 : decode cX12_totalWith 44 = .ok (.isub, 1) := by decide +kernel
theorem dX12_totalWith_45 : decode cX12_totalWith 45 = .ok (.iastore, 1) := by decide +kernel
theorem dX12_totalWith_46 : decode cX12_totalWith 46 = .ok (.iload 5, 2) := by decide +kernel
theorem dX12_totalWith_48 : decode cX12_totalWith 48 = .ok (.ireturn, 1) := by decide +kernel
theorem dX12_bestDay_0 : decode cX12_bestDay 0 = .ok (.iload_n 2, 1) := by decide +kernel
theorem dX12_bestDay_1 : decode cX12_bestDay 1 = .ok (.i2l, 1) := by decide +kernel
theorem dX12_bestDay_2 : decode cX12_bestDay 2 = .ok (.lconst 0, 1) := by decide +kernel
theorem dX12_bestDay_3 : decode cX12_bestDay 3 = .ok (.ldc2_w 393, 3) := by decide +kernel
theorem dX12_bestDay_6 : decode cX12_bestDay 6 = .ok (.invokestatic 47, 3) := by decide +kernel
theorem dX12_bestDay_9 : decode cX12_bestDay 9 = .ok (.ifCond .eq 49, 3) := by decide +kernel
theorem dX12_bestDay_12 : decode cX12_bestDay 12 = .ok (.iload_n 3, 1) := by decide +kernel
theorem dX12_bestDay_13 : decode cX12_bestDay 13 = .ok (.i2l, 1) := by decide +kernel
theorem dX12_bestDay_14 : decode cX12_bestDay 14 = .ok (.iload_n 2, 1) := by decide +kernel
theorem dX12_bestDay_15 : decode cX12_bestDay 15 = .ok (.i2l, 1) := by decide +kernel
theorem dX12_bestDay_16 : decode cX12_bestDay 16 = .ok (.sipush 3599, 3) := by decide +kernel
theorem dX12_bestDay_19 : decode cX12_bestDay 19 = .ok (.iload_n 2, 1) := by decide +kernel
theorem dX12_bestDay_20 : decode cX12_bestDay 20 = .ok (.bipush 99, 2) := by decide +kernel
theorem dX12_bestDay_22 : decode cX12_bestDay 22 = .ok (.iadd, 1) := by decide +kernel
theorem dX12_bestDay_23 : decode cX12_bestDay 23 = .ok (.invokestatic 105, 3) := by decide +kernel
theorem dX12_bestDay_26 : decode cX12_bestDay 26 = .ok (.i2l, 1) := by decide +kernel
theorem dX12_bestDay_27 : decode cX12_bestDay 27 = .ok (.invokestatic 47, 3) := by decide +kernel
theorem dX12_bestDay_30 : decode cX12_bestDay 30 = .ok (.ifCond .eq 28, 3) := by decide +kernel
theorem dX12_bestDay_33 : decode cX12_bestDay 33 = .ok (.iload 4, 2) := by decide +kernel
theorem dX12_bestDay_35 : decode cX12_bestDay 35 = .ok (.i2l, 1) := by decide +kernel
theorem dX12_bestDay_36 : decode cX12_bestDay 36 = .ok (.lconst 1, 1) := by decide +kernel
theorem dX12_bestDay_37 : decode cX12_bestDay 37 = .ok (.ldc2_w 405, 3) := by decide +kernel
theorem dX12_bestDay_40 : decode cX12_bestDay 40 = .ok (.invokestatic 47, 3) := by decide +kernel
theorem dX12_bestDay_43 : decode cX12_bestDay 43 = .ok (.ifCond .eq 15, 3) := by decide +kernel
theorem dX12_bestDay_46 : decode cX12_bestDay 46 = .ok (.iload 5, 2) := by decide +kernel
theorem dX12_bestDay_48 : decode cX12_bestDay 48 = .ok (.invokestatic 276, 3) := by decide +kernel
theorem dX12_bestDay_51 : decode cX12_bestDay 51 = .ok (.ifCond .eq 7, 3) := by decide +kernel
theorem dX12_bestDay_54 : decode cX12_bestDay 54 = .ok (.iconst 1, 1) := by decide +kernel
theorem dX12_bestDay_55 : decode cX12_bestDay 55 = .ok (.goto 4, 3) := by decide +kernel
theorem dX12_bestDay_58 : decode cX12_bestDay 58 = .ok (.iconst 0, 1) := by decide +kernel
theorem dX12_bestDay_59 : decode cX12_bestDay 59 = .ok (.istore 6, 2) := by decide +kernel
theorem dX12_bestDay_61 : decode cX12_bestDay 61 = .ok (.aload_n 0, 1) := by decide +kernel
theorem dX12_bestDay_62 : decode cX12_bestDay 62 = .ok (.aload_n 0, 1) := by decide +kernel
theorem dX12_bestDay_63 : decode cX12_bestDay 63 = .ok (.iload_n 1, 1) := by decide +kernel
theorem dX12_bestDay_64 : decode cX12_bestDay 64 = .ok (.invokevirtual 282, 3) := by decide +kernel
theorem dX12_bestDay_67 : decode cX12_bestDay 67 = .ok (.iload 6, 2) := by decide +kernel
theorem dX12_bestDay_69 : decode cX12_bestDay 69 = .ok (.invokevirtual 263, 3) := by decide +kernel
theorem dX12_bestDay_72 : decode cX12_bestDay 72 = .ok (.ifCond .ne 5, 3) := by decide +kernel
theorem dX12_bestDay_75 : decode cX12_bestDay 75 = .ok (.iconst 0, 1) := by decide +kernel
theorem dX12_bestDay_76 : decode cX12_bestDay 76 = .ok (.ireturn, 1) := by decide +kernel
theorem dX12_bestDay_77 : decode cX12_bestDay 77 = .ok (.iload_n 2, 1) := by decide +kernel
theorem dX12_bestDay_78 : decode cX12_bestDay 78 = .ok (.istore 7, 2) := by decide +kernel
theorem dX12_bestDay_80 : decode cX12_bestDay 80 = .ok (.aload_n 0, 1) := by decide +kernel
theorem dX12_bestDay_81 : decode cX12_bestDay 81 = .ok (.iload_n 1, 1) := by decide +kernel
theorem dX12_bestDay_82 : decode cX12_bestDay 82 = .ok (.iload_n 2, 1) := by decide +kernel
theorem dX12_bestDay_83 : decode cX12_bestDay 83 = .ok (.iload 4, 2) := by decide +kernel
theorem dX12_bestDay_85 : decode cX12_bestDay 85 = .ok (.iload 5, 2) := by decide +kernel
theorem dX12_bestDay_87 : decode cX12_bestDay 87 = .ok (.invokevirtual 407, 3) := by decide +kernel
theorem dX12_bestDay_90 : decode cX12_bestDay 90 = .ok (.istore 8, 2) := by decide +kernel
theorem dX12_bestDay_92 : decode cX12_bestDay 92 = .ok (.iload_n 2, 1) := by decide +kernel
theorem dX12_bestDay_93 : decode cX12_bestDay 93 = .ok (.iconst 1, 1) := by decide +kernel
theorem dX12_bestDay_94 : decode cX12_bestDay 94 = .ok (.iadd, 1) := by decide +kernel
theorem dX12_bestDay_95 : decode cX12_bestDay 95 = .ok (.istore 9, 2) := by decide +kernel
theorem dX12_bestDay_97 : decode cX12_bestDay 97 = .ok (.iload 9, 2) := by decide +kernel
theorem dX12_bestDay_99 : decode cX12_bestDay 99 = .ok (.iload_n 3, 1) := by decide +kernel
theorem dX12_bestDay_100 : decode cX12_bestDay 100 = .ok (.if_icmp .gt 47, 3) := by decide +kernel
theorem dX12_bestDay_103 : decode cX12_bestDay 103 = .ok (.aload_n 0, 1) := by decide +kernel
theorem dX12_bestDay_104 : decode cX12_bestDay 104 = .ok (.iload_n 1, 1) := by decide +kernel
theorem dX12_bestDay_105 : decode cX12_bestDay 105 = .ok (.iload 9, 2) := by decide +kernel
theorem dX12_bestDay_107 : decode cX12_bestDay 107 = .ok (.iload 4, 2) := by decide +kernel
theorem dX12_bestDay_109 : decode cX12_bestDay 109 = .ok (.iload 5, 2) := by decide +kernel
theorem dX12_bestDay_111 : decode cX12_bestDay 111 = .ok (.invokevirtual 407, 3) := by decide +kernel
theorem dX12_bestDay_114 : decode cX12_bestDay 114 = .ok (.istore 10, 2) := by decide +kernel
theorem dX12_bestDay_116 : decode cX12_bestDay 116 = .ok (.iload 10, 2) := by decide +kernel
theorem dX12_bestDay_118 : decode cX12_bestDay 118 = .ok (.iload 8, 2) := by decide +kernel
theorem dX12_bestDay_120 : decode cX12_bestDay 120 = .ok (.if_icmp .ge 8, 3) := by decide +kernel
theorem dX12_bestDay_123 : decode cX12_bestDay 123 = .ok (.iload 9, 2) := by decide +kernel
theorem dX12_bestDay_125 : decode cX12_bestDay 125 = .ok (.goto 5, 3) := by decide +kernel
theorem dX12_bestDay_128 : decode cX12_bestDay 128 = .ok (.iload 7, 2) := by decide +kernel
theorem dX12_bestDay_130 : decode cX12_bestDay 130 = .ok (.istore 7, 2) := by decide +kernel
theorem dX12_bestDay_132 : decode cX12_bestDay 132 = .ok (.iload 8, 2) := by decide +kernel
theorem dX12_bestDay_134 : decode cX12_bestDay 134 = .ok (.iload 10, 2) := by decide +kernel
theorem dX12_bestDay_136 : decode cX12_bestDay 136 = .ok (.invokestatic 105, 3) := by decide +kernel
theorem dX12_bestDay_139 : decode cX12_bestDay 139 = .ok (.istore 8, 2) := by decide +kernel
theorem dX12_bestDay_141 : decode cX12_bestDay 141 = .ok (.iinc 9 1, 3) := by decide +kernel
theorem dX12_bestDay_144 : decode cX12_bestDay 144 = .ok (.goto (-47), 3) := by decide +kernel
theorem dX12_bestDay_147 : decode cX12_bestDay 147 = .ok (.iload 7, 2) := by decide +kernel
theorem dX12_bestDay_149 : decode cX12_bestDay 149 = .ok (.ireturn, 1) := by decide +kernel
theorem dX12_busiestYear_0 : decode cX12_busiestYear 0 = .ok (.aload_n 0, 1) := by decide +kernel
theorem dX12_busiestYear_1 : decode cX12_busiestYear 1 = .ok (.aload_n 0, 1) := by decide +kernel
theorem dX12_busiestYear_2 : decode cX12_busiestYear 2 = .ok (.iload_n 1, 1) := by decide +kernel
theorem dX12_busiestYear_3 : decode cX12_busiestYear 3 = .ok (.invokevirtual 282, 3) := by decide +kernel
theorem dX12_busiestYear_6 : decode cX12_busiestYear 6 = .ok (.invokevirtual 62, 3) := by decide +kernel
theorem dX12_busiestYear_9 : decode cX12_busiestYear 9 = .ok (.ifCond .ne 5, 3) := by decide +kernel
theorem dX12_busiestYear_12 : decode cX12_busiestYear 12 = .ok (.iconst 0, 1) := by decide +kernel
theorem dX12_busiestYear_13 : decode cX12_busiestYear 13 = .ok (.ireturn, 1) := by decide +kernel
theorem dX12_busiestYear_14 : decode cX12_busiestYear 14 = .ok (.iconst 0, 1) := by decide +kernel
theorem dX12_busiestYear_15 : decode cX12_busiestYear 15 = .ok (.istore_n 2, 1) := by decide +kernel
theorem dX12_busiestYear_16 : decode cX12_busiestYear 16 = .ok (.iconst 1, 1) := by decide +kernel
theorem dX12_busiestYear_17 : decode cX12_busiestYear 17 = .ok (.istore_n 3, 1) := by decide +kernel
theorem dX12_busiestYear_18 : decode cX12_busiestYear 18 = .ok (.iload_n 3, 1) := by decide +kernel
theorem dX12_busiestYear_19 : decode cX12_busiestYear 19 = .ok (.bipush 10, 2) := by decide +kernel
theorem dX12_busiestYear_21 : decode cX12_busiestYear 21 = .ok (.if_icmp .ge 30, 3) := by decide +kernel
theorem dX12_busiestYear_24 : decode cX12_busiestYear 24 = .ok (.aload_n 0, 1) := by decide +kernel
theorem dX12_busiestYear_25 : decode cX12_busiestYear 25 = .ok (.iload_n 1, 1) := by decide +kernel
theorem dX12_busiestYear_26 : decode cX12_busiestYear 26 = .ok (.iload_n 3, 1) := by decide +kernel
theorem dX12_busiestYear_27 : decode cX12_busiestYear 27 = .ok (.invokevirtual 342, 3) := by decide +kernel
theorem dX12_busiestYear_30 : decode cX12_busiestYear 30 = .ok (.aload_n 0, 1) := by decide +kernel
theorem dX12_busiestYear_31 : decode cX12_busiestYear 31 = .ok (.iload_n 1, 1) := by decide +kernel
theorem dX12_busiestYear_32 : decode cX12_busiestYear 32 = .ok (.iload_n 2, 1) := by decide +kernel
theorem dX12_busiestYear_33 : decode cX12_busiestYear 33 = .ok (.invokevirtual 342, 3) := by decide +kernel
theorem dX12_busiestYear_36 : decode cX12_busiestYear 36 = .ok (.if_icmp .le 7, 3) := by decide +kernel
theorem dX12_busiestYear_39 : decode cX12_busiestYear 39 = .ok (.iload_n 3, 1) := by decide +kernel
theorem dX12_busiestYear_40 : decode cX12_busiestYear 40 = .ok (.goto 4, 3) := by decide +kernel
theorem dX12_busiestYear_43 : decode cX12_busiestYear 43 = .ok (.iload_n 2, 1) := by decide +kernel
theorem dX12_busiestYear_44 : decode cX12_busiestYear 44 = .ok (.istore_n 2, 1) := by decide +kernel
theorem dX12_busiestYear_45 : decode cX12_busiestYear 45 = .ok (.iinc 3 1, 3) := by decide +kernel
theorem dX12_busiestYear_48 : decode cX12_busiestYear 48 = .ok (.goto (-30), 3) := by decide +kernel
theorem dX12_busiestYear_51 : decode cX12_busiestYear 51 = .ok (.iload_n 2, 1) := by decide +kernel
theorem dX12_busiestYear_52 : decode cX12_busiestYear 52 = .ok (.ireturn, 1) := by decide +kernel
theorem dX12_addCall_0 : decode cX12_addCall 0 = .ok (.aload_n 0, 1) := by decide +kernel
theorem dX12_addCall_1 : decode cX12_addCall 1 = .ok (.aload_n 0, 1) := by decide +kernel
theorem dX12_addCall_2 : decode cX12_addCall 2 = .ok (.iload_n 1, 1) := by decide +kernel
theorem dX12_addCall_3 : decode cX12_addCall 3 = .ok (.invokevirtual 282, 3) := by decide +kernel
theorem dX12_addCall_6 : decode cX12_addCall 6 = .ok (.iload_n 2, 1) := by decide +kernel
theorem dX12_addCall_7 : decode cX12_addCall 7 = .ok (.iload_n 3, 1) := by decide +kernel
theorem dX12_addCall_8 : decode cX12_addCall 8 = .ok (.invokestatic 395, 3) := by decide +kernel
theorem dX12_addCall_11 : decode cX12_addCall 11 = .ok (.ifCond .eq 15, 3) := by decide +kernel
theorem dX12_addCall_14 : decode cX12_addCall 14 = .ok (.iload 4, 2) := by decide +kernel
theorem dX12_addCall_16 : decode cX12_addCall 16 = .ok (.invokestatic 276, 3) := by decide +kernel
theorem dX12_addCall_19 : decode cX12_addCall 19 = .ok (.ifCond .eq 7, 3) := by decide +kernel
theorem dX12_addCall_22 : decode cX12_addCall 22 = .ok (.iconst 1, 1) := by decide +kernel
theorem dX12_addCall_23 : decode cX12_addCall 23 = .ok (.goto 4, 3) := by decide +kernel
theorem dX12_addCall_26 : decode cX12_addCall 26 = .ok (.iconst 0, 1) := by decide +kernel
theorem dX12_addCall_27 : decode cX12_addCall 27 = .ok (.aload_n 0, 1) := by decide +kernel
theorem dX12_addCall_28 : decode cX12_addCall 28 = .ok (.getfield 17, 3) := by decide +kernel
theorem dX12_addCall_31 : decode cX12_addCall 31 = .ok (.iconst 1, 1) := by decide +kernel
theorem dX12_addCall_32 : decode cX12_addCall 32 = .ok (.iaload, 1) := by decide +kernel
theorem dX12_addCall_33 : decode cX12_addCall 33 = .ok (.bipush 40, 2) := by decide +kernel
theorem dX12_addCall_35 : decode cX12_addCall 35 = .ok (.if_icmp .ge 7, 3) := by decide +kernel
theorem dX12_addCall_38 : decode cX12_addCall 38 = .ok (.iconst 1, 1) := by decide +kernel
theorem dX12_addCall_39 : decode cX12_addCall 39 = .ok (.goto 4, 3) := by decide +kernel
theorem dX12_addCall_42 : decode cX12_addCall 42 = .ok (.iconst 0, 1) := by decide +kernel
theorem dX12_addCall_43 : decode cX12_addCall 43 = .ok (.invokevirtual 7, 3) := by decide +kernel
theorem dX12_addCall_46 : decode cX12_addCall 46 = .ok (.ifCond .ne 5, 3) := by decide +kernel
theorem dX12_addCall_49 : decode cX12_addCall 49 = .ok (.iconst 0, 1) := by decide +kernel
theorem dX12_addCall_50 : decode cX12_addCall 50 = .ok (.ireturn, 1) := by decide +kernel
theorem dX12_addCall_51 : decode cX12_addCall 51 = .ok (.aload_n 0, 1) := by decide +kernel
theorem dX12_addCall_52 : decode cX12_addCall 52 = .ok (.invokevirtual 231, 3) := by decide +kernel
theorem dX12_addCall_55 : decode cX12_addCall 55 = .ok (.aload_n 0, 1) := by decide +kernel
theorem dX12_addCall_56 : decode cX12_addCall 56 = .ok (.getfield 17, 3) := by decide +kernel
theorem dX12_addCall_59 : decode cX12_addCall 59 = .ok (.iconst 1, 1) := by decide +kernel
theorem dX12_addCall_60 : decode cX12_addCall 60 = .ok (.iaload, 1) := by decide +kernel
theorem dX12_addCall_61 : decode cX12_addCall 61 = .ok (.istore 5, 2) := by decide +kernel
theorem dX12_addCall_63 : decode cX12_addCall 63 = .ok (.aload_n 0, 1) := by decide +kernel
theorem dX12_addCall_64 : decode cX12_addCall 64 = .ok (.iload 5, 2) := by decide +kernel
theorem dX12_addCall_66 : decode cX12_addCall 66 = .ok (.iload_n 1, 1) := by decide +kernel
theorem dX12_addCall_67 : decode cX12_addCall 67 = .ok (.iload_n 2, 1) := by decide +kernel
theorem dX12_addCall_68 : decode cX12_addCall 68 = .ok (.iload_n 3, 1) := by decide +kernel
theorem dX12_addCall_69 : decode cX12_addCall 69 = .ok (.iload 4, 2) := by decide +kernel
theorem dX12_addCall_71 : decode cX12_addCall 71 = .ok (.invokevirtual 200, 3) := by decide +kernel
theorem dX12_addCall_74 : decode cX12_addCall 74 = .ok (.aload_n 0, 1) := by decide +kernel
theorem dX12_addCall_75 : decode cX12_addCall 75 = .ok (.getfield 17, 3) := by decide +kernel
theorem dX12_addCall_78 : decode cX12_addCall 78 = .ok (.iconst 1, 1) := by decide +kernel
theorem dX12_addCall_79 : decode cX12_addCall 79 = .ok (.dup2, 1) := by decide +kernel
theorem dX12_addCall_80 : decode cX12_addCall 80 = .ok (.iaload, 1) := by decide +kernel
theorem dX12_addCall_81 : decode cX12_addCall 81 = .ok (.iconst 1, 1) := by decide +kernel
theorem dX12_addCall_82 : decode cX12_addCall 82 = .ok (.iadd, 1) := by decide +kernel
theorem dX12_addCall_83 : decode cX12_addCall 83 = .ok (.iastore, 1) := by decide +kernel
theorem dX12_addCall_84 : decode cX12_addCall 84 = .ok (.iload 5, 2) := by decide +kernel
theorem dX12_addCall_86 : decode cX12_addCall 86 = .ok (.ireturn, 1) := by decide +kernel
theorem dX12_canCancel_0 : decode cX12_canCancel 0 = .ok (.aload_n 0, 1) := by decide +kernel
theorem dX12_canCancel_1 : decode cX12_canCancel 1 = .ok (.iload_n 1, 1) := by decide +kernel
theorem dX12_canCancel_2 : decode cX12_canCancel 2 = .ok (.iconst 4, 1) := by decide +kernel
theorem dX12_canCancel_3 : decode cX12_canCancel 3 = .ok (.invokevirtual 248, 3) := by decide +kernel
theorem dX12_canCancel_6 : decode cX12_canCancel 6 = .ok (.ifCond .ne 23, 3) := by decide +kernel
theorem dX12_canCancel_9 : decode cX12_canCancel 9 = .ok (.aload_n 0, 1) := by decide +kernel
theorem dX12_canCancel_10 : decode cX12_canCancel 10 = .ok (.iload_n 1, 1) := by decide +kernel
theorem dX12_canCancel_11 : decode cX12_canCancel 11 = .ok (.invokevirtual 350, 3) := by decide +kernel
theorem dX12_canCancel_14 : decode cX12_canCancel 14 = .ok (.ifCond .ne 15, 3) := by decide +kernel
theorem dX12_canCancel_17 : decode cX12_canCancel 17 = .ok (.aload_n 0, 1) := by decide +kernel
theorem dX12_canCancel_18 : decode cX12_canCancel 18 = .ok (.iload_n 1, 1) := by decide +kernel
theorem dX12_canCancel_19 : decode cX12_canCancel 19 = .ok (.invokevirtual 314, 3) := by decide +kernel
theorem dX12_canCancel_22 : decode cX12_canCancel 22 = .ok (.ifCond .ne 7, 3) := by decide +kernel
theorem dX12_canCancel_25 : decode cX12_canCancel 25 = .ok (.iconst 1, 1) := by decide +kernel
theorem dX12_canCancel_26 : decode cX12_canCancel 26 = .ok (.goto 4, 3) := by decide +kernel
theorem dX12_canCancel_29 : decode cX12_canCancel 29 = .ok (.iconst 0, 1) := by decide +kernel
theorem dX12_canCancel_30 : decode cX12_canCancel 30 = .ok (.ireturn, 1) := by decide +kernel
theorem dX12_cancel_0 : decode cX12_cancel 0 = .ok (.aload_n 0, 1) := by decide +kernel
theorem dX12_cancel_1 : decode cX12_cancel 1 = .ok (.aload_n 0, 1) := by decide +kernel
theorem dX12_cancel_2 : decode cX12_cancel 2 = .ok (.iload_n 1, 1) := by decide +kernel
theorem dX12_cancel_3 : decode cX12_cancel 3 = .ok (.invokevirtual 345, 3) := by decide +kernel
theorem dX12_cancel_6 : decode cX12_cancel 6 = .ok (.aload_n 0, 1) := by decide +kernel
theorem dX12_cancel_7 : decode cX12_cancel 7 = .ok (.iload_n 1, 1) := by decide +kernel
theorem dX12_cancel_8 : decode cX12_cancel 8 = .ok (.invokevirtual 345, 3) := by decide +kernel
theorem dX12_cancel_11 : decode cX12_cancel 11 = .ok (.ifCond .eq 11, 3) := by decide +kernel
theorem dX12_cancel_14 : decode cX12_cancel 14 = .ok (.aload_n 0, 1) := by decide +kernel
theorem dX12_cancel_15 : decode cX12_cancel 15 = .ok (.iload_n 1, 1) := by decide +kernel
theorem dX12_cancel_16 : decode cX12_cancel 16 = .ok (.invokevirtual 411, 3) := by decide +kernel
theorem dX12_cancel_19 : decode cX12_cancel 19 = .ok (.ifCond .eq 7, 3) := by decide +kernel
theorem dX12_cancel_22 : decode cX12_cancel 22 = .ok (.iconst 1, 1) := by decide +kernel
theorem dX12_cancel_23 : decode cX12_cancel 23 = .ok (.goto 4, 3) := by decide +kernel
theorem dX12_cancel_26 : decode cX12_cancel 26 = .ok (.iconst 0, 1) := by decide +kernel
theorem dX12_cancel_27 : decode cX12_cancel 27 = .ok (.invokevirtual 263, 3) := by decide +kernel
theorem dX12_cancel_30 : decode cX12_cancel 30 = .ok (.ifCond .ne 5, 3) := by decide +kernel
theorem dX12_cancel_33 : decode cX12_cancel 33 = .ok (.iconst 0, 1) := by decide +kernel
theorem dX12_cancel_34 : decode cX12_cancel 34 = .ok (.ireturn, 1) := by decide +kernel
theorem dX12_cancel_35 : decode cX12_cancel 35 = .ok (.aload_n 0, 1) := by decide +kernel
theorem dX12_cancel_36 : decode cX12_cancel 36 = .ok (.invokevirtual 231, 3) := by decide +kernel
theorem dX12_cancel_39 : decode cX12_cancel 39 = .ok (.aload_n 0, 1) := by decide +kernel
theorem dX12_cancel_40 : decode cX12_cancel 40 = .ok (.iload_n 1, 1) := by decide +kernel
theorem dX12_cancel_41 : decode cX12_cancel 41 = .ok (.iconst 4, 1) := by decide +kernel
theorem dX12_cancel_42 : decode cX12_cancel 42 = .ok (.iconst 1, 1) := by decide +kernel
theorem dX12_cancel_43 : decode cX12_cancel 43 = .ok (.invokevirtual 401, 3) := by decide +kernel
theorem dX12_cancel_46 : decode cX12_cancel 46 = .ok (.iconst 0, 1) := by decide +kernel
theorem dX12_cancel_47 : decode cX12_cancel 47 = .ok (.istore_n 2, 1) := by decide +kernel
theorem dX12_cancel_48 : decode cX12_cancel 48 = .ok (.iconst 0, 1) := by decide +kernel
theorem dX12_cancel_49 : decode cX12_cancel 49 = .ok (.istore_n 3, 1) := by decide +kernel
theorem dX12_cancel_50 : decode cX12_cancel 50 = .ok (.iload_n 3, 1) := by decide +kernel
theorem dX12_cancel_51 : decode cX12_cancel 51 = .ok (.aload_n 0, 1) := by decide +kernel
theorem dX12_cancel_52 : decode cX12_cancel 52 = .ok (.getfield 17, 3) := by decide +kernel
theorem dX12_cancel_55 : decode cX12_cancel 55 = .ok (.iconst 1, 1) := by decide +kernel
theorem dX12_cancel_56 : decode cX12_cancel 56 = .ok (.iaload, 1) := by decide +kernel
theorem dX12_cancel_57 : decode cX12_cancel 57 = .ok (.if_icmp .ge 31, 3) := by decide +kernel
theorem dX12_cancel_60 : decode cX12_cancel 60 = .ok (.iload_n 2, 1) := by decide +kernel
theorem dX12_cancel_61 : decode cX12_cancel 61 = .ok (.aload_n 0, 1) := by decide +kernel
theorem dX12_cancel_62 : decode cX12_cancel 62 = .ok (.iload_n 3, 1) := by decide +kernel
theorem dX12_cancel_63 : decode cX12_cancel 63 = .ok (.aload_n 0, 1) := by decide +kernel
theorem dX12_cancel_64 : decode cX12_cancel 64 = .ok (.iload_n 1, 1) := by decide +kernel
theorem dX12_cancel_65 : decode cX12_cancel 65 = .ok (.iconst 0, 1) := by decide +kernel
theorem dX12_cancel_66 : decode cX12_cancel 66 = .ok (.invokevirtual 248, 3) := by decide +kernel
theorem dX12_cancel_69 : decode cX12_cancel 69 = .ok (.invokevirtual 288, 3) := by decide +kernel
theorem dX12_cancel_72 : decode cX12_cancel 72 = .ok (.ifCond .eq 7, 3) := by decide +kernel
theorem dX12_cancel_75 : decode cX12_cancel 75 = .ok (.iconst 1, 1) := by decide +kernel
theorem dX12_cancel_76 : decode cX12_cancel 76 = .ok (.goto 4, 3) := by decide +kernel
theorem dX12_cancel_79 : decode cX12_cancel 79 = .ok (.iconst 0, 1) := by decide +kernel
theorem dX12_cancel_80 : decode cX12_cancel 80 = .ok (.iadd, 1) := by decide +kernel
theorem dX12_cancel_81 : decode cX12_cancel 81 = .ok (.istore_n 2, 1) := by decide +kernel
theorem dX12_cancel_82 : decode cX12_cancel 82 = .ok (.iinc 3 1, 3) := by decide +kernel
theorem dX12_cancel_85 : decode cX12_cancel 85 = .ok (.goto (-35), 3) := by decide +kernel
theorem dX12_cancel_88 : decode cX12_cancel 88 = .ok (.iload_n 2, 1) := by decide +kernel
theorem dX12_cancel_89 : decode cX12_cancel 89 = .ok (.ireturn, 1) := by decide +kernel
theorem dX12_change_0 : decode cX12_change 0 = .ok (.aload_n 0, 1) := by decide +kernel
theorem dX12_change_1 : decode cX12_change 1 = .ok (.invokevirtual 231, 3) := by decide +kernel
theorem dX12_change_4 : decode cX12_change 4 = .ok (.aload_n 0, 1) := by decide +kernel
theorem dX12_change_5 : decode cX12_change 5 = .ok (.getfield 17, 3) := by decide +kernel
theorem dX12_change_8 : decode cX12_change 8 = .ok (.iload_n 1, 1) := by decide +kernel
theorem dX12_change_9 : decode cX12_change 9 = .ok (.iaload, 1) := by decide +kernel
theorem dX12_change_10 : decode cX12_change 10 = .ok (.istore_n 3, 1) := by decide +kernel
theorem dX12_change_11 : decode cX12_change 11 = .ok (.aload_n 0, 1) := by decide +kernel
theorem dX12_change_12 : decode cX12_change 12 = .ok (.getfield 17, 3) := by decide +kernel
theorem dX12_change_15 : decode cX12_change 15 = .ok (.iload_n 1, 1) := by decide +kernel
theorem dX12_change_16 : decode cX12_change 16 = .ok (.iload_n 2, 1) := by decide +kernel
theorem dX12_change_17 : decode cX12_change 17 = .ok (.iastore, 1) := by decide +kernel
theorem dX12_change_18 : decode cX12_change 18 = .ok (.iload_n 3, 1) := by decide +kernel
theorem dX12_change_19 : decode cX12_change 19 = .ok (.ireturn, 1) := by decide +kernel
theorem dX12_setWaste_0 : decode cX12_setWaste 0 = .ok (.aload_n 0, 1) := by decide +kernel
theorem dX12_setWaste_1 : decode cX12_setWaste 1 = .ok (.aload_n 0, 1) := by decide +kernel
theorem dX12_setWaste_2 : decode cX12_setWaste 2 = .ok (.iload_n 1, 1) := by decide +kernel
theorem dX12_setWaste_3 : decode cX12_setWaste 3 = .ok (.invokevirtual 345, 3) := by decide +kernel
theorem dX12_setWaste_6 : decode cX12_setWaste 6 = .ok (.iload_n 2, 1) := by decide +kernel
theorem dX12_setWaste_7 : decode cX12_setWaste 7 = .ok (.invokestatic 276, 3) := by decide +kernel
theorem dX12_setWaste_10 : decode cX12_setWaste 10 = .ok (.invokevirtual 263, 3) := by decide +kernel
theorem dX12_setWaste_13 : decode cX12_setWaste 13 = .ok (.ifCond .eq 21, 3) := by decide +kernel
theorem dX12_setWaste_16 : decode cX12_setWaste 16 = .ok (.aload_n 0, 1) := by decide +kernel
theorem dX12_setWaste_17 : decode cX12_setWaste 17 = .ok (.sipush 330, 3) := by decide +kernel
theorem dX12_setWaste_20 : decode cX12_setWaste 20 = .ok (.bipush 7, 2) := by decide +kernel
theorem dX12_setWaste_22 : decode cX12_setWaste 22 = .ok (.iload_n 1, 1) := by decide +kernel
theorem dX12_setWaste_23 : decode cX12_setWaste 23 = .ok (.imul, 1) := by decide +kernel
theorem dX12_setWaste_24 : decode cX12_setWaste 24 = .ok (.iadd, 1) := by decide +kernel
theorem dX12_setWaste_25 : decode cX12_setWaste 25 = .ok (.iconst 3, 1) := by decide +kernel
theorem dX12_setWaste_26 : decode cX12_setWaste 26 = .ok (.iadd, 1) := by decide +kernel
theorem dX12_setWaste_27 : decode cX12_setWaste 27 = .ok (.iload_n 2, 1) := by decide +kernel
theorem dX12_setWaste_28 : decode cX12_setWaste 28 = .ok (.invokevirtual 414, 3) := by decide +kernel
theorem dX12_setWaste_31 : decode cX12_setWaste 31 = .ok (.goto 4, 3) := by decide +kernel
theorem dX12_setWaste_34 : decode cX12_setWaste 34 = .ok (.iconst 0, 1) := by decide +kernel
theorem dX12_setWaste_35 : decode cX12_setWaste 35 = .ok (.ireturn, 1) := by decide +kernel
theorem dX12_setTons_0 : decode cX12_setTons 0 = .ok (.aload_n 0, 1) := by decide +kernel
theorem dX12_setTons_1 : decode cX12_setTons 1 = .ok (.aload_n 0, 1) := by decide +kernel
theorem dX12_setTons_2 : decode cX12_setTons 2 = .ok (.iload_n 1, 1) := by decide +kernel
theorem dX12_setTons_3 : decode cX12_setTons 3 = .ok (.invokevirtual 282, 3) := by decide +kernel
theorem dX12_setTons_6 : decode cX12_setTons 6 = .ok (.iload_n 2, 1) := by decide +kernel
theorem dX12_setTons_7 : decode cX12_setTons 7 = .ok (.i2l, 1) := by decide +kernel
theorem dX12_setTons_8 : decode cX12_setTons 8 = .ok (.lconst 1, 1) := by decide +kernel
theorem dX12_setTons_9 : decode cX12_setTons 9 = .ok (.ldc2_w 51, 3) := by decide +kernel
theorem dX12_setTons_12 : decode cX12_setTons 12 = .ok (.invokestatic 47, 3) := by decide +kernel
theorem dX12_setTons_15 : decode cX12_setTons 15 = .ok (.invokevirtual 263, 3) := by decide +kernel
theorem dX12_setTons_18 : decode cX12_setTons 18 = .ok (.ifCond .eq 21, 3) := by decide +kernel
theorem dX12_setTons_21 : decode cX12_setTons 21 = .ok (.aload_n 0, 1) := by decide +kernel
theorem dX12_setTons_22 : decode cX12_setTons 22 = .ok (.sipush 274, 3) := by decide +kernel
theorem dX12_setTons_25 : decode cX12_setTons 25 = .ok (.bipush 7, 2) := by decide +kernel
theorem dX12_setTons_27 : decode cX12_setTons 27 = .ok (.iload_n 1, 1) := by decide +kernel
theorem dX12_setTons_28 : decode cX12_setTons 28 = .ok (.imul, 1) := by decide +kernel
theorem dX12_setTons_29 : decode cX12_setTons 29 = .ok (.iadd, 1) := by decide +kernel
theorem dX12_setTons_30 : decode cX12_setTons 30 = .ok (.iconst 0, 1) := by decide +kernel
theorem dX12_setTons_31 : decode cX12_setTons 31 = .ok (.iadd, 1) := by decide +kernel
theorem dX12_setTons_32 : decode cX12_setTons 32 = .ok (.iload_n 2, 1) := by decide +kernel
theorem dX12_setTons_33 : decode cX12_setTons 33 = .ok (.invokevirtual 414, 3) := by decide +kernel
theorem dX12_setTons_36 : decode cX12_setTons 36 = .ok (.goto 4, 3) := by decide +kernel
theorem dX12_setTons_39 : decode cX12_setTons 39 = .ok (.iconst 0, 1) := by decide +kernel
theorem dX12_setTons_40 : decode cX12_setTons 40 = .ok (.ireturn, 1) := by decide +kernel
theorem dX12_canBill_0 : decode cX12_canBill 0 = .ok (.aload_n 0, 1) := by decide +kernel
theorem dX12_canBill_1 : decode cX12_canBill 1 = .ok (.iload_n 1, 1) := by decide +kernel
theorem dX12_canBill_2 : decode cX12_canBill 2 = .ok (.iconst 4, 1) := by decide +kernel
theorem dX12_canBill_3 : decode cX12_canBill 3 = .ok (.invokevirtual 248, 3) := by decide +kernel
theorem dX12_canBill_6 : decode cX12_canBill 6 = .ok (.iconst 1, 1) := by decide +kernel
theorem dX12_canBill_7 : decode cX12_canBill 7 = .ok (.if_icmp .eq 14, 3) := by decide +kernel
theorem dX12_canBill_10 : decode cX12_canBill 10 = .ok (.aload_n 0, 1) := by decide +kernel
theorem dX12_canBill_11 : decode cX12_canBill 11 = .ok (.getfield 17, 3) := by decide +kernel
theorem dX12_canBill_14 : decode cX12_canBill 14 = .ok (.iconst 2, 1) := by decide +kernel
theorem dX12_canBill_15 : decode cX12_canBill 15 = .ok (.iaload, 1) := by decide +kernel
theorem dX12_canBill_16 : decode cX12_canBill 16 = .ok (.bipush 60, 2) := by decide +kernel
theorem dX12_canBill_18 : decode cX12_canBill 18 = .ok (.if_icmp .ne 5, 3) := by decide +kernel
theorem dX12_canBill_21 : decode cX12_canBill 21 = .ok (.iconst 0, 1) := by decide +kernel
theorem dX12_canBill_22 : decode cX12_canBill 22 = .ok (.ireturn, 1) := by decide +kernel
theorem dX12_canBill_23 : decode cX12_canBill 23 = .ok (.aload_n 0, 1) := by decide +kernel
theorem dX12_canBill_24 : decode cX12_canBill 24 = .ok (.iload_n 1, 1) := by decide +kernel
theorem dX12_canBill_25 : decode cX12_canBill 25 = .ok (.invokevirtual 350, 3) := by decide +kernel
theorem dX12_canBill_28 : decode cX12_canBill 28 = .ok (.bipush 7, 2) := by decide +kernel
theorem dX12_canBill_30 : decode cX12_canBill 30 = .ok (.if_icmp .ne 11, 3) := by decide +kernel
theorem dX12_canBill_33 : decode cX12_canBill 33 = .ok (.aload_n 0, 1) := by decide +kernel
theorem dX12_canBill_34 : decode cX12_canBill 34 = .ok (.iload_n 1, 1) := by decide +kernel
theorem dX12_canBill_35 : decode cX12_canBill 35 = .ok (.invokevirtual 353, 3) := by decide +kernel
theorem dX12_canBill_38 : decode cX12_canBill 38 = .ok (.ifCond .eq 7, 3) := by decide +kernel
theorem dX12_canBill_41 : decode cX12_canBill 41 = .ok (.iconst 1, 1) := by decide +kernel
theorem dX12_canBill_42 : decode cX12_canBill 42 = .ok (.goto 4, 3) := by decide +kernel
theorem dX12_canBill_45 : decode cX12_canBill 45 = .ok (.iconst 0, 1) := by decide +kernel
theorem dX12_canBill_46 : decode cX12_canBill 46 = .ok (.ireturn, 1) := by decide +kernel
theorem dX12_billNow_0 : decode cX12_billNow 0 = .ok (.aload_n 0, 1) := by decide +kernel
theorem dX12_billNow_1 : decode cX12_billNow 1 = .ok (.getfield 17, 3) := by decide +kernel
theorem dX12_billNow_4 : decode cX12_billNow 4 = .ok (.iconst 2, 1) := by decide +kernel
theorem dX12_billNow_5 : decode cX12_billNow 5 = .ok (.iaload, 1) := by decide +kernel
theorem dX12_billNow_6 : decode cX12_billNow 6 = .ok (.istore_n 2, 1) := by decide +kernel
theorem dX12_billNow_7 : decode cX12_billNow 7 = .ok (.sipush 617, 3) := by decide +kernel
theorem dX12_billNow_10 : decode cX12_billNow 10 = .ok (.bipush 10, 2) := by decide +kernel
theorem dX12_billNow_12 : decode cX12_billNow 12 = .ok (.iload_n 2, 1) := by decide +kernel
theorem dX12_billNow_13 : decode cX12_billNow 13 = .ok (.imul, 1) := by decide +kernel
theorem dX12_billNow_14 : decode cX12_billNow 14 = .ok (.iadd, 1) := by decide +kernel
theorem dX12_billNow_15 : decode cX12_billNow 15 = .ok (.istore_n 3, 1) := by decide +kernel
theorem dX12_billNow_16 : decode cX12_billNow 16 = .ok (.aload_n 0, 1) := by decide +kernel
theorem dX12_billNow_17 : decode cX12_billNow 17 = .ok (.iload_n 1, 1) := by decide +kernel
theorem dX12_billNow_18 : decode cX12_billNow 18 = .ok (.invokevirtual 353, 3) := by decide +kernel
theorem dX12_billNow_21 : decode cX12_billNow 21 = .ok (.istore 4, 2) := by decide +kernel
theorem dX12_billNow_23 : decode cX12_billNow 23 = .ok (.bipush 7, 2) := by decide +kernel
theorem dX12_billNow_25 : decode cX12_billNow 25 = .ok (.aload_n 0, 1) := by decide +kernel
theorem dX12_billNow_26 : decode cX12_billNow 26 = .ok (.iload_n 1, 1) := by decide +kernel
theorem dX12_billNow_27 : decode cX12_billNow 27 = .ok (.invokevirtual 350, 3) := by decide +kernel
theorem dX12_billNow_30 : decode cX12_billNow 30 = .ok (.iconst (-1), 1) := by decide +kernel
theorem dX12_billNow_31 : decode cX12_billNow 31 = .ok (.ixor, 1) := by decide +kernel
theorem dX12_billNow_32 : decode cX12_billNow 32 = .ok (.iand, 1) := by decide +kernel
theorem dX12_billNow_33 : decode cX12_billNow 33 = .ok (.iload 4, 2) := by decide +kernel
theorem dX12_billNow_35 : decode cX12_billNow 35 = .ok (.ifCond .eq 8, 3) := by decide +kernel
theorem dX12_billNow_38 : decode cX12_billNow 38 = .ok (.bipush 8, 2) := by decide +kernel
theorem dX12_billNow_40 : decode cX12_billNow 40 = .ok (.goto 4, 3) := by decide +kernel
theorem dX12_billNow_43 : decode cX12_billNow 43 = .ok (.iconst 0, 1) := by decide +kernel
theorem dX12_billNow_44 : decode cX12_billNow 44 = .ok (.ior, 1) := by decide +kernel
theorem dX12_billNow_45 : decode cX12_billNow 45 = .ok (.istore 5, 2) := by decide +kernel
theorem dX12_billNow_47 : decode cX12_billNow 47 = .ok (.iconst 0, 1) := by decide +kernel
theorem dX12_billNow_48 : decode cX12_billNow 48 = .ok (.istore 6, 2) := by decide +kernel
theorem dX12_billNow_50 : decode cX12_billNow 50 = .ok (.iload 6, 2) := by decide +kernel
theorem dX12_billNow_52 : decode cX12_billNow 52 = .ok (.iconst 3, 1) := by decide +kernel
theorem dX12_billNow_53 : decode cX12_billNow 53 = .ok (.if_icmp .ge 46, 3) := by decide +kernel
theorem dX12_billNow_56 : decode cX12_billNow 56 = .ok (.aload_n 0, 1) := by decide +kernel
theorem dX12_billNow_57 : decode cX12_billNow 57 = .ok (.getfield 17, 3) := by decide +kernel
theorem dX12_billNow_60 : decode cX12_billNow 60 = .ok (.iload_n 3, 1) := by decide +kernel
theorem dX12_billNow_61 : decode cX12_billNow 61 = .ok (.bipush 6, 2) := by decide +kernel
theorem dX12_billNow_63 : decode cX12_billNow 63 = .ok (.iadd, 1) := by decide +kernel
theorem dX12_billNow_64 : decode cX12_billNow 64 = .ok (.iload 6, 2) := by decide +kernel
theorem dX12_billNow_66 : decode cX12_billNow 66 = .ok (.iadd, 1) := by decide +kernel
theorem dX12_billNow_67 : decode cX12_billNow 67 = .ok (.iload 5, 2) := by decide +kernel
theorem dX12_billNow_69 : decode cX12_billNow 69 = .ok (.iload 6, 2) := by decide +kernel
theorem dX12_billNow_71 : decode cX12_billNow 71 = .ok (.invokestatic 308, 3) := by decide +kernel
theorem dX12_billNow_74 : decode cX12_billNow 74 = .ok (.ifCond .eq 17, 3) := by decide +kernel
theorem dX12_billNow_77 : decode cX12_billNow 77 = .ok (.aload_n 0, 1) := by decide +kernel
theorem dX12_billNow_78 : decode cX12_billNow 78 = .ok (.iload_n 1, 1) := by decide +kernel
theorem dX12_billNow_79 : decode cX12_billNow 79 = .ok (.iload 6, 2) := by decide +kernel
theorem dX12_billNow_81 : decode cX12_billNow 81 = .ok (.aload_n 0, 1) := by decide +kernel
theorem dX12_billNow_82 : decode cX12_billNow 82 = .ok (.invokevirtual 256, 3) := by decide +kernel
theorem dX12_billNow_85 : decode cX12_billNow 85 = .ok (.invokevirtual 333, 3) := by decide +kernel
theorem dX12_billNow_88 : decode cX12_billNow 88 = .ok (.goto 4, 3) := by decide +kernel
theorem dX12_billNow_91 : decode cX12_billNow 91 = .ok (.iconst 0, 1) := by decide +kernel
theorem dX12_billNow_92 : decode cX12_billNow 92 = .ok (.iastore, 1) := by decide +kernel
theorem dX12_billNow_93 : decode cX12_billNow 93 = .ok (.iinc 6 1, 3) := by decide +kernel
theorem dX12_billNow_96 : decode cX12_billNow 96 = .ok (.goto (-46), 3) := by decide +kernel
theorem dX12_billNow_99 : decode cX12_billNow 99 = .ok (.aload_n 0, 1) := by decide +kernel
theorem dX12_billNow_100 : decode cX12_billNow 100 = .ok (.getfield 17, 3) := by decide +kernel
theorem dX12_billNow_103 : decode cX12_billNow 103 = .ok (.iload_n 3, 1) := by decide +kernel
theorem dX12_billNow_104 : decode cX12_billNow 104 = .ok (.bipush 6, 2) := by decide +kernel
theorem dX12_billNow_106 : decode cX12_billNow 106 = .ok (.iadd, 1) := by decide +kernel
theorem dX12_billNow_107 : decode cX12_billNow 107 = .ok (.iconst 3, 1) := by decide +kernel
theorem dX12_billNow_108 : decode cX12_billNow 108 = .ok (.iadd, 1) := by decide +kernel
theorem dX12_billNow_109 : decode cX12_billNow 109 = .ok (.aload_n 0, 1) := by decide +kernel
theorem dX12_billNow_110 : decode cX12_billNow 110 = .ok (.iload 4, 2) := by decide +kernel
theorem dX12_billNow_112 : decode cX12_billNow 112 = .ok (.aload_n 0, 1) := by decide +kernel
theorem dX12_billNow_113 : decode cX12_billNow 113 = .ok (.invokevirtual 256, 3) := by decide +kernel
theorem dX12_billNow_116 : decode cX12_billNow 116 = .ok (.invokevirtual 330, 3) := by decide +kernel
theorem dX12_billNow_119 : decode cX12_billNow 119 = .ok (.iastore, 1) := by decide +kernel
theorem dX12_billNow_120 : decode cX12_billNow 120 = .ok (.aload_n 0, 1) := by decide +kernel
theorem dX12_billNow_121 : decode cX12_billNow 121 = .ok (.getfield 17, 3) := by decide +kernel
theorem dX12_billNow_124 : decode cX12_billNow 124 = .ok (.iload_n 3, 1) := by decide +kernel
theorem dX12_billNow_125 : decode cX12_billNow 125 = .ok (.iconst 0, 1) := by decide +kernel
theorem dX12_billNow_126 : decode cX12_billNow 126 = .ok (.iadd, 1) := by decide +kernel
theorem dX12_billNow_127 : decode cX12_billNow 127 = .ok (.iload_n 1, 1) := by decide +kernel
theorem dX12_billNow_128 : decode cX12_billNow 128 = .ok (.iastore, 1) := by decide +kernel
theorem dX12_billNow_129 : decode cX12_billNow 129 = .ok (.aload_n 0, 1) := by decide +kernel
theorem dX12_billNow_130 : decode cX12_billNow 130 = .ok (.getfield 17, 3) := by decide +kernel
theorem dX12_billNow_133 : decode cX12_billNow 133 = .ok (.iload_n 3, 1) := by decide +kernel
theorem dX12_billNow_134 : decode cX12_billNow 134 = .ok (.iconst 1, 1) := by decide +kernel
theorem dX12_billNow_135 : decode cX12_billNow 135 = .ok (.iadd, 1) := by decide +kernel
theorem dX12_billNow_136 : decode cX12_billNow 136 = .ok (.aload_n 0, 1) := by decide +kernel
theorem dX12_billNow_137 : decode cX12_billNow 137 = .ok (.getfield 17, 3) := by decide +kernel
theorem dX12_billNow_140 : decode cX12_billNow 140 = .ok (.iconst 5, 1) := by decide +kernel
theorem dX12_billNow_141 : decode cX12_billNow 141 = .ok (.iaload, 1) := by decide +kernel
theorem dX12_billNow_142 : decode cX12_billNow 142 = .ok (.iastore, 1) := by decide +kernel
theorem dX12_billNow_143 : decode cX12_billNow 143 = .ok (.aload_n 0, 1) := by decide +kernel
theorem dX12_billNow_144 : decode cX12_billNow 144 = .ok (.getfield 17, 3) := by decide +kernel
theorem dX12_billNow_147 : decode cX12_billNow 147 = .ok (.iload_n 3, 1) := by decide +kernel
theorem dX12_billNow_148 : decode cX12_billNow 148 = .ok (.iconst 2, 1) := by decide +kernel
theorem dX12_billNow_149 : decode cX12_billNow 149 = .ok (.iadd, 1) := by decide +kernel
theorem dX12_billNow_150 : decode cX12_billNow 150 = .ok (.aload_n 0, 1) := by decide +kernel
theorem dX12_billNow_151 : decode cX12_billNow 151 = .ok (.invokevirtual 256, 3) := by decide +kernel
theorem dX12_billNow_154 : decode cX12_billNow 154 = .ok (.iastore, 1) := by decide +kernel
theorem dX12_billNow_155 : decode cX12_billNow 155 = .ok (.aload_n 0, 1) := by decide +kernel
theorem dX12_billNow_156 : decode cX12_billNow 156 = .ok (.getfield 17, 3) := by decide +kernel
theorem dX12_billNow_159 : decode cX12_billNow 159 = .ok (.iload_n 3, 1) := by decide +kernel
theorem dX12_billNow_160 : decode cX12_billNow 160 = .ok (.iconst 3, 1) := by decide +kernel
theorem dX12_billNow_161 : decode cX12_billNow 161 = .ok (.iadd, 1) := by decide +kernel
theorem dX12_billNow_162 : decode cX12_billNow 162 = .ok (.iload 5, 2) := by decide +kernel
theorem dX12_billNow_164 : decode cX12_billNow 164 = .ok (.iastore, 1) := by decide +kernel
theorem dX12_billNow_165 : decode cX12_billNow 165 = .ok (.aload_n 0, 1) := by decide +kernel
theorem dX12_billNow_166 : decode cX12_billNow 166 = .ok (.getfield 17, 3) := by decide +kernel
theorem dX12_billNow_169 : decode cX12_billNow 169 = .ok (.iload_n 3, 1) := by decide +kernel
theorem dX12_billNow_170 : decode cX12_billNow 170 = .ok (.iconst 4, 1) := by decide +kernel
theorem dX12_billNow_171 : decode cX12_billNow 171 = .ok (.iadd, 1) := by decide +kernel
theorem dX12_billNow_172 : decode cX12_billNow 172 = .ok (.iconst 0, 1) := by decide +kernel
theorem dX12_billNow_173 : decode cX12_billNow 173 = .ok (.iastore, 1) := by decide +kernel
theorem dX12_billNow_174 : decode cX12_billNow 174 = .ok (.aload_n 0, 1) := by decide +kernel
theorem dX12_billNow_175 : decode cX12_billNow 175 = .ok (.getfield 17, 3) := by decide +kernel
theorem dX12_billNow_178 : decode cX12_billNow 178 = .ok (.iload_n 3, 1) := by decide +kernel
theorem dX12_billNow_179 : decode cX12_billNow 179 = .ok (.iconst 5, 1) := by decide +kernel
theorem dX12_billNow_180 : decode cX12_billNow 180 = .ok (.iadd, 1) := by decide +kernel
theorem dX12_billNow_181 : decode cX12_billNow 181 = .ok (.iload 4, 2) := by decide +kernel
theorem dX12_billNow_183 : decode cX12_billNow 183 = .ok (.iastore, 1) := by decide +kernel
theorem dX12_billNow_184 : decode cX12_billNow 184 = .ok (.aload_n 0, 1) := by decide +kernel
theorem dX12_billNow_185 : decode cX12_billNow 185 = .ok (.getfield 17, 3) := by decide +kernel
theorem dX12_billNow_188 : decode cX12_billNow 188 = .ok (.iconst 2, 1) := by decide +kernel
theorem dX12_billNow_189 : decode cX12_billNow 189 = .ok (.dup2, 1) := by decide +kernel
theorem dX12_billNow_190 : decode cX12_billNow 190 = .ok (.iaload, 1) := by decide +kernel
theorem dX12_billNow_191 : decode cX12_billNow 191 = .ok (.iconst 1, 1) := by decide +kernel
theorem dX12_billNow_192 : decode cX12_billNow 192 = .ok (.iadd, 1) := by decide +kernel
theorem dX12_billNow_193 : decode cX12_billNow 193 = .ok (.iastore, 1) := by decide +kernel
theorem dX12_billNow_194 : decode cX12_billNow 194 = .ok (.iload_n 2, 1) := by decide +kernel
theorem dX12_billNow_195 : decode cX12_billNow 195 = .ok (.ireturn, 1) := by decide +kernel
theorem dX12_bill_0 : decode cX12_bill 0 = .ok (.aload_n 0, 1) := by decide +kernel
theorem dX12_bill_1 : decode cX12_bill 1 = .ok (.aload_n 0, 1) := by decide +kernel
theorem dX12_bill_2 : decode cX12_bill 2 = .ok (.iload_n 1, 1) := by decide +kernel
theorem dX12_bill_3 : decode cX12_bill 3 = .ok (.invokevirtual 345, 3) := by decide +kernel
theorem dX12_bill_6 : decode cX12_bill 6 = .ok (.aload_n 0, 1) := by decide +kernel
theorem dX12_bill_7 : decode cX12_bill 7 = .ok (.iload_n 1, 1) := by decide +kernel
theorem dX12_bill_8 : decode cX12_bill 8 = .ok (.invokevirtual 345, 3) := by decide +kernel
theorem dX12_bill_11 : decode cX12_bill 11 = .ok (.ifCond .eq 11, 3) := by decide +kernel
theorem dX12_bill_14 : decode cX12_bill 14 = .ok (.aload_n 0, 1) := by decide +kernel
theorem dX12_bill_15 : decode cX12_bill 15 = .ok (.iload_n 1, 1) := by decide +kernel
theorem dX12_bill_16 : decode cX12_bill 16 = .ok (.invokevirtual 417, 3) := by decide +kernel
theorem dX12_bill_19 : decode cX12_bill 19 = .ok (.ifCond .eq 7, 3) := by decide +kernel
theorem dX12_bill_22 : decode cX12_bill 22 = .ok (.iconst 1, 1) := by decide +kernel
theorem dX12_bill_23 : decode cX12_bill 23 = .ok (.goto 4, 3) := by decide +kernel
theorem dX12_bill_26 : decode cX12_bill 26 = .ok (.iconst 0, 1) := by decide +kernel
theorem dX12_bill_27 : decode cX12_bill 27 = .ok (.invokevirtual 263, 3) := by decide +kernel
theorem dX12_bill_30 : decode cX12_bill 30 = .ok (.ifCond .ne 5, 3) := by decide +kernel
theorem dX12_bill_33 : decode cX12_bill 33 = .ok (.iconst 0, 1) := by decide +kernel
theorem dX12_bill_34 : decode cX12_bill 34 = .ok (.ireturn, 1) := by decide +kernel
theorem dX12_bill_35 : decode cX12_bill 35 = .ok (.aload_n 0, 1) := by decide +kernel
theorem dX12_bill_36 : decode cX12_bill 36 = .ok (.invokevirtual 231, 3) := by decide +kernel
theorem dX12_bill_39 : decode cX12_bill 39 = .ok (.aload_n 0, 1) := by decide +kernel
theorem dX12_bill_40 : decode cX12_bill 40 = .ok (.iload_n 1, 1) := by decide +kernel
theorem dX12_bill_41 : decode cX12_bill 41 = .ok (.invokevirtual 420, 3) := by decide +kernel
theorem dX12_bill_44 : decode cX12_bill 44 = .ok (.ireturn, 1) := by decide +kernel
theorem dX12_billAll_0 : decode cX12_billAll 0 = .ok (.aload_n 0, 1) := by decide +kernel
theorem dX12_billAll_1 : decode cX12_billAll 1 = .ok (.aload_n 0, 1) := by decide +kernel
theorem dX12_billAll_2 : decode cX12_billAll 2 = .ok (.iload_n 1, 1) := by decide +kernel
theorem dX12_billAll_3 : decode cX12_billAll 3 = .ok (.invokevirtual 282, 3) := by decide +kernel
theorem dX12_billAll_6 : decode cX12_billAll 6 = .ok (.invokevirtual 62, 3) := by decide +kernel
theorem dX12_billAll_9 : decode cX12_billAll 9 = .ok (.ifCond .ne 5, 3) := by decide +kernel
theorem dX12_billAll_12 : decode cX12_billAll 12 = .ok (.iconst 0, 1) := by decide +kernel
theorem dX12_billAll_13 : decode cX12_billAll 13 = .ok (.ireturn, 1) := by decide +kernel
theorem dX12_billAll_14 : decode cX12_billAll 14 = .ok (.aload_n 0, 1) := by decide +kernel
theorem dX12_billAll_15 : decode cX12_billAll 15 = .ok (.invokevirtual 231, 3) := by decide +kernel
theorem dX12_billAll_18 : decode cX12_billAll 18 = .ok (.aload_n 0, 1) := by decide +kernel
theorem dX12_billAll_19 : decode cX12_billAll 19 = .ok (.getfield 17, 3) := by decide +kernel
theorem dX12_billAll_22 : decode cX12_billAll 22 = .ok (.iconst 2, 1) := by decide +kernel
theorem dX12_billAll_23 : decode cX12_billAll 23 = .ok (.iaload, 1) := by decide +kernel
theorem dX12_billAll_24 : decode cX12_billAll 24 = .ok (.istore_n 2, 1) := by decide +kernel
theorem dX12_billAll_25 : decode cX12_billAll 25 = .ok (.iconst 0, 1) := by decide +kernel
theorem dX12_billAll_26 : decode cX12_billAll 26 = .ok (.istore_n 3, 1) := by decide +kernel
theorem dX12_billAll_27 : decode cX12_billAll 27 = .ok (.iload_n 3, 1) := by decide +kernel
theorem dX12_billAll_28 : decode cX12_billAll 28 = .ok (.aload_n 0, 1) := by decide +kernel
theorem dX12_billAll_29 : decode cX12_billAll 29 = .ok (.getfield 17, 3) := by decide +kernel
theorem dX12_billAll_32 : decode cX12_billAll 32 = .ok (.iconst 1, 1) := by decide +kernel
theorem dX12_billAll_33 : decode cX12_billAll 33 = .ok (.iaload, 1) := by decide +kernel
theorem dX12_billAll_34 : decode cX12_billAll 34 = .ok (.if_icmp .ge 37, 3) := by decide +kernel
theorem dX12_billAll_37 : decode cX12_billAll 37 = .ok (.aload_n 0, 1) := by decide +kernel
theorem dX12_billAll_38 : decode cX12_billAll 38 = .ok (.iload_n 3, 1) := by decide +kernel
theorem dX12_billAll_39 : decode cX12_billAll 39 = .ok (.iconst 0, 1) := by decide +kernel
theorem dX12_billAll_40 : decode cX12_billAll 40 = .ok (.invokevirtual 248, 3) := by decide +kernel
theorem dX12_billAll_43 : decode cX12_billAll 43 = .ok (.iload_n 1, 1) := by decide +kernel
theorem dX12_billAll_44 : decode cX12_billAll 44 = .ok (.if_icmp .ne 21, 3) := by decide +kernel
theorem dX12_billAll_47 : decode cX12_billAll 47 = .ok (.aload_n 0, 1) := by decide +kernel
theorem dX12_billAll_48 : decode cX12_billAll 48 = .ok (.iload_n 3, 1) := by decide +kernel
theorem dX12_billAll_49 : decode cX12_billAll 49 = .ok (.invokevirtual 417, 3) := by decide +kernel
theorem dX12_billAll_52 : decode cX12_billAll 52 = .ok (.ifCond .ne 6, 3) := by decide +kernel
theorem dX12_billAll_55 : decode cX12_billAll 55 = .ok (.goto 10, 3) := by decide +kernel
theorem dX12_billAll_58 : decode cX12_billAll 58 = .ok (.aload_n 0, 1) := by decide +kernel
theorem dX12_billAll_59 : decode cX12_billAll 59 = .ok (.iload_n 3, 1) := by decide +kernel
theorem dX12_billAll_60 : decode cX12_billAll 60 = .ok (.invokevirtual 420, 3) := by decide +kernel
theorem dX12_billAll_63 : decode cX12_billAll 63 = .ok (.istore 4, 2) := by decide +kernel
theorem dX12_billAll_65 : decode cX12_billAll 65 = .ok (.iinc 3 1, 3) := by decide +kernel
theorem dX12_billAll_68 : decode cX12_billAll 68 = .ok (.goto (-41), 3) := by decide +kernel
theorem dX12_billAll_71 : decode cX12_billAll 71 = .ok (.aload_n 0, 1) := by decide +kernel
theorem dX12_billAll_72 : decode cX12_billAll 72 = .ok (.getfield 17, 3) := by decide +kernel
theorem dX12_billAll_75 : decode cX12_billAll 75 = .ok (.iconst 2, 1) := by decide +kernel
theorem dX12_billAll_76 : decode cX12_billAll 76 = .ok (.iaload, 1) := by decide +kernel
theorem dX12_billAll_77 : decode cX12_billAll 77 = .ok (.iload_n 2, 1) := by decide +kernel
theorem dX12_billAll_78 : decode cX12_billAll 78 = .ok (.isub, 1) := by decide +kernel
theorem dX12_billAll_79 : decode cX12_billAll 79 = .ok (.ireturn, 1) := by decide +kernel
theorem dX12_credit_0 : decode cX12_credit 0 = .ok (.aload_n 0, 1) := by decide +kernel
theorem dX12_credit_1 : decode cX12_credit 1 = .ok (.iload_n 1, 1) := by decide +kernel
theorem dX12_credit_2 : decode cX12_credit 2 = .ok (.invokevirtual 380, 3) := by decide +kernel
theorem dX12_credit_5 : decode cX12_credit 5 = .ok (.istore_n 3, 1) := by decide +kernel
theorem dX12_credit_6 : decode cX12_credit 6 = .ok (.aload_n 0, 1) := by decide +kernel
theorem dX12_credit_7 : decode cX12_credit 7 = .ok (.iload_n 3, 1) := by decide +kernel
theorem dX12_credit_8 : decode cX12_credit 8 = .ok (.iload_n 2, 1) := by decide +kernel
theorem dX12_credit_9 : decode cX12_credit 9 = .ok (.i2l, 1) := by decide +kernel
theorem dX12_credit_10 : decode cX12_credit 10 = .ok (.lconst 1, 1) := by decide +kernel
theorem dX12_credit_11 : decode cX12_credit 11 = .ok (.ldc2_w 423, 3) := by decide +kernel
theorem dX12_credit_14 : decode cX12_credit 14 = .ok (.invokestatic 47, 3) := by decide +kernel
theorem dX12_credit_17 : decode cX12_credit 17 = .ok (.iload_n 3, 1) := by decide +kernel
theorem dX12_credit_18 : decode cX12_credit 18 = .ok (.ifCond .eq 30, 3) := by decide +kernel
theorem dX12_credit_21 : decode cX12_credit 21 = .ok (.iload_n 2, 1) := by decide +kernel
theorem dX12_credit_22 : decode cX12_credit 22 = .ok (.aload_n 0, 1) := by decide +kernel
theorem dX12_credit_23 : decode cX12_credit 23 = .ok (.iload_n 1, 1) := by decide +kernel
theorem dX12_credit_24 : decode cX12_credit 24 = .ok (.invokevirtual 362, 3) := by decide +kernel
theorem dX12_credit_27 : decode cX12_credit 27 = .ok (.iconst (-1), 1) := by decide +kernel
theorem dX12_credit_28 : decode cX12_credit 28 = .ok (.ixor, 1) := by decide +kernel
theorem dX12_credit_29 : decode cX12_credit 29 = .ok (.iand, 1) := by decide +kernel
theorem dX12_credit_30 : decode cX12_credit 30 = .ok (.ifCond .ne 18, 3) := by decide +kernel
theorem dX12_credit_33 : decode cX12_credit 33 = .ok (.aload_n 0, 1) := by decide +kernel
theorem dX12_credit_34 : decode cX12_credit 34 = .ok (.getfield 17, 3) := by decide +kernel
theorem dX12_credit_37 : decode cX12_credit 37 = .ok (.iconst 3, 1) := by decide +kernel
theorem dX12_credit_38 : decode cX12_credit 38 = .ok (.iaload, 1) := by decide +kernel
theorem dX12_credit_39 : decode cX12_credit 39 = .ok (.bipush 40, 2) := by decide +kernel
theorem dX12_credit_41 : decode cX12_credit 41 = .ok (.if_icmp .ge 7, 3) := by decide +kernel
theorem dX12_credit_44 : decode cX12_credit 44 = .ok (.iconst 1, 1) := by decide +kernel
theorem dX12_credit_45 : decode cX12_credit 45 = .ok (.goto 4, 3) := by decide +kernel
theorem dX12_credit_48 : decode cX12_credit 48 = .ok (.iconst 0, 1) := by decide +kernel
theorem dX12_credit_49 : decode cX12_credit 49 = .ok (.invokevirtual 7, 3) := by decide +kernel
theorem dX12_credit_52 : decode cX12_credit 52 = .ok (.ifCond .ne 5, 3) := by decide +kernel
theorem dX12_credit_55 : decode cX12_credit 55 = .ok (.iconst 0, 1) := by decide +kernel
theorem dX12_credit_56 : decode cX12_credit 56 = .ok (.ireturn, 1) := by decide +kernel
theorem dX12_credit_57 : decode cX12_credit 57 = .ok (.aload_n 0, 1) := by decide +kernel
theorem dX12_credit_58 : decode cX12_credit 58 = .ok (.invokevirtual 231, 3) := by decide +kernel
theorem dX12_credit_61 : decode cX12_credit 61 = .ok (.iconst 0, 1) := by decide +kernel
theorem dX12_credit_62 : decode cX12_credit 62 = .ok (.istore 4, 2) := by decide +kernel
theorem dX12_credit_64 : decode cX12_credit 64 = .ok (.iconst 0, 1) := by decide +kernel
theorem dX12_credit_65 : decode cX12_credit 65 = .ok (.istore 5, 2) := by decide +kernel
theorem dX12_credit_67 : decode cX12_credit 67 = .ok (.iload 5, 2) := by decide +kernel
theorem dX12_credit_69 : decode cX12_credit 69 = .ok (.iconst 4, 1) := by decide +kernel
theorem dX12_credit_70 : decode cX12_credit 70 = .ok (.if_icmp .ge 34, 3) := by decide +kernel
theorem dX12_credit_73 : decode cX12_credit 73 = .ok (.iload 4, 2) := by decide +kernel
theorem dX12_credit_75 : decode cX12_credit 75 = .ok (.iload_n 2, 1) := by decide +kernel
theorem dX12_credit_76 : decode cX12_credit 76 = .ok (.iload 5, 2) := by decide +kernel
theorem dX12_credit_78 : decode cX12_credit 78 = .ok (.invokestatic 308, 3) := by decide +kernel
theorem dX12_credit_81 : decode cX12_credit 81 = .ok (.ifCond .eq 13, 3) := by decide +kernel
theorem dX12_credit_84 : decode cX12_credit 84 = .ok (.aload_n 0, 1) := by decide +kernel
theorem dX12_credit_85 : decode cX12_credit 85 = .ok (.iload_n 1, 1) := by decide +kernel
theorem dX12_credit_86 : decode cX12_credit 86 = .ok (.iload 5, 2) := by decide +kernel
theorem dX12_credit_88 : decode cX12_credit 88 = .ok (.invokevirtual 365, 3) := by decide +kernel
theorem dX12_credit_91 : decode cX12_credit 91 = .ok (.goto 4, 3) := by decide +kernel
theorem dX12_credit_94 : decode cX12_credit 94 = .ok (.iconst 0, 1) := by decide +kernel
theorem dX12_credit_95 : decode cX12_credit 95 = .ok (.iadd, 1) := by decide +kernel
theorem dX12_credit_96 : decode cX12_credit 96 = .ok (.istore 4, 2) := by decide +kernel
theorem dX12_credit_98 : decode cX12_credit 98 = .ok (.iinc 5 1, 3) := by decide +kernel
theorem dX12_credit_101 : decode cX12_credit 101 = .ok (.goto (-34), 3) := by decide +kernel
theorem dX12_credit_104 : decode cX12_credit 104 = .ok (.aload_n 0, 1) := by decide +kernel
theorem dX12_credit_105 : decode cX12_credit 105 = .ok (.getfield 17, 3) := by decide +kernel
theorem dX12_credit_108 : decode cX12_credit 108 = .ok (.iconst 3, 1) := by decide +kernel
theorem dX12_credit_109 : decode cX12_credit 109 = .ok (.iaload, 1) := by decide +kernel
theorem dX12_credit_110 : decode cX12_credit 110 = .ok (.istore 5, 2) := by decide +kernel
theorem dX12_credit_112 : decode cX12_credit 112 = .ok (.sipush 1217, 3) := by decide +kernel
theorem dX12_credit_115 : decode cX12_credit 115 = .ok (.iconst 4, 1) := by decide +kernel
theorem dX12_credit_116 : decode cX12_credit 116 = .ok (.iload 5, 2) := by decide +kernel
theorem dX12_credit_118 : decode cX12_credit 118 = .ok (.imul, 1) := by decide +kernel
theorem dX12_credit_119 : decode cX12_credit 119 = .ok (.iadd, 1) := by decide +kernel
theorem dX12_credit_120 : decode cX12_credit 120 = .ok (.istore 6, 2) := by decide +kernel
theorem dX12_credit_122 : decode cX12_credit 122 = .ok (.aload_n 0, 1) := by decide +kernel
theorem dX12_credit_123 : decode cX12_credit 123 = .ok (.getfield 17, 3) := by decide +kernel
theorem dX12_credit_126 : decode cX12_credit 126 = .ok (.iload 6, 2) := by decide +kernel
theorem dX12_credit_128 : decode cX12_credit 128 = .ok (.iconst 0, 1) := by decide +kernel
theorem dX12_credit_129 : decode cX12_credit 129 = .ok (.iadd, 1) := by decide +kernel
theorem dX12_credit_130 : decode cX12_credit 130 = .ok (.iload_n 1, 1) := by decide +kernel
theorem dX12_credit_131 : decode cX12_credit 131 = .ok (.iastore, 1) := by decide +kernel
theorem dX12_credit_132 : decode cX12_credit 132 = .ok (.aload_n 0, 1) := by decide +kernel
theorem dX12_credit_133 : decode cX12_credit 133 = .ok (.getfield 17, 3) := by decide +kernel
theorem dX12_credit_136 : decode cX12_credit 136 = .ok (.iload 6, 2) := by decide +kernel
theorem dX12_credit_138 : decode cX12_credit 138 = .ok (.iconst 1, 1) := by decide +kernel
theorem dX12_credit_139 : decode cX12_credit 139 = .ok (.iadd, 1) := by decide +kernel
theorem dX12_credit_140 : decode cX12_credit 140 = .ok (.iload_n 2, 1) := by decide +kernel
theorem dX12_credit_141 : decode cX12_credit 141 = .ok (.iastore, 1) := by decide +kernel
theorem dX12_credit_142 : decode cX12_credit 142 = .ok (.aload_n 0, 1) := by decide +kernel
theorem dX12_credit_143 : decode cX12_credit 143 = .ok (.getfield 17, 3) := by decide +kernel
theorem dX12_credit_146 : decode cX12_credit 146 = .ok (.iload 6, 2) := by decide +kernel
theorem dX12_credit_148 : decode cX12_credit 148 = .ok (.iconst 2, 1) := by decide +kernel
theorem dX12_credit_149 : decode cX12_credit 149 = .ok (.iadd, 1) := by decide +kernel
theorem dX12_credit_150 : decode cX12_credit 150 = .ok (.aload_n 0, 1) := by decide +kernel
theorem dX12_credit_151 : decode cX12_credit 151 = .ok (.getfield 17, 3) := by decide +kernel
theorem dX12_credit_154 : decode cX12_credit 154 = .ok (.iconst 5, 1) := by decide +kernel
theorem dX12_credit_155 : decode cX12_credit 155 = .ok (.iaload, 1) := by decide +kernel
theorem dX12_credit_156 : decode cX12_credit 156 = .ok (.iastore, 1) := by decide +kernel
theorem dX12_credit_157 : decode cX12_credit 157 = .ok (.aload_n 0, 1) := by decide +kernel
theorem dX12_credit_158 : decode cX12_credit 158 = .ok (.getfield 17, 3) := by decide +kernel
theorem dX12_credit_161 : decode cX12_credit 161 = .ok (.iload 6, 2) := by decide +kernel
theorem dX12_credit_163 : decode cX12_credit 163 = .ok (.iconst 3, 1) := by decide +kernel
theorem dX12_credit_164 : decode cX12_credit 164 = .ok (.iadd, 1) := by decide +kernel
theorem dX12_credit_165 : decode cX12_credit 165 = .ok (.iload 4, 2) := by decide +kernel
theorem dX12_credit_167 : decode cX12_credit 167 = .ok (.ineg, 1) := by decide +kernel
theorem dX12_credit_168 : decode cX12_credit 168 = .ok (.iastore, 1) := by decide +kernel
theorem dX12_credit_169 : decode cX12_credit 169 = .ok (.aload_n 0, 1) := by decide +kernel
theorem dX12_credit_170 : decode cX12_credit 170 = .ok (.getfield 17, 3) := by decide +kernel
theorem dX12_credit_173 : decode cX12_credit 173 = .ok (.sipush 617, 3) := by decide +kernel
theorem dX12_credit_176 : decode cX12_credit 176 = .ok (.bipush 10, 2) := by decide +kernel
theorem dX12_credit_178 : decode cX12_credit 178 = .ok (.iload_n 1, 1) := by decide +kernel
theorem dX12_credit_179 : decode cX12_credit 179 = .ok (.imul, 1) := by decide +kernel
theorem dX12_credit_180 : decode cX12_credit 180 = .ok (.iadd, 1) := by decide +kernel
theorem dX12_credit_181 : decode cX12_credit 181 = .ok (.iconst 4, 1) := by decide +kernel
theorem dX12_credit_182 : decode cX12_credit 182 = .ok (.iadd, 1) := by decide +kernel
theorem dX12_credit_183 : decode cX12_credit 183 = .ok (.dup2, 1) := by decide +kernel
theorem dX12_credit_184 : decode cX12_credit 184 = .ok (.iaload, 1) := by decide +kernel
theorem dX12_credit_185 : decode cX12_credit 185 = .ok (.iload_n 2, 1) := by decide +kernel
theorem dX12_credit_186 : decode cX12_credit 186 = .ok (.ior, 1) := by decide +kernel
theorem dX12_credit_187 : decode cX12_credit 187 = .ok (.iastore, 1) := by decide +kernel
theorem dX12_credit_188 : decode cX12_credit 188 = .ok (.aload_n 0, 1) := by decide +kernel
theorem dX12_credit_189 : decode cX12_credit 189 = .ok (.getfield 17, 3) := by decide +kernel
theorem dX12_credit_192 : decode cX12_credit 192 = .ok (.iconst 3, 1) := by decide +kernel
theorem dX12_credit_193 : decode cX12_credit 193 = .ok (.dup2, 1) := by decide +kernel
theorem dX12_credit_194 : decode cX12_credit 194 = .ok (.iaload, 1) := by decide +kernel
theorem dX12_credit_195 : decode cX12_credit 195 = .ok (.iconst 1, 1) := by decide +kernel
theorem dX12_credit_196 : decode cX12_credit 196 = .ok (.iadd, 1) := by decide +kernel
theorem dX12_credit_197 : decode cX12_credit 197 = .ok (.iastore, 1) := by decide +kernel
theorem dX12_credit_198 : decode cX12_credit 198 = .ok (.iload 5, 2) := by decide +kernel
theorem dX12_credit_200 : decode cX12_credit 200 = .ok (.ireturn, 1) := by decide +kernel
theorem dX12_isDayIn_0 : decode cX12_isDayIn 0 = .ok (.iload_n 2, 1) := by decide +kernel
theorem dX12_isDayIn_1 : decode cX12_isDayIn 1 = .ok (.i2l, 1) := by decide +kernel
theorem dX12_isDayIn_2 : decode cX12_isDayIn 2 = .ok (.lconst 0, 1) := by decide +kernel
theorem dX12_isDayIn_3 : decode cX12_isDayIn 3 = .ok (.ldc2_w 425, 3) := by decide +kernel
theorem dX12_isDayIn_6 : decode cX12_isDayIn 6 = .ok (.invokestatic 47, 3) := by decide +kernel
theorem dX12_isDayIn_9 : decode cX12_isDayIn 9 = .ok (.ifCond .eq 15, 3) := by decide +kernel
theorem dX12_isDayIn_12 : decode cX12_isDayIn 12 = .ok (.iload_n 1, 1) := by decide +kernel
theorem dX12_isDayIn_13 : decode cX12_isDayIn 13 = .ok (.iload_n 2, 1) := by decide +kernel
theorem dX12_isDayIn_14 : decode cX12_isDayIn 14 = .ok (.invokestatic 308, 3) := by decide +kernel
theorem dX12_isDayIn_17 : decode cX12_isDayIn 17 = .ok (.ifCond .eq 7, 3) := by decide +kernel
theorem dX12_isDayIn_20 : decode cX12_isDayIn 20 = .ok (.iconst 1, 1) := by decide +kernel
theorem dX12_isDayIn_21 : decode cX12_isDayIn 21 = .ok (.goto 4, 3) := by decide +kernel
theorem dX12_isDayIn_24 : decode cX12_isDayIn 24 = .ok (.iconst 0, 1) := by decide +kernel
theorem dX12_isDayIn_25 : decode cX12_isDayIn 25 = .ok (.ireturn, 1) := by decide +kernel
theorem dX12_dispute_0 : decode cX12_dispute 0 = .ok (.aload_n 0, 1) := by decide +kernel
theorem dX12_dispute_1 : decode cX12_dispute 1 = .ok (.iload_n 1, 1) := by decide +kernel
theorem dX12_dispute_2 : decode cX12_dispute 2 = .ok (.invokevirtual 345, 3) := by decide +kernel
theorem dX12_dispute_5 : decode cX12_dispute 5 = .ok (.istore_n 3, 1) := by decide +kernel
theorem dX12_dispute_6 : decode cX12_dispute 6 = .ok (.iload_n 3, 1) := by decide +kernel
theorem dX12_dispute_7 : decode cX12_dispute 7 = .ok (.ifCond .eq 20, 3) := by decide +kernel
theorem dX12_dispute_10 : decode cX12_dispute 10 = .ok (.aload_n 0, 1) := by decide +kernel
theorem dX12_dispute_11 : decode cX12_dispute 11 = .ok (.aload_n 0, 1) := by decide +kernel
theorem dX12_dispute_12 : decode cX12_dispute 12 = .ok (.iload_n 1, 1) := by decide +kernel
theorem dX12_dispute_13 : decode cX12_dispute 13 = .ok (.invokevirtual 311, 3) := by decide +kernel
theorem dX12_dispute_16 : decode cX12_dispute 16 = .ok (.iload_n 2, 1) := by decide +kernel
theorem dX12_dispute_17 : decode cX12_dispute 17 = .ok (.invokevirtual 427, 3) := by decide +kernel
theorem dX12_dispute_20 : decode cX12_dispute 20 = .ok (.ifCond .eq 7, 3) := by decide +kernel
theorem dX12_dispute_23 : decode cX12_dispute 23 = .ok (.iconst 1, 1) := by decide +kernel
theorem dX12_dispute_24 : decode cX12_dispute 24 = .ok (.goto 4, 3) := by decide +kernel
theorem dX12_dispute_27 : decode cX12_dispute 27 = .ok (.iconst 0, 1) := by decide +kernel
theorem dX12_dispute_28 : decode cX12_dispute 28 = .ok (.istore 4, 2) := by decide +kernel
theorem dX12_dispute_30 : decode cX12_dispute 30 = .ok (.aload_n 0, 1) := by decide +kernel
theorem dX12_dispute_31 : decode cX12_dispute 31 = .ok (.iload_n 3, 1) := by decide +kernel
theorem dX12_dispute_32 : decode cX12_dispute 32 = .ok (.iload 4, 2) := by decide +kernel
theorem dX12_dispute_34 : decode cX12_dispute 34 = .ok (.iload 4, 2) := by decide +kernel
theorem dX12_dispute_36 : decode cX12_dispute 36 = .ok (.ifCond .eq 28, 3) := by decide +kernel
theorem dX12_dispute_39 : decode cX12_dispute 39 = .ok (.aload_n 0, 1) := by decide +kernel
theorem dX12_dispute_40 : decode cX12_dispute 40 = .ok (.iload_n 1, 1) := by decide +kernel
theorem dX12_dispute_41 : decode cX12_dispute 41 = .ok (.invokevirtual 317, 3) := by decide +kernel
theorem dX12_dispute_44 : decode cX12_dispute 44 = .ok (.iload_n 2, 1) := by decide +kernel
theorem dX12_dispute_45 : decode cX12_dispute 45 = .ok (.invokestatic 308, 3) := by decide +kernel
theorem dX12_dispute_48 : decode cX12_dispute 48 = .ok (.ifCond .ne 16, 3) := by decide +kernel
theorem dX12_dispute_51 : decode cX12_dispute 51 = .ok (.aload_n 0, 1) := by decide +kernel
theorem dX12_dispute_52 : decode cX12_dispute 52 = .ok (.iload_n 1, 1) := by decide +kernel
theorem dX12_dispute_53 : decode cX12_dispute 53 = .ok (.iconst 4, 1) := by decide +kernel
theorem dX12_dispute_54 : decode cX12_dispute 54 = .ok (.invokevirtual 248, 3) := by decide +kernel
theorem dX12_dispute_57 : decode cX12_dispute 57 = .ok (.ifCond .ne 7, 3) := by decide +kernel
theorem dX12_dispute_60 : decode cX12_dispute 60 = .ok (.iconst 1, 1) := by decide +kernel
theorem dX12_dispute_61 : decode cX12_dispute 61 = .ok (.goto 4, 3) := by decide +kernel
theorem dX12_dispute_64 : decode cX12_dispute 64 = .ok (.iconst 0, 1) := by decide +kernel
theorem dX12_dispute_65 : decode cX12_dispute 65 = .ok (.invokevirtual 7, 3) := by decide +kernel
theorem dX12_dispute_68 : decode cX12_dispute 68 = .ok (.ifCond .ne 5, 3) := by decide +kernel
theorem dX12_dispute_71 : decode cX12_dispute 71 = .ok (.iconst 0, 1) := by decide +kernel
theorem dX12_dispute_72 : decode cX12_dispute 72 = .ok (.ireturn, 1) := by decide +kernel
theorem dX12_dispute_73 : decode cX12_dispute 73 = .ok (.aload_n 0, 1) := by decide +kernel
theorem dX12_dispute_74 : decode cX12_dispute 74 = .ok (.invokevirtual 231, 3) := by decide +kernel
theorem dX12_dispute_77 : decode cX12_dispute 77 = .ok (.aload_n 0, 1) := by decide +kernel
theorem dX12_dispute_78 : decode cX12_dispute 78 = .ok (.iload_n 1, 1) := by decide +kernel
theorem dX12_dispute_79 : decode cX12_dispute 79 = .ok (.iconst 5, 1) := by decide +kernel
theorem dX12_dispute_80 : decode cX12_dispute 80 = .ok (.aload_n 0, 1) := by decide +kernel
theorem dX12_dispute_81 : decode cX12_dispute 81 = .ok (.iload_n 1, 1) := by decide +kernel
theorem dX12_dispute_82 : decode cX12_dispute 82 = .ok (.iconst 5, 1) := by decide +kernel
theorem dX12_dispute_83 : decode cX12_dispute 83 = .ok (.invokevirtual 248, 3) := by decide +kernel
theorem dX12_dispute_86 : decode cX12_dispute 86 = .ok (.iconst 1, 1) := by decide +kernel
theorem dX12_dispute_87 : decode cX12_dispute 87 = .ok (.iload_n 2, 1) := by decide +kernel
theorem dX12_dispute_88 : decode cX12_dispute 88 = .ok (.ishl, 1) := by decide +kernel
theorem dX12_dispute_89 : decode cX12_dispute 89 = .ok (.ior, 1) := by decide +kernel
theorem dX12_dispute_90 : decode cX12_dispute 90 = .ok (.invokevirtual 401, 3) := by decide +kernel
theorem dX12_dispute_93 : decode cX12_dispute 93 = .ok (.aload_n 0, 1) := by decide +kernel
theorem dX12_dispute_94 : decode cX12_dispute 94 = .ok (.iload_n 1, 1) := by decide +kernel
theorem dX12_dispute_95 : decode cX12_dispute 95 = .ok (.iconst 5, 1) := by decide +kernel
theorem dX12_dispute_96 : decode cX12_dispute 96 = .ok (.invokevirtual 248, 3) := by decide +kernel
theorem dX12_dispute_99 : decode cX12_dispute 99 = .ok (.invokestatic 251, 3) := by decide +kernel
theorem dX12_dispute_102 : decode cX12_dispute 102 = .ok (.ireturn, 1) := by decide +kernel
theorem dX12_settle_0 : decode cX12_settle 0 = .ok (.aload_n 0, 1) := by decide +kernel
theorem dX12_settle_1 : decode cX12_settle 1 = .ok (.aload_n 0, 1) := by decide +kernel
theorem dX12_settle_2 : decode cX12_settle 2 = .ok (.iload_n 1, 1) := by decide +kernel
theorem dX12_settle_3 : decode cX12_settle 3 = .ok (.invokevirtual 345, 3) := by decide +kernel
theorem dX12_settle_6 : decode cX12_settle 6 = .ok (.aload_n 0, 1) := by decide +kernel
theorem dX12_settle_7 : decode cX12_settle 7 = .ok (.iload_n 1, 1) := by decide +kernel
theorem dX12_settle_8 : decode cX12_settle 8 = .ok (.invokevirtual 345, 3) := by decide +kernel
theorem dX12_settle_11 : decode cX12_settle 11 = .ok (.ifCond .eq 17, 3) := by decide +kernel
theorem dX12_settle_14 : decode cX12_settle 14 = .ok (.aload_n 0, 1) := by decide +kernel
theorem dX12_settle_15 : decode cX12_settle 15 = .ok (.aload_n 0, 1) := by decide +kernel
theorem dX12_settle_16 : decode cX12_settle 16 = .ok (.iload_n 1, 1) := by decide +kernel
theorem dX12_settle_17 : decode cX12_settle 17 = .ok (.iconst 5, 1) := by decide +kernel
theorem dX12_settle_18 : decode cX12_settle 18 = .ok (.invokevirtual 248, 3) := by decide +kernel
theorem dX12_settle_21 : decode cX12_settle 21 = .ok (.iload_n 2, 1) := by decide +kernel
theorem dX12_settle_22 : decode cX12_settle 22 = .ok (.invokevirtual 427, 3) := by decide +kernel
theorem dX12_settle_25 : decode cX12_settle 25 = .ok (.ifCond .eq 7, 3) := by decide +kernel
theorem dX12_settle_28 : decode cX12_settle 28 = .ok (.iconst 1, 1) := by decide +kernel
theorem dX12_settle_29 : decode cX12_settle 29 = .ok (.goto 4, 3) := by decide +kernel
theorem dX12_settle_32 : decode cX12_settle 32 = .ok (.iconst 0, 1) := by decide +kernel
theorem dX12_settle_33 : decode cX12_settle 33 = .ok (.invokevirtual 263, 3) := by decide +kernel
theorem dX12_settle_36 : decode cX12_settle 36 = .ok (.ifCond .ne 5, 3) := by decide +kernel
theorem dX12_settle_39 : decode cX12_settle 39 = .ok (.iconst 0, 1) := by decide +kernel
theorem dX12_settle_40 : decode cX12_settle 40 = .ok (.ireturn, 1) := by decide +kernel
theorem dX12_settle_41 : decode cX12_settle 41 = .ok (.aload_n 0, 1) := by decide +kernel
theorem dX12_settle_42 : decode cX12_settle 42 = .ok (.invokevirtual 231, 3) := by decide +kernel
theorem dX12_settle_45 : decode cX12_settle 45 = .ok (.aload_n 0, 1) := by decide +kernel
theorem dX12_settle_46 : decode cX12_settle 46 = .ok (.iload_n 1, 1) := by decide +kernel
theorem dX12_settle_47 : decode cX12_settle 47 = .ok (.iconst 5, 1) := by decide +kernel
theorem dX12_settle_48 : decode cX12_settle 48 = .ok (.aload_n 0, 1) := by decide +kernel
theorem dX12_settle_49 : decode cX12_settle 49 = .ok (.iload_n 1, 1) := by decide +kernel
theorem dX12_settle_50 : decode cX12_settle 50 = .ok (.iconst 5, 1) := by decide +kernel
theorem dX12_settle_51 : decode cX12_settle 51 = .ok (.invokevirtual 248, 3) := by decide +kernel
theorem dX12_settle_54 : decode cX12_settle 54 = .ok (.iconst 1, 1) := by decide +kernel
theorem dX12_settle_55 : decode cX12_settle 55 = .ok (.iload_n 2, 1) := by decide +kernel
theorem dX12_settle_56 : decode cX12_settle 56 = .ok (.ishl, 1) := by decide +kernel
theorem dX12_settle_57 : decode cX12_settle 57 = .ok (.iconst (-1), 1) := by decide +kernel
theorem dX12_settle_58 : decode cX12_settle 58 = .ok (.ixor, 1) := by decide +kernel
theorem dX12_settle_59 : decode cX12_settle 59 = .ok (.iand, 1) := by decide +kernel
theorem dX12_settle_60 : decode cX12_settle 60 = .ok (.invokevirtual 401, 3) := by decide +kernel
theorem dX12_settle_63 : decode cX12_settle 63 = .ok (.iload_n 3, 1) := by decide +kernel
theorem dX12_settle_64 : decode cX12_settle 64 = .ok (.ifCond .eq 21, 3) := by decide +kernel
theorem dX12_settle_67 : decode cX12_settle 67 = .ok (.aload_n 0, 1) := by decide +kernel
theorem dX12_settle_68 : decode cX12_settle 68 = .ok (.iload_n 1, 1) := by decide +kernel
theorem dX12_settle_69 : decode cX12_settle 69 = .ok (.bipush 6, 2) := by decide +kernel
theorem dX12_settle_71 : decode cX12_settle 71 = .ok (.aload_n 0, 1) := by decide +kernel
theorem dX12_settle_72 : decode cX12_settle 72 = .ok (.iload_n 1, 1) := by decide +kernel
theorem dX12_settle_73 : decode cX12_settle 73 = .ok (.bipush 6, 2) := by decide +kernel
theorem dX12_settle_75 : decode cX12_settle 75 = .ok (.invokevirtual 248, 3) := by decide +kernel
theorem dX12_settle_78 : decode cX12_settle 78 = .ok (.iconst 1, 1) := by decide +kernel
theorem dX12_settle_79 : decode cX12_settle 79 = .ok (.iload_n 2, 1) := by decide +kernel
theorem dX12_settle_80 : decode cX12_settle 80 = .ok (.ishl, 1) := by decide +kernel
theorem dX12_settle_81 : decode cX12_settle 81 = .ok (.ior, 1) := by decide +kernel
theorem dX12_settle_82 : decode cX12_settle 82 = .ok (.invokevirtual 401, 3) := by decide +kernel
theorem dX12_settle_85 : decode cX12_settle 85 = .ok (.aload_n 0, 1) := by decide +kernel
theorem dX12_settle_86 : decode cX12_settle 86 = .ok (.iload_n 1, 1) := by decide +kernel
theorem dX12_settle_87 : decode cX12_settle 87 = .ok (.iconst 5, 1) := by decide +kernel
theorem dX12_settle_88 : decode cX12_settle 88 = .ok (.invokevirtual 248, 3) := by decide +kernel
theorem dX12_settle_91 : decode cX12_settle 91 = .ok (.invokestatic 251, 3) := by decide +kernel
theorem dX12_settle_94 : decode cX12_settle 94 = .ok (.ireturn, 1) := by decide +kernel
theorem dX12_pay_0 : decode cX12_pay 0 = .ok (.aload_n 0, 1) := by decide +kernel
theorem dX12_pay_1 : decode cX12_pay 1 = .ok (.aload_n 0, 1) := by decide +kernel
theorem dX12_pay_2 : decode cX12_pay 2 = .ok (.iload_n 1, 1) := by decide +kernel
theorem dX12_pay_3 : decode cX12_pay 3 = .ok (.invokevirtual 282, 3) := by decide +kernel
theorem dX12_pay_6 : decode cX12_pay 6 = .ok (.iload_n 2, 1) := by decide +kernel
theorem dX12_pay_7 : decode cX12_pay 7 = .ok (.i2l, 1) := by decide +kernel
theorem dX12_pay_8 : decode cX12_pay 8 = .ok (.lconst 1, 1) := by decide +kernel
theorem dX12_pay_9 : decode cX12_pay 9 = .ok (.ldc2_w 430, 3) := by decide +kernel
theorem dX12_pay_12 : decode cX12_pay 12 = .ok (.invokestatic 47, 3) := by decide +kernel
theorem dX12_pay_15 : decode cX12_pay 15 = .ok (.invokevirtual 263, 3) := by decide +kernel
theorem dX12_pay_18 : decode cX12_pay 18 = .ok (.ifCond .ne 5, 3) := by decide +kernel
theorem dX12_pay_21 : decode cX12_pay 21 = .ok (.lconst 0, 1) := by decide +kernel
theorem dX12_pay_22 : decode cX12_pay 22 = .ok (.lreturn, 1) := by decide +kernel
theorem dX12_pay_23 : decode cX12_pay 23 = .ok (.aload_n 0, 1) := by decide +kernel
theorem dX12_pay_24 : decode cX12_pay 24 = .ok (.invokevirtual 231, 3) := by decide +kernel
theorem dX12_pay_27 : decode cX12_pay 27 = .ok (.aload_n 0, 1) := by decide +kernel
theorem dX12_pay_28 : decode cX12_pay 28 = .ok (.getfield 27, 3) := by decide +kernel
theorem dX12_pay_31 : decode cX12_pay 31 = .ok (.iload_n 1, 1) := by decide +kernel
theorem dX12_pay_32 : decode cX12_pay 32 = .ok (.dup2, 1) := by decide +kernel
theorem dX12_pay_33 : decode cX12_pay 33 = .ok (.laload, 1) := by decide +kernel
theorem dX12_pay_34 : decode cX12_pay 34 = .ok (.iload_n 2, 1) := by decide +kernel
theorem dX12_pay_35 : decode cX12_pay 35 = .ok (.i2l, 1) := by decide +kernel
theorem dX12_pay_36 : decode cX12_pay 36 = .ok (.ladd, 1) := by decide +kernel
theorem dX12_pay_37 : decode cX12_pay 37 = .ok (.lastore, 1) := by decide +kernel
theorem dX12_pay_38 : decode cX12_pay 38 = .ok (.aload_n 0, 1) := by decide +kernel
theorem dX12_pay_39 : decode cX12_pay 39 = .ok (.getfield 27, 3) := by decide +kernel
theorem dX12_pay_42 : decode cX12_pay 42 = .ok (.iload_n 1, 1) := by decide +kernel
theorem dX12_pay_43 : decode cX12_pay 43 = .ok (.laload, 1) := by decide +kernel
theorem dX12_pay_44 : decode cX12_pay 44 = .ok (.lreturn, 1) := by decide +kernel
theorem dX12_advance_0 : decode cX12_advance 0 = .ok (.aload_n 0, 1) := by decide +kernel
theorem dX12_advance_1 : decode cX12_advance 1 = .ok (.iload_n 1, 1) := by decide +kernel
theorem dX12_advance_2 : decode cX12_advance 2 = .ok (.i2l, 1) := by decide +kernel
theorem dX12_advance_3 : decode cX12_advance 3 = .ok (.lconst 1, 1) := by decide +kernel
theorem dX12_advance_4 : decode cX12_advance 4 = .ok (.ldc2_w 432, 3) := by decide +kernel
theorem dX12_advance_7 : decode cX12_advance 7 = .ok (.invokestatic 47, 3) := by decide +kernel
theorem dX12_advance_10 : decode cX12_advance 10 = .ok (.iload_n 1, 1) := by decide +kernel
theorem dX12_advance_11 : decode cX12_advance 11 = .ok (.i2l, 1) := by decide +kernel
theorem dX12_advance_12 : decode cX12_advance 12 = .ok (.lconst 1, 1) := by decide +kernel
theorem dX12_advance_13 : decode cX12_advance 13 = .ok (.ldc2_w 432, 3) := by decide +kernel
theorem dX12_advance_16 : decode cX12_advance 16 = .ok (.invokestatic 47, 3) := by decide +kernel
theorem dX12_advance_19 : decode cX12_advance 19 = .ok (.ifCond .eq 16, 3) := by decide +kernel
theorem dX12_advance_22 : decode cX12_advance 22 = .ok (.aload_n 0, 1) := by decide +kernel
theorem dX12_advance_23 : decode cX12_advance 23 = .ok (.getfield 17, 3) := by decide +kernel
theorem dX12_advance_26 : decode cX12_advance 26 = .ok (.iconst 5, 1) := by decide +kernel
theorem dX12_advance_27 : decode cX12_advance 27 = .ok (.iaload, 1) := by decide +kernel
theorem dX12_advance_28 : decode cX12_advance 28 = .ok (.iload_n 1, 1) := by decide +kernel
theorem dX12_advance_29 : decode cX12_advance 29 = .ok (.iadd, 1) := by decide +kernel
theorem dX12_advance_30 : decode cX12_advance 30 = .ok (.ldc 104, 2) := by decide +kernel
theorem dX12_advance_32 : decode cX12_advance 32 = .ok (.if_icmp .gt 7, 3) := by decide +kernel
theorem dX12_advance_35 : decode cX12_advance 35 = .ok (.iconst 1, 1) := by decide +kernel
theorem dX12_advance_36 : decode cX12_advance 36 = .ok (.goto 4, 3) := by decide +kernel
theorem dX12_advance_39 : decode cX12_advance 39 = .ok (.iconst 0, 1) := by decide +kernel
theorem dX12_advance_40 : decode cX12_advance 40 = .ok (.invokevirtual 263, 3) := by decide +kernel
theorem dX12_advance_43 : decode cX12_advance 43 = .ok (.ifCond .ne 5, 3) := by decide +kernel
theorem dX12_advance_46 : decode cX12_advance 46 = .ok (.iconst 0, 1) := by decide +kernel
theorem dX12_advance_47 : decode cX12_advance 47 = .ok (.ireturn, 1) := by decide +kernel
theorem dX12_advance_48 : decode cX12_advance 48 = .ok (.aload_n 0, 1) := by decide +kernel
theorem dX12_advance_49 : decode cX12_advance 49 = .ok (.invokevirtual 231, 3) := by decide +kernel
theorem dX12_advance_52 : decode cX12_advance 52 = .ok (.aload_n 0, 1) := by decide +kernel
theorem dX12_advance_53 : decode cX12_advance 53 = .ok (.getfield 17, 3) := by decide +kernel
theorem dX12_advance_56 : decode cX12_advance 56 = .ok (.iconst 5, 1) := by decide +kernel
theorem dX12_advance_57 : decode cX12_advance 57 = .ok (.dup2, 1) := by decide +kernel
theorem dX12_advance_58 : decode cX12_advance 58 = .ok (.iaload, 1) := by decide +kernel
theorem dX12_advance_59 : decode cX12_advance 59 = .ok (.iload_n 1, 1) := by decide +kernel
theorem dX12_advance_60 : decode cX12_advance 60 = .ok (.iadd, 1) := by decide +kernel
theorem dX12_advance_61 : decode cX12_advance 61 = .ok (.iastore, 1) := by decide +kernel
theorem dX12_advance_62 : decode cX12_advance 62 = .ok (.aload_n 0, 1) := by decide +kernel
theorem dX12_advance_63 : decode cX12_advance 63 = .ok (.getfield 17, 3) := by decide +kernel
theorem dX12_advance_66 : decode cX12_advance 66 = .ok (.iconst 5, 1) := by decide +kernel
theorem dX12_advance_67 : decode cX12_advance 67 = .ok (.iaload, 1) := by decide +kernel
theorem dX12_advance_68 : decode cX12_advance 68 = .ok (.ireturn, 1) := by decide +kernel
theorem dX12_canChange_0 : decode cX12_canChange 0 = .ok (.aload_n 0, 1) := by decide +kernel
theorem dX12_canChange_1 : decode cX12_canChange 1 = .ok (.invokevirtual 256, 3) := by decide +kernel
theorem dX12_canChange_4 : decode cX12_canChange 4 = .ok (.bipush 20, 2) := by decide +kernel
theorem dX12_canChange_6 : decode cX12_canChange 6 = .ok (.if_icmp .ge 7, 3) := by decide +kernel
theorem dX12_canChange_9 : decode cX12_canChange 9 = .ok (.iconst 1, 1) := by decide +kernel
theorem dX12_canChange_10 : decode cX12_canChange 10 = .ok (.goto 4, 3) := by decide +kernel
theorem dX12_canChange_13 : decode cX12_canChange 13 = .ok (.iconst 0, 1) := by decide +kernel
theorem dX12_canChange_14 : decode cX12_canChange 14 = .ok (.ireturn, 1) := by decide +kernel
theorem dX12_newVersion_0 : decode cX12_newVersion 0 = .ok (.aload_n 0, 1) := by decide +kernel
theorem dX12_newVersion_1 : decode cX12_newVersion 1 = .ok (.invokevirtual 231, 3) := by decide +kernel
theorem dX12_newVersion_4 : decode cX12_newVersion 4 = .ok (.bipush 22, 2) := by decide +kernel
theorem dX12_newVersion_6 : decode cX12_newVersion 6 = .ok (.bipush 12, 2) := by decide +kernel
theorem dX12_newVersion_8 : decode cX12_newVersion 8 = .ok (.aload_n 0, 1) := by decide +kernel
theorem dX12_newVersion_9 : decode cX12_newVersion 9 = .ok (.invokevirtual 256, 3) := by decide +kernel
theorem dX12_newVersion_12 : decode cX12_newVersion 12 = .ok (.imul, 1) := by decide +kernel
theorem dX12_newVersion_13 : decode cX12_newVersion 13 = .ok (.iadd, 1) := by decide +kernel
theorem dX12_newVersion_14 : decode cX12_newVersion 14 = .ok (.istore_n 1, 1) := by decide +kernel
theorem dX12_newVersion_15 : decode cX12_newVersion 15 = .ok (.iconst 0, 1) := by decide +kernel
theorem dX12_newVersion_16 : decode cX12_newVersion 16 = .ok (.istore_n 2, 1) := by decide +kernel
theorem dX12_newVersion_17 : decode cX12_newVersion 17 = .ok (.iload_n 2, 1) := by decide +kernel
theorem dX12_newVersion_18 : decode cX12_newVersion 18 = .ok (.bipush 12, 2) := by decide +kernel
theorem dX12_newVersion_20 : decode cX12_newVersion 20 = .ok (.if_icmp .ge 28, 3) := by decide +kernel
theorem dX12_newVersion_23 : decode cX12_newVersion 23 = .ok (.aload_n 0, 1) := by decide +kernel
theorem dX12_newVersion_24 : decode cX12_newVersion 24 = .ok (.getfield 17, 3) := by decide +kernel
theorem dX12_newVersion_27 : decode cX12_newVersion 27 = .ok (.iload_n 1, 1) := by decide +kernel
theorem dX12_newVersion_28 : decode cX12_newVersion 28 = .ok (.bipush 12, 2) := by decide +kernel
theorem dX12_newVersion_30 : decode cX12_newVersion 30 = .ok (.iadd, 1) := by decide +kernel
theorem dX12_newVersion_31 : decode cX12_newVersion 31 = .ok (.iload_n 2, 1) := by decide +kernel
theorem dX12_newVersion_32 : decode cX12_newVersion 32 = .ok (.iadd, 1) := by decide +kernel
theorem dX12_newVersion_33 : decode cX12_newVersion 33 = .ok (.aload_n 0, 1) := by decide +kernel
theorem dX12_newVersion_34 : decode cX12_newVersion 34 = .ok (.getfield 17, 3) := by decide +kernel
theorem dX12_newVersion_37 : decode cX12_newVersion 37 = .ok (.iload_n 1, 1) := by decide +kernel
theorem dX12_newVersion_38 : decode cX12_newVersion 38 = .ok (.iload_n 2, 1) := by decide +kernel
theorem dX12_newVersion_39 : decode cX12_newVersion 39 = .ok (.iadd, 1) := by decide +kernel
theorem dX12_newVersion_40 : decode cX12_newVersion 40 = .ok (.iaload, 1) := by decide +kernel
theorem dX12_newVersion_41 : decode cX12_newVersion 41 = .ok (.iastore, 1) := by decide +kernel
theorem dX12_newVersion_42 : decode cX12_newVersion 42 = .ok (.iinc 2 1, 3) := by decide +kernel
theorem dX12_newVersion_45 : decode cX12_newVersion 45 = .ok (.goto (-28), 3) := by decide +kernel
theorem dX12_newVersion_48 : decode cX12_newVersion 48 = .ok (.aload_n 0, 1) := by decide +kernel
theorem dX12_newVersion_49 : decode cX12_newVersion 49 = .ok (.getfield 17, 3) := by decide +kernel
theorem dX12_newVersion_52 : decode cX12_newVersion 52 = .ok (.iconst 4, 1) := by decide +kernel
theorem dX12_newVersion_53 : decode cX12_newVersion 53 = .ok (.dup2, 1) := by decide +kernel
theorem dX12_newVersion_54 : decode cX12_newVersion 54 = .ok (.iaload, 1) := by decide +kernel
theorem dX12_newVersion_55 : decode cX12_newVersion 55 = .ok (.iconst 1, 1) := by decide +kernel
theorem dX12_newVersion_56 : decode cX12_newVersion 56 = .ok (.iadd, 1) := by decide +kernel
theorem dX12_newVersion_57 : decode cX12_newVersion 57 = .ok (.iastore, 1) := by decide +kernel
theorem dX12_newVersion_58 : decode cX12_newVersion 58 = .ok (.iload_n 1, 1) := by decide +kernel
theorem dX12_newVersion_59 : decode cX12_newVersion 59 = .ok (.bipush 12, 2) := by decide +kernel
theorem dX12_newVersion_61 : decode cX12_newVersion 61 = .ok (.iadd, 1) := by decide +kernel
theorem dX12_newVersion_62 : decode cX12_newVersion 62 = .ok (.ireturn, 1) := by decide +kernel
theorem dX12_setRate_0 : decode cX12_setRate 0 = .ok (.aload_n 0, 1) := by decide +kernel
theorem dX12_setRate_1 : decode cX12_setRate 1 = .ok (.aload_n 0, 1) := by decide +kernel
theorem dX12_setRate_2 : decode cX12_setRate 2 = .ok (.iload_n 1, 1) := by decide +kernel
theorem dX12_setRate_3 : decode cX12_setRate 3 = .ok (.invokevirtual 259, 3) := by decide +kernel
theorem dX12_setRate_6 : decode cX12_setRate 6 = .ok (.iload_n 2, 1) := by decide +kernel
theorem dX12_setRate_7 : decode cX12_setRate 7 = .ok (.i2l, 1) := by decide +kernel
theorem dX12_setRate_8 : decode cX12_setRate 8 = .ok (.lconst 0, 1) := by decide +kernel
theorem dX12_setRate_9 : decode cX12_setRate 9 = .ok (.ldc2_w 53, 3) := by decide +kernel
theorem dX12_setRate_12 : decode cX12_setRate 12 = .ok (.invokestatic 47, 3) := by decide +kernel
theorem dX12_setRate_15 : decode cX12_setRate 15 = .ok (.aload_n 0, 1) := by decide +kernel
theorem dX12_setRate_16 : decode cX12_setRate 16 = .ok (.invokevirtual 434, 3) := by decide +kernel
theorem dX12_setRate_19 : decode cX12_setRate 19 = .ok (.invokevirtual 7, 3) := by decide +kernel
theorem dX12_setRate_22 : decode cX12_setRate 22 = .ok (.ifCond .ne 5, 3) := by decide +kernel
theorem dX12_setRate_25 : decode cX12_setRate 25 = .ok (.iconst 0, 1) := by decide +kernel
theorem dX12_setRate_26 : decode cX12_setRate 26 = .ok (.ireturn, 1) := by decide +kernel
theorem dX12_setRate_27 : decode cX12_setRate 27 = .ok (.aload_n 0, 1) := by decide +kernel
theorem dX12_setRate_28 : decode cX12_setRate 28 = .ok (.invokevirtual 437, 3) := by decide +kernel
theorem dX12_setRate_31 : decode cX12_setRate 31 = .ok (.istore_n 3, 1) := by decide +kernel
theorem dX12_setRate_32 : decode cX12_setRate 32 = .ok (.aload_n 0, 1) := by decide +kernel
theorem dX12_setRate_33 : decode cX12_setRate 33 = .ok (.getfield 17, 3) := by decide +kernel
theorem dX12_setRate_36 : decode cX12_setRate 36 = .ok (.iload_n 3, 1) := by decide +kernel
theorem dX12_setRate_37 : decode cX12_setRate 37 = .ok (.iconst 0, 1) := by decide +kernel
theorem dX12_setRate_38 : decode cX12_setRate 38 = .ok (.iadd, 1) := by decide +kernel
theorem dX12_setRate_39 : decode cX12_setRate 39 = .ok (.iload_n 1, 1) := by decide +kernel
theorem dX12_setRate_40 : decode cX12_setRate 40 = .ok (.iadd, 1) := by decide +kernel
theorem dX12_setRate_41 : decode cX12_setRate 41 = .ok (.iload_n 2, 1) := by decide +kernel
theorem dX12_setRate_42 : decode cX12_setRate 42 = .ok (.iastore, 1) := by decide +kernel
theorem dX12_setRate_43 : decode cX12_setRate 43 = .ok (.aload_n 0, 1) := by decide +kernel
theorem dX12_setRate_44 : decode cX12_setRate 44 = .ok (.invokevirtual 256, 3) := by decide +kernel
theorem dX12_setRate_47 : decode cX12_setRate 47 = .ok (.ireturn, 1) := by decide +kernel
theorem dX12_setPercent_0 : decode cX12_setPercent 0 = .ok (.aload_n 0, 1) := by decide +kernel
theorem dX12_setPercent_1 : decode cX12_setPercent 1 = .ok (.aload_n 0, 1) := by decide +kernel
theorem dX12_setPercent_2 : decode cX12_setPercent 2 = .ok (.iload_n 1, 1) := by decide +kernel
theorem dX12_setPercent_3 : decode cX12_setPercent 3 = .ok (.invokevirtual 267, 3) := by decide +kernel
theorem dX12_setPercent_6 : decode cX12_setPercent 6 = .ok (.iload_n 2, 1) := by decide +kernel
theorem dX12_setPercent_7 : decode cX12_setPercent 7 = .ok (.i2l, 1) := by decide +kernel
theorem dX12_setPercent_8 : decode cX12_setPercent 8 = .ok (.lconst 0, 1) := by decide +kernel
theorem dX12_setPercent_9 : decode cX12_setPercent 9 = .ok (.ldc2_w 440, 3) := by decide +kernel
theorem dX12_setPercent_12 : decode cX12_setPercent 12 = .ok (.invokestatic 47, 3) := by decide +kernel
theorem dX12_setPercent_15 : decode cX12_setPercent 15 = .ok (.aload_n 0, 1) := by decide +kernel
theorem dX12_setPercent_16 : decode cX12_setPercent 16 = .ok (.invokevirtual 434, 3) := by decide +kernel
theorem dX12_setPercent_19 : decode cX12_setPercent 19 = .ok (.invokevirtual 7, 3) := by decide +kernel
theorem dX12_setPercent_22 : decode cX12_setPercent 22 = .ok (.ifCond .ne 5, 3) := by decide +kernel
theorem dX12_setPercent_25 : decode cX12_setPercent 25 = .ok (.iconst 0, 1) := by decide +kernel
theorem dX12_setPercent_26 : decode cX12_setPercent 26 = .ok (.ireturn, 1) := by decide +kernel
theorem dX12_setPercent_27 : decode cX12_setPercent 27 = .ok (.aload_n 0, 1) := by decide +kernel
theorem dX12_setPercent_28 : decode cX12_setPercent 28 = .ok (.invokevirtual 437, 3) := by decide +kernel
theorem dX12_setPercent_31 : decode cX12_setPercent 31 = .ok (.istore_n 3, 1) := by decide +kernel
theorem dX12_setPercent_32 : decode cX12_setPercent 32 = .ok (.aload_n 0, 1) := by decide +kernel
theorem dX12_setPercent_33 : decode cX12_setPercent 33 = .ok (.getfield 17, 3) := by decide +kernel
theorem dX12_setPercent_36 : decode cX12_setPercent 36 = .ok (.iload_n 3, 1) := by decide +kernel
theorem dX12_setPercent_37 : decode cX12_setPercent 37 = .ok (.bipush 6, 2) := by decide +kernel
theorem dX12_setPercent_39 : decode cX12_setPercent 39 = .ok (.iadd, 1) := by decide +kernel
theorem dX12_setPercent_40 : decode cX12_setPercent 40 = .ok (.iload_n 1, 1) := by decide +kernel
theorem dX12_setPercent_41 : decode cX12_setPercent 41 = .ok (.iadd, 1) := by decide +kernel
theorem dX12_setPercent_42 : decode cX12_setPercent 42 = .ok (.iload_n 2, 1) := by decide +kernel
theorem dX12_setPercent_43 : decode cX12_setPercent 43 = .ok (.iastore, 1) := by decide +kernel
theorem dX12_setPercent_44 : decode cX12_setPercent 44 = .ok (.aload_n 0, 1) := by decide +kernel
theorem dX12_setPercent_45 : decode cX12_setPercent 45 = .ok (.invokevirtual 256, 3) := by decide +kernel
theorem dX12_setPercent_48 : decode cX12_setPercent 48 = .ok (.ireturn, 1) := by decide +kernel
theorem dX12_setLay_0 : decode cX12_setLay 0 = .ok (.aload_n 0, 1) := by decide +kernel
theorem dX12_setLay_1 : decode cX12_setLay 1 = .ok (.iload_n 1, 1) := by decide +kernel
theorem dX12_setLay_2 : decode cX12_setLay 2 = .ok (.i2l, 1) := by decide +kernel
theorem dX12_setLay_3 : decode cX12_setLay 3 = .ok (.lconst 0, 1) := by decide +kernel
theorem dX12_setLay_4 : decode cX12_setLay 4 = .ok (.ldc2_w 405, 3) := by decide +kernel
theorem dX12_setLay_7 : decode cX12_setLay 7 = .ok (.invokestatic 47, 3) := by decide +kernel
theorem dX12_setLay_10 : decode cX12_setLay 10 = .ok (.ifCond .eq 19, 3) := by decide +kernel
theorem dX12_setLay_13 : decode cX12_setLay 13 = .ok (.iload_n 2, 1) := by decide +kernel
theorem dX12_setLay_14 : decode cX12_setLay 14 = .ok (.i2l, 1) := by decide +kernel
theorem dX12_setLay_15 : decode cX12_setLay 15 = .ok (.lconst 0, 1) := by decide +kernel
theorem dX12_setLay_16 : decode cX12_setLay 16 = .ok (.ldc2_w 51, 3) := by decide +kernel
theorem dX12_setLay_19 : decode cX12_setLay 19 = .ok (.invokestatic 47, 3) := by decide +kernel
theorem dX12_setLay_22 : decode cX12_setLay 22 = .ok (.ifCond .eq 7, 3) := by decide +kernel
theorem dX12_setLay_25 : decode cX12_setLay 25 = .ok (.iconst 1, 1) := by decide +kernel
theorem dX12_setLay_26 : decode cX12_setLay 26 = .ok (.goto 4, 3) := by decide +kernel
theorem dX12_setLay_29 : decode cX12_setLay 29 = .ok (.iconst 0, 1) := by decide +kernel
theorem dX12_setLay_30 : decode cX12_setLay 30 = .ok (.aload_n 0, 1) := by decide +kernel
theorem dX12_setLay_31 : decode cX12_setLay 31 = .ok (.invokevirtual 434, 3) := by decide +kernel
theorem dX12_setLay_34 : decode cX12_setLay 34 = .ok (.invokevirtual 263, 3) := by decide +kernel
theorem dX12_setLay_37 : decode cX12_setLay 37 = .ok (.ifCond .ne 5, 3) := by decide +kernel
theorem dX12_setLay_40 : decode cX12_setLay 40 = .ok (.iconst 0, 1) := by decide +kernel
theorem dX12_setLay_41 : decode cX12_setLay 41 = .ok (.ireturn, 1) := by decide +kernel
theorem dX12_setLay_42 : decode cX12_setLay 42 = .ok (.aload_n 0, 1) := by decide +kernel
theorem dX12_setLay_43 : decode cX12_setLay 43 = .ok (.invokevirtual 437, 3) := by decide +kernel
theorem dX12_setLay_46 : decode cX12_setLay 46 = .ok (.istore_n 3, 1) := by decide +kernel
theorem dX12_setLay_47 : decode cX12_setLay 47 = .ok (.aload_n 0, 1) := by decide +kernel
theorem dX12_setLay_48 : decode cX12_setLay 48 = .ok (.getfield 17, 3) := by decide +kernel
theorem dX12_setLay_51 : decode cX12_setLay 51 = .ok (.iload_n 3, 1) := by decide +kernel
theorem dX12_setLay_52 : decode cX12_setLay 52 = .ok (.bipush 10, 2) := by decide +kernel
theorem dX12_setLay_54 : decode cX12_setLay 54 = .ok (.iadd, 1) := by decide +kernel
theorem dX12_setLay_55 : decode cX12_setLay 55 = .ok (.iload_n 1, 1) := by decide +kernel
theorem dX12_setLay_56 : decode cX12_setLay 56 = .ok (.iastore, 1) := by decide +kernel
theorem dX12_setLay_57 : decode cX12_setLay 57 = .ok (.aload_n 0, 1) := by decide +kernel
theorem dX12_setLay_58 : decode cX12_setLay 58 = .ok (.getfield 17, 3) := by decide +kernel
theorem dX12_setLay_61 : decode cX12_setLay 61 = .ok (.iload_n 3, 1) := by decide +kernel
theorem dX12_setLay_62 : decode cX12_setLay 62 = .ok (.bipush 11, 2) := by decide +kernel
theorem dX12_setLay_64 : decode cX12_setLay 64 = .ok (.iadd, 1) := by decide +kernel
theorem dX12_setLay_65 : decode cX12_setLay 65 = .ok (.iload_n 2, 1) := by decide +kernel
theorem dX12_setLay_66 : decode cX12_setLay 66 = .ok (.iastore, 1) := by decide +kernel
theorem dX12_setLay_67 : decode cX12_setLay 67 = .ok (.aload_n 0, 1) := by decide +kernel
theorem dX12_setLay_68 : decode cX12_setLay 68 = .ok (.invokevirtual 256, 3) := by decide +kernel
theorem dX12_setLay_71 : decode cX12_setLay 71 = .ok (.ireturn, 1) := by decide +kernel
theorem dX12_remember_0 : decode cX12_remember 0 = .ok (.aload_n 0, 1) := by decide +kernel
theorem dX12_remember_1 : decode cX12_remember 1 = .ok (.getfield 442, 3) := by decide +kernel
theorem dX12_remember_4 : decode cX12_remember 4 = .ok (.bipush 6, 2) := by decide +kernel
theorem dX12_remember_6 : decode cX12_remember 6 = .ok (.if_icmp .ne 76, 3) := by decide +kernel
theorem dX12_remember_9 : decode cX12_remember 9 = .ok (.sipush 1377, 3) := by decide +kernel
theorem dX12_remember_12 : decode cX12_remember 12 = .ok (.istore_n 1, 1) := by decide +kernel
theorem dX12_remember_13 : decode cX12_remember 13 = .ok (.iload_n 1, 1) := by decide +kernel
theorem dX12_remember_14 : decode cX12_remember 14 = .ok (.sipush 8262, 3) := by decide +kernel
theorem dX12_remember_17 : decode cX12_remember 17 = .ok (.if_icmp .ge 25, 3) := by decide +kernel
theorem dX12_remember_20 : decode cX12_remember 20 = .ok (.aload_n 0, 1) := by decide +kernel
theorem dX12_remember_21 : decode cX12_remember 21 = .ok (.getfield 38, 3) := by decide +kernel
theorem dX12_remember_24 : decode cX12_remember 24 = .ok (.iload_n 1, 1) := by decide +kernel
theorem dX12_remember_25 : decode cX12_remember 25 = .ok (.sipush 1377, 3) := by decide +kernel
theorem dX12_remember_28 : decode cX12_remember 28 = .ok (.isub, 1) := by decide +kernel
theorem dX12_remember_29 : decode cX12_remember 29 = .ok (.aload_n 0, 1) := by decide +kernel
theorem dX12_remember_30 : decode cX12_remember 30 = .ok (.getfield 38, 3) := by decide +kernel
theorem dX12_remember_33 : decode cX12_remember 33 = .ok (.iload_n 1, 1) := by decide +kernel
theorem dX12_remember_34 : decode cX12_remember 34 = .ok (.iaload, 1) := by decide +kernel
theorem dX12_remember_35 : decode cX12_remember 35 = .ok (.iastore, 1) := by decide +kernel
theorem dX12_remember_36 : decode cX12_remember 36 = .ok (.iinc 1 1, 3) := by decide +kernel
theorem dX12_remember_39 : decode cX12_remember 39 = .ok (.goto (-26), 3) := by decide +kernel
theorem dX12_remember_42 : decode cX12_remember 42 = .ok (.bipush 8, 2) := by decide +kernel
theorem dX12_remember_44 : decode cX12_remember 44 = .ok (.istore_n 1, 1) := by decide +kernel
theorem dX12_remember_45 : decode cX12_remember 45 = .ok (.iload_n 1, 1) := by decide +kernel
theorem dX12_remember_46 : decode cX12_remember 46 = .ok (.bipush 48, 2) := by decide +kernel
theorem dX12_remember_48 : decode cX12_remember 48 = .ok (.if_icmp .ge 24, 3) := by decide +kernel
theorem dX12_remember_51 : decode cX12_remember 51 = .ok (.aload_n 0, 1) := by decide +kernel
theorem dX12_remember_52 : decode cX12_remember 52 = .ok (.getfield 41, 3) := by decide +kernel
theorem dX12_remember_55 : decode cX12_remember 55 = .ok (.iload_n 1, 1) := by decide +kernel
theorem dX12_remember_56 : decode cX12_remember 56 = .ok (.bipush 8, 2) := by decide +kernel
theorem dX12_remember_58 : decode cX12_remember 58 = .ok (.isub, 1) := by decide +kernel
theorem dX12_remember_59 : decode cX12_remember 59 = .ok (.aload_n 0, 1) := by decide +kernel
theorem dX12_remember_60 : decode cX12_remember 60 = .ok (.getfield 41, 3) := by decide +kernel
theorem dX12_remember_63 : decode cX12_remember 63 = .ok (.iload_n 1, 1) := by decide +kernel
theorem dX12_remember_64 : decode cX12_remember 64 = .ok (.laload, 1) := by decide +kernel
theorem dX12_remember_65 : decode cX12_remember 65 = .ok (.lastore, 1) := by decide +kernel
theorem dX12_remember_66 : decode cX12_remember 66 = .ok (.iinc 1 1, 3) := by decide +kernel
theorem dX12_remember_69 : decode cX12_remember 69 = .ok (.goto (-24), 3) := by decide +kernel
theorem dX12_remember_72 : decode cX12_remember 72 = .ok (.aload_n 0, 1) := by decide +kernel
theorem dX12_remember_73 : decode cX12_remember 73 = .ok (.dup, 1) := by decide +kernel
theorem dX12_remember_74 : decode cX12_remember 74 = .ok (.getfield 442, 3) := by decide +kernel
theorem dX12_remember_77 : decode cX12_remember 77 = .ok (.iconst 1, 1) := by decide +kernel
theorem dX12_remember_78 : decode cX12_remember 78 = .ok (.isub, 1) := by decide +kernel
theorem dX12_remember_79 : decode cX12_remember 79 = .ok (.putfield 442, 3) := by decide +kernel
theorem dX12_remember_82 : decode cX12_remember 82 = .ok (.iconst 0, 1) := by decide +kernel
theorem dX12_remember_83 : decode cX12_remember 83 = .ok (.istore_n 1, 1) := by decide +kernel
theorem dX12_remember_84 : decode cX12_remember 84 = .ok (.iload_n 1, 1) := by decide +kernel
theorem dX12_remember_85 : decode cX12_remember 85 = .ok (.sipush 1377, 3) := by decide +kernel
theorem dX12_remember_88 : decode cX12_remember 88 = .ok (.if_icmp .ge 30, 3) := by decide +kernel
theorem dX12_remember_91 : decode cX12_remember 91 = .ok (.aload_n 0, 1) := by decide +kernel
theorem dX12_remember_92 : decode cX12_remember 92 = .ok (.getfield 38, 3) := by decide +kernel
theorem dX12_remember_95 : decode cX12_remember 95 = .ok (.sipush 1377, 3) := by decide +kernel
theorem dX12_remember_98 : decode cX12_remember 98 = .ok (.aload_n 0, 1) := by decide +kernel
theorem dX12_remember_99 : decode cX12_remember 99 = .ok (.getfield 442, 3) := by decide +kernel
theorem dX12_remember_102 : decode cX12_remember 102 = .ok (.imul, 1) := by decide +kernel
theorem dX12_remember_103 : decode cX12_remember 103 = .ok (.iload_n 1, 1) := by decide +kernel
theorem dX12_remember_104 : decode cX12_remember 104 = .ok (.iadd, 1) := by decide +kernel
theorem dX12_remember_105 : decode cX12_remember 105 = .ok (.aload_n 0, 1) := by decide +kernel
theorem dX12_remember_106 : decode cX12_remember 106 = .ok (.getfield 17, 3) := by decide +kernel
theorem dX12_remember_109 : decode cX12_remember 109 = .ok (.iload_n 1, 1) := by decide +kernel
theorem dX12_remember_110 : decode cX12_remember 110 = .ok (.iaload, 1) := by decide +kernel
theorem dX12_remember_111 : decode cX12_remember 111 = .ok (.iastore, 1) := by decide +kernel
theorem dX12_remember_112 : decode cX12_remember 112 = .ok (.iinc 1 1, 3) := by decide +kernel
theorem dX12_remember_115 : decode cX12_remember 115 = .ok (.goto (-31), 3) := by decide +kernel
theorem dX12_remember_118 : decode cX12_remember 118 = .ok (.iconst 0, 1) := by decide +kernel
theorem dX12_remember_119 : decode cX12_remember 119 = .ok (.istore_n 1, 1) := by decide +kernel
theorem dX12_remember_120 : decode cX12_remember 120 = .ok (.iload_n 1, 1) := by decide +kernel
theorem dX12_remember_121 : decode cX12_remember 121 = .ok (.bipush 8, 2) := by decide +kernel
theorem dX12_remember_123 : decode cX12_remember 123 = .ok (.if_icmp .ge 29, 3) := by decide +kernel
theorem dX12_remember_126 : decode cX12_remember 126 = .ok (.aload_n 0, 1) := by decide +kernel
theorem dX12_remember_127 : decode cX12_remember 127 = .ok (.getfield 41, 3) := by decide +kernel
theorem dX12_remember_130 : decode cX12_remember 130 = .ok (.bipush 8, 2) := by decide +kernel
theorem dX12_remember_132 : decode cX12_remember 132 = .ok (.aload_n 0, 1) := by decide +kernel
theorem dX12_remember_133 : decode cX12_remember 133 = .ok (.getfield 442, 3) := by decide +kernel
theorem dX12_remember_136 : decode cX12_remember 136 = .ok (.imul, 1) := by decide +kernel
theorem dX12_remember_137 : decode cX12_remember 137 = .ok (.iload_n 1, 1) := by decide +kernel
theorem dX12_remember_138 : decode cX12_remember 138 = .ok (.iadd, 1) := by decide +kernel
theorem dX12_remember_139 : decode cX12_remember 139 = .ok (.aload_n 0, 1) := by decide +kernel
theorem dX12_remember_140 : decode cX12_remember 140 = .ok (.getfield 27, 3) := by decide +kernel
theorem dX12_remember_143 : decode cX12_remember 143 = .ok (.iload_n 1, 1) := by decide +kernel
theorem dX12_remember_144 : decode cX12_remember 144 = .ok (.laload, 1) := by decide +kernel
theorem dX12_remember_145 : decode cX12_remember 145 = .ok (.lastore, 1) := by decide +kernel
theorem dX12_remember_146 : decode cX12_remember 146 = .ok (.iinc 1 1, 3) := by decide +kernel
theorem dX12_remember_149 : decode cX12_remember 149 = .ok (.goto (-29), 3) := by decide +kernel
theorem dX12_remember_152 : decode cX12_remember 152 = .ok (.aload_n 0, 1) := by decide +kernel
theorem dX12_remember_153 : decode cX12_remember 153 = .ok (.dup, 1) := by decide +kernel
theorem dX12_remember_154 : decode cX12_remember 154 = .ok (.getfield 442, 3) := by decide +kernel
theorem dX12_remember_157 : decode cX12_remember 157 = .ok (.iconst 1, 1) := by decide +kernel
theorem dX12_remember_158 : decode cX12_remember 158 = .ok (.iadd, 1) := by decide +kernel
theorem dX12_remember_159 : decode cX12_remember 159 = .ok (.putfield 442, 3) := by decide +kernel
theorem dX12_remember_162 : decode cX12_remember 162 = .ok (.return_, 1) := by decide +kernel
theorem dX12_undo_0 : decode cX12_undo 0 = .ok (.aload_n 0, 1) := by decide +kernel
theorem dX12_undo_1 : decode cX12_undo 1 = .ok (.aload_n 0, 1) := by decide +kernel
theorem dX12_undo_2 : decode cX12_undo 2 = .ok (.getfield 442, 3) := by decide +kernel
theorem dX12_undo_5 : decode cX12_undo 5 = .ok (.ifCond .le 7, 3) := by decide +kernel
theorem dX12_undo_8 : decode cX12_undo 8 = .ok (.iconst 1, 1) := by decide +kernel
theorem dX12_undo_9 : decode cX12_undo 9 = .ok (.goto 4, 3) := by decide +kernel
theorem dX12_undo_12 : decode cX12_undo 12 = .ok (.iconst 0, 1) := by decide +kernel
theorem dX12_undo_13 : decode cX12_undo 13 = .ok (.invokevirtual 62, 3) := by decide +kernel
theorem dX12_undo_16 : decode cX12_undo 16 = .ok (.ifCond .ne 5, 3) := by decide +kernel
theorem dX12_undo_19 : decode cX12_undo 19 = .ok (.iconst 0, 1) := by decide +kernel
theorem dX12_undo_20 : decode cX12_undo 20 = .ok (.ireturn, 1) := by decide +kernel
theorem dX12_undo_21 : decode cX12_undo 21 = .ok (.aload_n 0, 1) := by decide +kernel
theorem dX12_undo_22 : decode cX12_undo 22 = .ok (.dup, 1) := by decide +kernel
theorem dX12_undo_23 : decode cX12_undo 23 = .ok (.getfield 442, 3) := by decide +kernel
theorem dX12_undo_26 : decode cX12_undo 26 = .ok (.iconst 1, 1) := by decide +kernel
theorem dX12_undo_27 : decode cX12_undo 27 = .ok (.isub, 1) := by decide +kernel
theorem dX12_undo_28 : decode cX12_undo 28 = .ok (.putfield 442, 3) := by decide +kernel
theorem dX12_undo_31 : decode cX12_undo 31 = .ok (.iconst 0, 1) := by decide +kernel
theorem dX12_undo_32 : decode cX12_undo 32 = .ok (.istore_n 1, 1) := by decide +kernel
theorem dX12_undo_33 : decode cX12_undo 33 = .ok (.iload_n 1, 1) := by decide +kernel
theorem dX12_undo_34 : decode cX12_undo 34 = .ok (.sipush 1377, 3) := by decide +kernel
theorem dX12_undo_37 : decode cX12_undo 37 = .ok (.if_icmp .ge 30, 3) := by decide +kernel
theorem dX12_undo_40 : decode cX12_undo 40 = .ok (.aload_n 0, 1) := by decide +kernel
theorem dX12_undo_41 : decode cX12_undo 41 = .ok (.getfield 17, 3) := by decide +kernel
theorem dX12_undo_44 : decode cX12_undo 44 = .ok (.iload_n 1, 1) := by decide +kernel
theorem dX12_undo_45 : decode cX12_undo 45 = .ok (.aload_n 0, 1) := by decide +kernel
theorem dX12_undo_46 : decode cX12_undo 46 = .ok (.getfield 38, 3) := by decide +kernel
theorem dX12_undo_49 : decode cX12_undo 49 = .ok (.sipush 1377, 3) := by decide +kernel
theorem dX12_undo_52 : decode cX12_undo 52 = .ok (.aload_n 0, 1) := by decide +kernel
theorem dX12_undo_53 : decode cX12_undo 53 = .ok (.getfield 442, 3) := by decide +kernel
theorem dX12_undo_56 : decode cX12_undo 56 = .ok (.imul, 1) := by decide +kernel
theorem dX12_undo_57 : decode cX12_undo 57 = .ok (.iload_n 1, 1) := by decide +kernel
theorem dX12_undo_58 : decode cX12_undo 58 = .ok (.iadd, 1) := by decide +kernel
theorem dX12_undo_59 : decode cX12_undo 59 = .ok (.iaload, 1) := by decide +kernel
theorem dX12_undo_60 : decode cX12_undo 60 = .ok (.iastore, 1) := by decide +kernel
theorem dX12_undo_61 : decode cX12_undo 61 = .ok (.iinc 1 1, 3) := by decide +kernel
theorem dX12_undo_64 : decode cX12_undo 64 = .ok (.goto (-31), 3) := by decide +kernel
theorem dX12_undo_67 : decode cX12_undo 67 = .ok (.iconst 0, 1) := by decide +kernel
theorem dX12_undo_68 : decode cX12_undo 68 = .ok (.istore_n 1, 1) := by decide +kernel
theorem dX12_undo_69 : decode cX12_undo 69 = .ok (.iload_n 1, 1) := by decide +kernel
theorem dX12_undo_70 : decode cX12_undo 70 = .ok (.bipush 8, 2) := by decide +kernel
theorem dX12_undo_72 : decode cX12_undo 72 = .ok (.if_icmp .ge 29, 3) := by decide +kernel
theorem dX12_undo_75 : decode cX12_undo 75 = .ok (.aload_n 0, 1) := by decide +kernel
theorem dX12_undo_76 : decode cX12_undo 76 = .ok (.getfield 27, 3) := by decide +kernel
theorem dX12_undo_79 : decode cX12_undo 79 = .ok (.iload_n 1, 1) := by decide +kernel
theorem dX12_undo_80 : decode cX12_undo 80 = .ok (.aload_n 0, 1) := by decide +kernel
theorem dX12_undo_81 : decode cX12_undo 81 = .ok (.getfield 41, 3) := by decide +kernel
theorem dX12_undo_84 : decode cX12_undo 84 = .ok (.bipush 8, 2) := by decide +kernel
theorem dX12_undo_86 : decode cX12_undo 86 = .ok (.aload_n 0, 1) := by decide +kernel
theorem dX12_undo_87 : decode cX12_undo 87 = .ok (.getfield 442, 3) := by decide +kernel
theorem dX12_undo_90 : decode cX12_undo 90 = .ok (.imul, 1) := by decide +kernel
theorem dX12_undo_91 : decode cX12_undo 91 = .ok (.iload_n 1, 1) := by decide +kernel
theorem dX12_undo_92 : decode cX12_undo 92 = .ok (.iadd, 1) := by decide +kernel
theorem dX12_undo_93 : decode cX12_undo 93 = .ok (.laload, 1) := by decide +kernel
theorem dX12_undo_94 : decode cX12_undo 94 = .ok (.lastore, 1) := by decide +kernel
theorem dX12_undo_95 : decode cX12_undo 95 = .ok (.iinc 1 1, 3) := by decide +kernel
theorem dX12_undo_98 : decode cX12_undo 98 = .ok (.goto (-29), 3) := by decide +kernel
theorem dX12_undo_101 : decode cX12_undo 101 = .ok (.aload_n 0, 1) := by decide +kernel
theorem dX12_undo_102 : decode cX12_undo 102 = .ok (.getfield 442, 3) := by decide +kernel
theorem dX12_undo_105 : decode cX12_undo 105 = .ok (.ireturn, 1) := by decide +kernel
theorem dX12_undoCount_0 : decode cX12_undoCount 0 = .ok (.aload_n 0, 1) := by decide +kernel
theorem dX12_undoCount_1 : decode cX12_undoCount 1 = .ok (.iconst 0, 1) := by decide +kernel
theorem dX12_undoCount_2 : decode cX12_undoCount 2 = .ok (.putfield 3, 3) := by decide +kernel
theorem dX12_undoCount_5 : decode cX12_undoCount 5 = .ok (.aload_n 0, 1) := by decide +kernel
theorem dX12_undoCount_6 : decode cX12_undoCount 6 = .ok (.getfield 442, 3) := by decide +kernel
theorem dX12_undoCount_9 : decode cX12_undoCount 9 = .ok (.ireturn, 1) := by decide +kernel
theorem dX12_write_0 : decode cX12_write 0 = .ok (.aload_n 0, 1) := by decide +kernel
theorem dX12_write_1 : decode cX12_write 1 = .ok (.getfield 44, 3) := by decide +kernel
theorem dX12_write_4 : decode cX12_write 4 = .ok (.aload_n 0, 1) := by decide +kernel
theorem dX12_write_5 : decode cX12_write 5 = .ok (.getfield 445, 3) := by decide +kernel
theorem dX12_write_8 : decode cX12_write 8 = .ok (.iload_n 1, 1) := by decide +kernel
theorem dX12_write_9 : decode cX12_write 9 = .ok (.i2b, 1) := by decide +kernel
theorem dX12_write_10 : decode cX12_write 10 = .ok (.bastore, 1) := by decide +kernel
theorem dX12_write_11 : decode cX12_write 11 = .ok (.aload_n 0, 1) := by decide +kernel
theorem dX12_write_12 : decode cX12_write 12 = .ok (.dup, 1) := by decide +kernel
theorem dX12_write_13 : decode cX12_write 13 = .ok (.getfield 445, 3) := by decide +kernel
theorem dX12_write_16 : decode cX12_write 16 = .ok (.iconst 1, 1) := by decide +kernel
theorem dX12_write_17 : decode cX12_write 17 = .ok (.iadd, 1) := by decide +kernel
theorem dX12_write_18 : decode cX12_write 18 = .ok (.putfield 445, 3) := by decide +kernel
theorem dX12_write_21 : decode cX12_write 21 = .ok (.return_, 1) := by decide +kernel
theorem dX12_writeNumber_0 : decode cX12_writeNumber 0 = .ok (.lload_n 1, 1) := by decide +kernel
theorem dX12_writeNumber_1 : decode cX12_writeNumber 1 = .ok (.lconst 0, 1) := by decide +kernel
theorem dX12_writeNumber_2 : decode cX12_writeNumber 2 = .ok (.lcmp, 1) := by decide +kernel
theorem dX12_writeNumber_3 : decode cX12_writeNumber 3 = .ok (.ifCond .ge 8, 3) := by decide +kernel
theorem dX12_writeNumber_6 : decode cX12_writeNumber 6 = .ok (.lload_n 1, 1) := by decide +kernel
theorem dX12_writeNumber_7 : decode cX12_writeNumber 7 = .ok (.lneg, 1) := by decide +kernel
theorem dX12_writeNumber_8 : decode cX12_writeNumber 8 = .ok (.goto 4, 3) := by decide +kernel
theorem dX12_writeNumber_11 : decode cX12_writeNumber 11 = .ok (.lload_n 1, 1) := by decide +kernel
theorem dX12_writeNumber_12 : decode cX12_writeNumber 12 = .ok (.lstore_n 3, 1) := by decide +kernel
theorem dX12_writeNumber_13 : decode cX12_writeNumber 13 = .ok (.lload_n 1, 1) := by decide +kernel
theorem dX12_writeNumber_14 : decode cX12_writeNumber 14 = .ok (.lconst 0, 1) := by decide +kernel
theorem dX12_writeNumber_15 : decode cX12_writeNumber 15 = .ok (.lcmp, 1) := by decide +kernel
theorem dX12_writeNumber_16 : decode cX12_writeNumber 16 = .ok (.ifCond .ge 9, 3) := by decide +kernel
theorem dX12_writeNumber_19 : decode cX12_writeNumber 19 = .ok (.aload_n 0, 1) := by decide +kernel
theorem dX12_writeNumber_20 : decode cX12_writeNumber 20 = .ok (.bipush 45, 2) := by decide +kernel
theorem dX12_writeNumber_22 : decode cX12_writeNumber 22 = .ok (.invokevirtual 448, 3) := by decide +kernel
theorem dX12_writeNumber_25 : decode cX12_writeNumber 25 = .ok (.lconst 1, 1) := by decide +kernel
theorem dX12_writeNumber_26 : decode cX12_writeNumber 26 = .ok (.lstore 5, 2) := by decide +kernel
theorem dX12_writeNumber_28 : decode cX12_writeNumber 28 = .ok (.lload_n 3, 1) := by decide +kernel
theorem dX12_writeNumber_29 : decode cX12_writeNumber 29 = .ok (.lload 5, 2) := by decide +kernel
theorem dX12_writeNumber_31 : decode cX12_writeNumber 31 = .ok (.ldiv, 1) := by decide +kernel
theorem dX12_writeNumber_32 : decode cX12_writeNumber 32 = .ok (.ldc2_w 451, 3) := by decide +kernel
theorem dX12_writeNumber_35 : decode cX12_writeNumber 35 = .ok (.lcmp, 1) := by decide +kernel
theorem dX12_writeNumber_36 : decode cX12_writeNumber 36 = .ok (.ifCond .lt 14, 3) := by decide +kernel
theorem dX12_writeNumber_39 : decode cX12_writeNumber 39 = .ok (.lload 5, 2) := by decide +kernel
theorem dX12_writeNumber_41 : decode cX12_writeNumber 41 = .ok (.ldc2_w 451, 3) := by decide +kernel
theorem dX12_writeNumber_44 : decode cX12_writeNumber 44 = .ok (.lmul, 1) := by decide +kernel
theorem dX12_writeNumber_45 : decode cX12_writeNumber 45 = .ok (.lstore 5, 2) := by decide +kernel
theorem dX12_writeNumber_47 : decode cX12_writeNumber 47 = .ok (.goto (-19), 3) := by decide +kernel
theorem dX12_writeNumber_50 : decode cX12_writeNumber 50 = .ok (.lload 5, 2) := by decide +kernel
theorem dX12_writeNumber_52 : decode cX12_writeNumber 52 = .ok (.lstore 7, 2) := by decide +kernel
theorem dX12_writeNumber_54 : decode cX12_writeNumber 54 = .ok (.lload 7, 2) := by decide +kernel
theorem dX12_writeNumber_56 : decode cX12_writeNumber 56 = .ok (.lconst 0, 1) := by decide +kernel
theorem dX12_writeNumber_57 : decode cX12_writeNumber 57 = .ok (.lcmp, 1) := by decide +kernel
theorem dX12_writeNumber_58 : decode cX12_writeNumber 58 = .ok (.ifCond .le 30, 3) := by decide +kernel
theorem dX12_writeNumber_61 : decode cX12_writeNumber 61 = .ok (.aload_n 0, 1) := by decide +kernel
theorem dX12_writeNumber_62 : decode cX12_writeNumber 62 = .ok (.bipush 48, 2) := by decide +kernel
theorem dX12_writeNumber_64 : decode cX12_writeNumber 64 = .ok (.lload_n 3, 1) := by decide +kernel
theorem dX12_writeNumber_65 : decode cX12_writeNumber 65 = .ok (.lload 7, 2) := by decide +kernel
theorem dX12_writeNumber_67 : decode cX12_writeNumber 67 = .ok (.ldiv, 1) := by decide +kernel
theorem dX12_writeNumber_68 : decode cX12_writeNumber 68 = .ok (.ldc2_w 451, 3) := by decide +kernel
theorem dX12_writeNumber_71 : decode cX12_writeNumber 71 = .ok (.lrem, 1) := by decide +kernel
theorem dX12_writeNumber_72 : decode cX12_writeNumber 72 = .ok (.l2i, 1) := by decide +kernel
theorem dX12_writeNumber_73 : decode cX12_writeNumber 73 = .ok (.iadd, 1) := by decide +kernel
theorem dX12_writeNumber_74 : decode cX12_writeNumber 74 = .ok (.invokevirtual 448, 3) := by decide +kernel
theorem dX12_writeNumber_77 : decode cX12_writeNumber 77 = .ok (.lload 7, 2) := by decide +kernel
theorem dX12_writeNumber_79 : decode cX12_writeNumber 79 = .ok (.ldc2_w 451, 3) := by decide +kernel
theorem dX12_writeNumber_82 : decode cX12_writeNumber 82 = .ok (.ldiv, 1) := by decide +kernel
theorem dX12_writeNumber_83 : decode cX12_writeNumber 83 = .ok (.lstore 7, 2) := by decide +kernel
theorem dX12_writeNumber_85 : decode cX12_writeNumber 85 = .ok (.goto (-31), 3) := by decide +kernel
theorem dX12_writeNumber_88 : decode cX12_writeNumber 88 = .ok (.return_, 1) := by decide +kernel
theorem dX12_writeShort_0 : decode cX12_writeShort 0 = .ok (.aload_n 0, 1) := by decide +kernel
theorem dX12_writeShort_1 : decode cX12_writeShort 1 = .ok (.iload_n 1, 1) := by decide +kernel
theorem dX12_writeShort_2 : decode cX12_writeShort 2 = .ok (.i2l, 1) := by decide +kernel
theorem dX12_writeShort_3 : decode cX12_writeShort 3 = .ok (.invokevirtual 453, 3) := by decide +kernel
theorem dX12_writeShort_6 : decode cX12_writeShort 6 = .ok (.aload_n 0, 1) := by decide +kernel
theorem dX12_writeShort_7 : decode cX12_writeShort 7 = .ok (.bipush 32, 2) := by decide +kernel
theorem dX12_writeShort_9 : decode cX12_writeShort 9 = .ok (.invokevirtual 448, 3) := by decide +kernel
theorem dX12_writeShort_12 : decode cX12_writeShort 12 = .ok (.aload_n 0, 1) := by decide +kernel
theorem dX12_writeShort_13 : decode cX12_writeShort 13 = .ok (.aload_n 0, 1) := by decide +kernel
theorem dX12_writeShort_14 : decode cX12_writeShort 14 = .ok (.iload_n 1, 1) := by decide +kernel
theorem dX12_writeShort_15 : decode cX12_writeShort 15 = .ok (.invokevirtual 371, 3) := by decide +kernel
theorem dX12_writeShort_18 : decode cX12_writeShort 18 = .ok (.i2l, 1) := by decide +kernel
theorem dX12_writeShort_19 : decode cX12_writeShort 19 = .ok (.invokevirtual 453, 3) := by decide +kernel
theorem dX12_writeShort_22 : decode cX12_writeShort 22 = .ok (.aload_n 0, 1) := by decide +kernel
theorem dX12_writeShort_23 : decode cX12_writeShort 23 = .ok (.bipush 32, 2) := by decide +kernel
theorem dX12_writeShort_25 : decode cX12_writeShort 25 = .ok (.invokevirtual 448, 3) := by decide +kernel
theorem dX12_writeShort_28 : decode cX12_writeShort 28 = .ok (.aload_n 0, 1) := by decide +kernel
theorem dX12_writeShort_29 : decode cX12_writeShort 29 = .ok (.aload_n 0, 1) := by decide +kernel
theorem dX12_writeShort_30 : decode cX12_writeShort 30 = .ok (.iload_n 1, 1) := by decide +kernel
theorem dX12_writeShort_31 : decode cX12_writeShort 31 = .ok (.invokevirtual 383, 3) := by decide +kernel
theorem dX12_writeShort_34 : decode cX12_writeShort 34 = .ok (.i2l, 1) := by decide +kernel
theorem dX12_writeShort_35 : decode cX12_writeShort 35 = .ok (.invokevirtual 453, 3) := by decide +kernel
theorem dX12_writeShort_38 : decode cX12_writeShort 38 = .ok (.aload_n 0, 1) := by decide +kernel
theorem dX12_writeShort_39 : decode cX12_writeShort 39 = .ok (.bipush 10, 2) := by decide +kernel
theorem dX12_writeShort_41 : decode cX12_writeShort 41 = .ok (.invokevirtual 448, 3) := by decide +kernel
theorem dX12_writeShort_44 : decode cX12_writeShort 44 = .ok (.return_, 1) := by decide +kernel
theorem dX12_writeStatement_0 : decode cX12_writeStatement 0 = .ok (.aload_n 0, 1) := by decide +kernel
theorem dX12_writeStatement_1 : decode cX12_writeStatement 1 = .ok (.aload_n 0, 1) := by decide +kernel
theorem dX12_writeStatement_2 : decode cX12_writeStatement 2 = .ok (.iload_n 1, 1) := by decide +kernel
theorem dX12_writeStatement_3 : decode cX12_writeStatement 3 = .ok (.invokevirtual 282, 3) := by decide +kernel
theorem dX12_writeStatement_6 : decode cX12_writeStatement 6 = .ok (.invokevirtual 62, 3) := by decide +kernel
theorem dX12_writeStatement_9 : decode cX12_writeStatement 9 = .ok (.ifCond .ne 5, 3) := by decide +kernel
theorem dX12_writeStatement_12 : decode cX12_writeStatement 12 = .ok (.iconst 0, 1) := by decide +kernel
theorem dX12_writeStatement_13 : decode cX12_writeStatement 13 = .ok (.ireturn, 1) := by decide +kernel
theorem dX12_writeStatement_14 : decode cX12_writeStatement 14 = .ok (.aload_n 0, 1) := by decide +kernel
theorem dX12_writeStatement_15 : decode cX12_writeStatement 15 = .ok (.iconst 0, 1) := by decide +kernel
theorem dX12_writeStatement_16 : decode cX12_writeStatement 16 = .ok (.putfield 445, 3) := by decide +kernel
theorem dX12_writeStatement_19 : decode cX12_writeStatement 19 = .ok (.aload_n 0, 1) := by decide +kernel
theorem dX12_writeStatement_20 : decode cX12_writeStatement 20 = .ok (.iload_n 1, 1) := by decide +kernel
theorem dX12_writeStatement_21 : decode cX12_writeStatement 21 = .ok (.invokevirtual 457, 3) := by decide +kernel
theorem dX12_writeStatement_24 : decode cX12_writeStatement 24 = .ok (.aload_n 0, 1) := by decide +kernel
theorem dX12_writeStatement_25 : decode cX12_writeStatement 25 = .ok (.bipush 10, 2) := by decide +kernel
theorem dX12_writeStatement_27 : decode cX12_writeStatement 27 = .ok (.invokevirtual 448, 3) := by decide +kernel
theorem dX12_writeStatement_30 : decode cX12_writeStatement 30 = .ok (.iconst 0, 1) := by decide +kernel
theorem dX12_writeStatement_31 : decode cX12_writeStatement 31 = .ok (.istore_n 2, 1) := by decide +kernel
theorem dX12_writeStatement_32 : decode cX12_writeStatement 32 = .ok (.iload_n 2, 1) := by decide +kernel
theorem dX12_writeStatement_33 : decode cX12_writeStatement 33 = .ok (.aload_n 0, 1) := by decide +kernel
theorem dX12_writeStatement_34 : decode cX12_writeStatement 34 = .ok (.getfield 17, 3) := by decide +kernel
theorem dX12_writeStatement_37 : decode cX12_writeStatement 37 = .ok (.iconst 2, 1) := by decide +kernel
theorem dX12_writeStatement_38 : decode cX12_writeStatement 38 = .ok (.iaload, 1) := by decide +kernel
theorem dX12_writeStatement_39 : decode cX12_writeStatement 39 = .ok (.if_icmp .ge 23, 3) := by decide +kernel
theorem dX12_writeStatement_42 : decode cX12_writeStatement 42 = .ok (.aload_n 0, 1) := by decide +kernel
theorem dX12_writeStatement_43 : decode cX12_writeStatement 43 = .ok (.iload_n 2, 1) := by decide +kernel
theorem dX12_writeStatement_44 : decode cX12_writeStatement 44 = .ok (.invokevirtual 368, 3) := by decide +kernel
theorem dX12_writeStatement_47 : decode cX12_writeStatement 47 = .ok (.iload_n 1, 1) := by decide +kernel
theorem dX12_writeStatement_48 : decode cX12_writeStatement 48 = .ok (.if_icmp .ne 8, 3) := by decide +kernel
theorem dX12_writeStatement_51 : decode cX12_writeStatement 51 = .ok (.aload_n 0, 1) := by decide +kernel
theorem dX12_writeStatement_52 : decode cX12_writeStatement 52 = .ok (.iload_n 2, 1) := by decide +kernel
theorem dX12_writeStatement_53 : decode cX12_writeStatement 53 = .ok (.invokevirtual 460, 3) := by decide +kernel
theorem dX12_writeStatement_56 : decode cX12_writeStatement 56 = .ok (.iinc 2 1, 3) := by decide +kernel
theorem dX12_writeStatement_59 : decode cX12_writeStatement 59 = .ok (.goto (-27), 3) := by decide +kernel
theorem dX12_writeStatement_62 : decode cX12_writeStatement 62 = .ok (.aload_n 0, 1) := by decide +kernel
theorem dX12_writeStatement_63 : decode cX12_writeStatement 63 = .ok (.aload_n 0, 1) := by decide +kernel
theorem dX12_writeStatement_64 : decode cX12_writeStatement 64 = .ok (.iload_n 1, 1) := by decide +kernel
theorem dX12_writeStatement_65 : decode cX12_writeStatement 65 = .ok (.invokevirtual 389, 3) := by decide +kernel
theorem dX12_writeStatement_68 : decode cX12_writeStatement 68 = .ok (.invokevirtual 453, 3) := by decide +kernel
theorem dX12_writeStatement_71 : decode cX12_writeStatement 71 = .ok (.aload_n 0, 1) := by decide +kernel
theorem dX12_writeStatement_72 : decode cX12_writeStatement 72 = .ok (.bipush 10, 2) := by decide +kernel
theorem dX12_writeStatement_74 : decode cX12_writeStatement 74 = .ok (.invokevirtual 448, 3) := by decide +kernel
theorem dX12_writeStatement_77 : decode cX12_writeStatement 77 = .ok (.aload_n 0, 1) := by decide +kernel
theorem dX12_writeStatement_78 : decode cX12_writeStatement 78 = .ok (.getfield 445, 3) := by decide +kernel
theorem dX12_writeStatement_81 : decode cX12_writeStatement 81 = .ok (.ireturn, 1) := by decide +kernel
theorem dX12_writeText_0 : decode cX12_writeText 0 = .ok (.iconst 0, 1) := by decide +kernel
theorem dX12_writeText_1 : decode cX12_writeText 1 = .ok (.istore_n 2, 1) := by decide +kernel
theorem dX12_writeText_2 : decode cX12_writeText 2 = .ok (.iload_n 2, 1) := by decide +kernel
theorem dX12_writeText_3 : decode cX12_writeText 3 = .ok (.aload_n 1, 1) := by decide +kernel
theorem dX12_writeText_4 : decode cX12_writeText 4 = .ok (.invokevirtual 114, 3) := by decide +kernel
theorem dX12_writeText_7 : decode cX12_writeText 7 = .ok (.if_icmp .ge 18, 3) := by decide +kernel
theorem dX12_writeText_10 : decode cX12_writeText 10 = .ok (.aload_n 0, 1) := by decide +kernel
theorem dX12_writeText_11 : decode cX12_writeText 11 = .ok (.aload_n 1, 1) := by decide +kernel
theorem dX12_writeText_12 : decode cX12_writeText 12 = .ok (.iload_n 2, 1) := by decide +kernel
theorem dX12_writeText_13 : decode cX12_writeText 13 = .ok (.invokevirtual 120, 3) := by decide +kernel
theorem dX12_writeText_16 : decode cX12_writeText 16 = .ok (.invokevirtual 448, 3) := by decide +kernel
theorem dX12_writeText_19 : decode cX12_writeText 19 = .ok (.iinc 2 1, 3) := by decide +kernel
theorem dX12_writeText_22 : decode cX12_writeText 22 = .ok (.goto (-20), 3) := by decide +kernel
theorem dX12_writeText_25 : decode cX12_writeText 25 = .ok (.return_, 1) := by decide +kernel
theorem dX12_writeName_0 : decode cX12_writeName 0 = .ok (.iconst 0, 1) := by decide +kernel
theorem dX12_writeName_1 : decode cX12_writeName 1 = .ok (.istore_n 2, 1) := by decide +kernel
theorem dX12_writeName_2 : decode cX12_writeName 2 = .ok (.iload_n 2, 1) := by decide +kernel
theorem dX12_writeName_3 : decode cX12_writeName 3 = .ok (.bipush 6, 2) := by decide +kernel
theorem dX12_writeName_5 : decode cX12_writeName 5 = .ok (.if_icmp .ge 32, 3) := by decide +kernel
theorem dX12_writeName_8 : decode cX12_writeName 8 = .ok (.aload_n 0, 1) := by decide +kernel
theorem dX12_writeName_9 : decode cX12_writeName 9 = .ok (.iload_n 1, 1) := by decide +kernel
theorem dX12_writeName_10 : decode cX12_writeName 10 = .ok (.iconst 1, 1) := by decide +kernel
theorem dX12_writeName_11 : decode cX12_writeName 11 = .ok (.iload_n 2, 1) := by decide +kernel
theorem dX12_writeName_12 : decode cX12_writeName 12 = .ok (.iadd, 1) := by decide +kernel
theorem dX12_writeName_13 : decode cX12_writeName 13 = .ok (.invokevirtual 285, 3) := by decide +kernel
theorem dX12_writeName_16 : decode cX12_writeName 16 = .ok (.ifCond .eq 21, 3) := by decide +kernel
theorem dX12_writeName_19 : decode cX12_writeName 19 = .ok (.aload_n 0, 1) := by decide +kernel
theorem dX12_writeName_20 : decode cX12_writeName 20 = .ok (.aload_n 0, 1) := by decide +kernel
theorem dX12_writeName_21 : decode cX12_writeName 21 = .ok (.iload_n 1, 1) := by decide +kernel
theorem dX12_writeName_22 : decode cX12_writeName 22 = .ok (.iconst 1, 1) := by decide +kernel
theorem dX12_writeName_23 : decode cX12_writeName 23 = .ok (.iload_n 2, 1) := by decide +kernel
theorem dX12_writeName_24 : decode cX12_writeName 24 = .ok (.iadd, 1) := by decide +kernel
theorem dX12_writeName_25 : decode cX12_writeName 25 = .ok (.invokevirtual 285, 3) := by decide +kernel
theorem dX12_writeName_28 : decode cX12_writeName 28 = .ok (.invokevirtual 448, 3) := by decide +kernel
theorem dX12_writeName_31 : decode cX12_writeName 31 = .ok (.iinc 2 1, 3) := by decide +kernel
theorem dX12_writeName_34 : decode cX12_writeName 34 = .ok (.goto (-32), 3) := by decide +kernel
theorem dX12_writeName_37 : decode cX12_writeName 37 = .ok (.return_, 1) := by decide +kernel
theorem dX12_writeTold_0 : decode cX12_writeTold 0 = .ok (.aload_n 0, 1) := by decide +kernel
theorem dX12_writeTold_1 : decode cX12_writeTold 1 = .ok (.aload_n 1, 1) := by decide +kernel
theorem dX12_writeTold_2 : decode cX12_writeTold 2 = .ok (.invokevirtual 463, 3) := by decide +kernel
theorem dX12_writeTold_5 : decode cX12_writeTold 5 = .ok (.aload_n 0, 1) := by decide +kernel
theorem dX12_writeTold_6 : decode cX12_writeTold 6 = .ok (.lload_n 2, 1) := by decide +kernel
theorem dX12_writeTold_7 : decode cX12_writeTold 7 = .ok (.invokevirtual 453, 3) := by decide +kernel
theorem dX12_writeTold_10 : decode cX12_writeTold 10 = .ok (.return_, 1) := by decide +kernel
theorem dX12_nameOf_0 : decode cX12_nameOf 0 = .ok (.iload_n 0, 1) := by decide +kernel
theorem dX12_nameOf_1 : decode cX12_nameOf 1 = .ok (.tableswitch 39 0 2 #[27, 31, 35], 27) := by decide +kernel
theorem dX12_nameOf_28 : decode cX12_nameOf 28 = .ok (.ldc_w 466, 3) := by decide +kernel
theorem dX12_nameOf_31 : decode cX12_nameOf 31 = .ok (.areturn, 1) := by decide +kernel
theorem dX12_nameOf_32 : decode cX12_nameOf 32 = .ok (.ldc_w 468, 3) := by decide +kernel
theorem dX12_nameOf_35 : decode cX12_nameOf 35 = .ok (.areturn, 1) := by decide +kernel
theorem dX12_nameOf_36 : decode cX12_nameOf 36 = .ok (.ldc_w 470, 3) := by decide +kernel
theorem dX12_nameOf_39 : decode cX12_nameOf 39 = .ok (.areturn, 1) := by decide +kernel
theorem dX12_nameOf_40 : decode cX12_nameOf 40 = .ok (.ldc_w 472, 3) := by decide +kernel
theorem dX12_nameOf_43 : decode cX12_nameOf 43 = .ok (.areturn, 1) := by decide +kernel
theorem dX12_writeDays_0 : decode cX12_writeDays 0 = .ok (.aload_n 0, 1) := by decide +kernel
theorem dX12_writeDays_1 : decode cX12_writeDays 1 = .ok (.iload_n 1, 1) := by decide +kernel
theorem dX12_writeDays_2 : decode cX12_writeDays 2 = .ok (.iconst 0, 1) := by decide +kernel
theorem dX12_writeDays_3 : decode cX12_writeDays 3 = .ok (.invokevirtual 305, 3) := by decide +kernel
theorem dX12_writeDays_6 : decode cX12_writeDays 6 = .ok (.istore_n 2, 1) := by decide +kernel
theorem dX12_writeDays_7 : decode cX12_writeDays 7 = .ok (.aload_n 0, 1) := by decide +kernel
theorem dX12_writeDays_8 : decode cX12_writeDays 8 = .ok (.ldc_w 474, 3) := by decide +kernel
theorem dX12_writeDays_11 : decode cX12_writeDays 11 = .ok (.invokevirtual 463, 3) := by decide +kernel
theorem dX12_writeDays_14 : decode cX12_writeDays 14 = .ok (.iconst 0, 1) := by decide +kernel
theorem dX12_writeDays_15 : decode cX12_writeDays 15 = .ok (.istore_n 3, 1) := by decide +kernel
theorem dX12_writeDays_16 : decode cX12_writeDays 16 = .ok (.iload_n 3, 1) := by decide +kernel
theorem dX12_writeDays_17 : decode cX12_writeDays 17 = .ok (.bipush 29, 2) := by decide +kernel
theorem dX12_writeDays_19 : decode cX12_writeDays 19 = .ok (.if_icmp .gt 73, 3) := by decide +kernel
theorem dX12_writeDays_22 : decode cX12_writeDays 22 = .ok (.aload_n 0, 1) := by decide +kernel
theorem dX12_writeDays_23 : decode cX12_writeDays 23 = .ok (.iload_n 1, 1) := by decide +kernel
theorem dX12_writeDays_24 : decode cX12_writeDays 24 = .ok (.iconst 5, 1) := by decide +kernel
theorem dX12_writeDays_25 : decode cX12_writeDays 25 = .ok (.invokevirtual 305, 3) := by decide +kernel
theorem dX12_writeDays_28 : decode cX12_writeDays 28 = .ok (.iload_n 3, 1) := by decide +kernel
theorem dX12_writeDays_29 : decode cX12_writeDays 29 = .ok (.invokestatic 308, 3) := by decide +kernel
theorem dX12_writeDays_32 : decode cX12_writeDays 32 = .ok (.ifCond .ne 6, 3) := by decide +kernel
theorem dX12_writeDays_35 : decode cX12_writeDays 35 = .ok (.goto 51, 3) := by decide +kernel
theorem dX12_writeDays_38 : decode cX12_writeDays 38 = .ok (.aload_n 0, 1) := by decide +kernel
theorem dX12_writeDays_39 : decode cX12_writeDays 39 = .ok (.ldc_w 476, 3) := by decide +kernel
theorem dX12_writeDays_42 : decode cX12_writeDays 42 = .ok (.iload_n 3, 1) := by decide +kernel
theorem dX12_writeDays_43 : decode cX12_writeDays 43 = .ok (.i2l, 1) := by decide +kernel
theorem dX12_writeDays_44 : decode cX12_writeDays 44 = .ok (.invokevirtual 478, 3) := by decide +kernel
theorem dX12_writeDays_47 : decode cX12_writeDays 47 = .ok (.aload_n 0, 1) := by decide +kernel
theorem dX12_writeDays_48 : decode cX12_writeDays 48 = .ok (.iload_n 2, 1) := by decide +kernel
theorem dX12_writeDays_49 : decode cX12_writeDays 49 = .ok (.iconst 5, 1) := by decide +kernel
theorem dX12_writeDays_50 : decode cX12_writeDays 50 = .ok (.invokevirtual 248, 3) := by decide +kernel
theorem dX12_writeDays_53 : decode cX12_writeDays 53 = .ok (.iload_n 3, 1) := by decide +kernel
theorem dX12_writeDays_54 : decode cX12_writeDays 54 = .ok (.invokestatic 308, 3) := by decide +kernel
theorem dX12_writeDays_57 : decode cX12_writeDays 57 = .ok (.ifCond .eq 9, 3) := by decide +kernel
theorem dX12_writeDays_60 : decode cX12_writeDays 60 = .ok (.aload_n 0, 1) := by decide +kernel
theorem dX12_writeDays_61 : decode cX12_writeDays 61 = .ok (.bipush 63, 2) := by decide +kernel
theorem dX12_writeDays_63 : decode cX12_writeDays 63 = .ok (.invokevirtual 448, 3) := by decide +kernel
theorem dX12_writeDays_66 : decode cX12_writeDays 66 = .ok (.aload_n 0, 1) := by decide +kernel
theorem dX12_writeDays_67 : decode cX12_writeDays 67 = .ok (.iload_n 2, 1) := by decide +kernel
theorem dX12_writeDays_68 : decode cX12_writeDays 68 = .ok (.bipush 6, 2) := by decide +kernel
theorem dX12_writeDays_70 : decode cX12_writeDays 70 = .ok (.invokevirtual 248, 3) := by decide +kernel
theorem dX12_writeDays_73 : decode cX12_writeDays 73 = .ok (.iload_n 3, 1) := by decide +kernel
theorem dX12_writeDays_74 : decode cX12_writeDays 74 = .ok (.invokestatic 308, 3) := by decide +kernel
theorem dX12_writeDays_77 : decode cX12_writeDays 77 = .ok (.ifCond .eq 9, 3) := by decide +kernel
theorem dX12_writeDays_80 : decode cX12_writeDays 80 = .ok (.aload_n 0, 1) := by decide +kernel
theorem dX12_writeDays_81 : decode cX12_writeDays 81 = .ok (.bipush 45, 2) := by decide +kernel
theorem dX12_writeDays_83 : decode cX12_writeDays 83 = .ok (.invokevirtual 448, 3) := by decide +kernel
theorem dX12_writeDays_86 : decode cX12_writeDays 86 = .ok (.iinc 3 1, 3) := by decide +kernel
theorem dX12_writeDays_89 : decode cX12_writeDays 89 = .ok (.goto (-73), 3) := by decide +kernel
theorem dX12_writeDays_92 : decode cX12_writeDays 92 = .ok (.return_, 1) := by decide +kernel
theorem dX12_writeLine_0 : decode cX12_writeLine 0 = .ok (.aload_n 0, 1) := by decide +kernel
theorem dX12_writeLine_1 : decode cX12_writeLine 1 = .ok (.iload_n 2, 1) := by decide +kernel
theorem dX12_writeLine_2 : decode cX12_writeLine 2 = .ok (.invokestatic 482, 3) := by decide +kernel
theorem dX12_writeLine_5 : decode cX12_writeLine 5 = .ok (.aload_n 0, 1) := by decide +kernel
theorem dX12_writeLine_6 : decode cX12_writeLine 6 = .ok (.iload_n 1, 1) := by decide +kernel
theorem dX12_writeLine_7 : decode cX12_writeLine 7 = .ok (.iload_n 2, 1) := by decide +kernel
theorem dX12_writeLine_8 : decode cX12_writeLine 8 = .ok (.invokevirtual 365, 3) := by decide +kernel
theorem dX12_writeLine_11 : decode cX12_writeLine 11 = .ok (.i2l, 1) := by decide +kernel
theorem dX12_writeLine_12 : decode cX12_writeLine 12 = .ok (.invokevirtual 478, 3) := by decide +kernel
theorem dX12_writeLine_15 : decode cX12_writeLine 15 = .ok (.iload_n 2, 1) := by decide +kernel
theorem dX12_writeLine_16 : decode cX12_writeLine 16 = .ok (.iconst 3, 1) := by decide +kernel
theorem dX12_writeLine_17 : decode cX12_writeLine 17 = .ok (.if_icmp .ne 8, 3) := by decide +kernel
theorem dX12_writeLine_20 : decode cX12_writeLine 20 = .ok (.aload_n 0, 1) := by decide +kernel
theorem dX12_writeLine_21 : decode cX12_writeLine 21 = .ok (.iload_n 1, 1) := by decide +kernel
theorem dX12_writeLine_22 : decode cX12_writeLine 22 = .ok (.invokevirtual 486, 3) := by decide +kernel
theorem dX12_writeLine_25 : decode cX12_writeLine 25 = .ok (.aload_n 0, 1) := by decide +kernel
theorem dX12_writeLine_26 : decode cX12_writeLine 26 = .ok (.iload_n 1, 1) := by decide +kernel
theorem dX12_writeLine_27 : decode cX12_writeLine 27 = .ok (.iconst 4, 1) := by decide +kernel
theorem dX12_writeLine_28 : decode cX12_writeLine 28 = .ok (.invokevirtual 305, 3) := by decide +kernel
theorem dX12_writeLine_31 : decode cX12_writeLine 31 = .ok (.iload_n 2, 1) := by decide +kernel
theorem dX12_writeLine_32 : decode cX12_writeLine 32 = .ok (.invokestatic 308, 3) := by decide +kernel
theorem dX12_writeLine_35 : decode cX12_writeLine 35 = .ok (.ifCond .eq 13, 3) := by decide +kernel
theorem dX12_writeLine_38 : decode cX12_writeLine 38 = .ok (.aload_n 0, 1) := by decide +kernel
theorem dX12_writeLine_39 : decode cX12_writeLine 39 = .ok (.ldc_w 489, 3) := by decide +kernel
theorem dX12_writeLine_42 : decode cX12_writeLine 42 = .ok (.invokevirtual 463, 3) := by decide +kernel
theorem dX12_writeLine_45 : decode cX12_writeLine 45 = .ok (.goto 32, 3) := by decide +kernel
theorem dX12_writeLine_48 : decode cX12_writeLine 48 = .ok (.aload_n 0, 1) := by decide +kernel
theorem dX12_writeLine_49 : decode cX12_writeLine 49 = .ok (.iload_n 1, 1) := by decide +kernel
theorem dX12_writeLine_50 : decode cX12_writeLine 50 = .ok (.iload_n 2, 1) := by decide +kernel
theorem dX12_writeLine_51 : decode cX12_writeLine 51 = .ok (.invokevirtual 377, 3) := by decide +kernel
theorem dX12_writeLine_54 : decode cX12_writeLine 54 = .ok (.aload_n 0, 1) := by decide +kernel
theorem dX12_writeLine_55 : decode cX12_writeLine 55 = .ok (.iload_n 1, 1) := by decide +kernel
theorem dX12_writeLine_56 : decode cX12_writeLine 56 = .ok (.iload_n 2, 1) := by decide +kernel
theorem dX12_writeLine_57 : decode cX12_writeLine 57 = .ok (.invokevirtual 365, 3) := by decide +kernel
theorem dX12_writeLine_60 : decode cX12_writeLine 60 = .ok (.if_icmp .eq 17, 3) := by decide +kernel
theorem dX12_writeLine_63 : decode cX12_writeLine 63 = .ok (.aload_n 0, 1) := by decide +kernel
theorem dX12_writeLine_64 : decode cX12_writeLine 64 = .ok (.ldc_w 491, 3) := by decide +kernel
theorem dX12_writeLine_67 : decode cX12_writeLine 67 = .ok (.aload_n 0, 1) := by decide +kernel
theorem dX12_writeLine_68 : decode cX12_writeLine 68 = .ok (.iload_n 1, 1) := by decide +kernel
theorem dX12_writeLine_69 : decode cX12_writeLine 69 = .ok (.iload_n 2, 1) := by decide +kernel
theorem dX12_writeLine_70 : decode cX12_writeLine 70 = .ok (.invokevirtual 377, 3) := by decide +kernel
theorem dX12_writeLine_73 : decode cX12_writeLine 73 = .ok (.i2l, 1) := by decide +kernel
theorem dX12_writeLine_74 : decode cX12_writeLine 74 = .ok (.invokevirtual 478, 3) := by decide +kernel
theorem dX12_writeLine_77 : decode cX12_writeLine 77 = .ok (.aload_n 0, 1) := by decide +kernel
theorem dX12_writeLine_78 : decode cX12_writeLine 78 = .ok (.bipush 10, 2) := by decide +kernel
theorem dX12_writeLine_80 : decode cX12_writeLine 80 = .ok (.invokevirtual 448, 3) := by decide +kernel
theorem dX12_writeLine_83 : decode cX12_writeLine 83 = .ok (.return_, 1) := by decide +kernel
theorem dX12_writeInvoice_0 : decode cX12_writeInvoice 0 = .ok (.aload_n 0, 1) := by decide +kernel
theorem dX12_writeInvoice_1 : decode cX12_writeInvoice 1 = .ok (.aload_n 0, 1) := by decide +kernel
theorem dX12_writeInvoice_2 : decode cX12_writeInvoice 2 = .ok (.iload_n 1, 1) := by decide +kernel
theorem dX12_writeInvoice_3 : decode cX12_writeInvoice 3 = .ok (.invokevirtual 380, 3) := by decide +kernel
theorem dX12_writeInvoice_6 : decode cX12_writeInvoice 6 = .ok (.invokevirtual 62, 3) := by decide +kernel
theorem dX12_writeInvoice_9 : decode cX12_writeInvoice 9 = .ok (.ifCond .ne 5, 3) := by decide +kernel
theorem dX12_writeInvoice_12 : decode cX12_writeInvoice 12 = .ok (.iconst 0, 1) := by decide +kernel
theorem dX12_writeInvoice_13 : decode cX12_writeInvoice 13 = .ok (.ireturn, 1) := by decide +kernel
theorem dX12_writeInvoice_14 : decode cX12_writeInvoice 14 = .ok (.aload_n 0, 1) := by decide +kernel
theorem dX12_writeInvoice_15 : decode cX12_writeInvoice 15 = .ok (.iconst 0, 1) := by decide +kernel
theorem dX12_writeInvoice_16 : decode cX12_writeInvoice 16 = .ok (.putfield 445, 3) := by decide +kernel
theorem dX12_writeInvoice_19 : decode cX12_writeInvoice 19 = .ok (.aload_n 0, 1) := by decide +kernel
theorem dX12_writeInvoice_20 : decode cX12_writeInvoice 20 = .ok (.ldc_w 493, 3) := by decide +kernel
theorem dX12_writeInvoice_23 : decode cX12_writeInvoice 23 = .ok (.iload_n 1, 1) := by decide +kernel
theorem dX12_writeInvoice_24 : decode cX12_writeInvoice 24 = .ok (.i2l, 1) := by decide +kernel
theorem dX12_writeInvoice_25 : decode cX12_writeInvoice 25 = .ok (.invokevirtual 478, 3) := by decide +kernel
theorem dX12_writeInvoice_28 : decode cX12_writeInvoice 28 = .ok (.aload_n 0, 1) := by decide +kernel
theorem dX12_writeInvoice_29 : decode cX12_writeInvoice 29 = .ok (.ldc_w 495, 3) := by decide +kernel
theorem dX12_writeInvoice_32 : decode cX12_writeInvoice 32 = .ok (.invokevirtual 463, 3) := by decide +kernel
theorem dX12_writeInvoice_35 : decode cX12_writeInvoice 35 = .ok (.aload_n 0, 1) := by decide +kernel
theorem dX12_writeInvoice_36 : decode cX12_writeInvoice 36 = .ok (.aload_n 0, 1) := by decide +kernel
theorem dX12_writeInvoice_37 : decode cX12_writeInvoice 37 = .ok (.iload_n 1, 1) := by decide +kernel
theorem dX12_writeInvoice_38 : decode cX12_writeInvoice 38 = .ok (.invokevirtual 368, 3) := by decide +kernel
theorem dX12_writeInvoice_41 : decode cX12_writeInvoice 41 = .ok (.invokevirtual 457, 3) := by decide +kernel
theorem dX12_writeInvoice_44 : decode cX12_writeInvoice 44 = .ok (.aload_n 0, 1) := by decide +kernel
theorem dX12_writeInvoice_45 : decode cX12_writeInvoice 45 = .ok (.ldc_w 497, 3) := by decide +kernel
theorem dX12_writeInvoice_48 : decode cX12_writeInvoice 48 = .ok (.aload_n 0, 1) := by decide +kernel
theorem dX12_writeInvoice_49 : decode cX12_writeInvoice 49 = .ok (.iload_n 1, 1) := by decide +kernel
theorem dX12_writeInvoice_50 : decode cX12_writeInvoice 50 = .ok (.iconst 0, 1) := by decide +kernel
theorem dX12_writeInvoice_51 : decode cX12_writeInvoice 51 = .ok (.invokevirtual 305, 3) := by decide +kernel
theorem dX12_writeInvoice_54 : decode cX12_writeInvoice 54 = .ok (.i2l, 1) := by decide +kernel
theorem dX12_writeInvoice_55 : decode cX12_writeInvoice 55 = .ok (.invokevirtual 478, 3) := by decide +kernel
theorem dX12_writeInvoice_58 : decode cX12_writeInvoice 58 = .ok (.aload_n 0, 1) := by decide +kernel
theorem dX12_writeInvoice_59 : decode cX12_writeInvoice 59 = .ok (.ldc_w 499, 3) := by decide +kernel
theorem dX12_writeInvoice_62 : decode cX12_writeInvoice 62 = .ok (.aload_n 0, 1) := by decide +kernel
theorem dX12_writeInvoice_63 : decode cX12_writeInvoice 63 = .ok (.iload_n 1, 1) := by decide +kernel
theorem dX12_writeInvoice_64 : decode cX12_writeInvoice 64 = .ok (.iconst 1, 1) := by decide +kernel
theorem dX12_writeInvoice_65 : decode cX12_writeInvoice 65 = .ok (.invokevirtual 305, 3) := by decide +kernel
theorem dX12_writeInvoice_68 : decode cX12_writeInvoice 68 = .ok (.i2l, 1) := by decide +kernel
theorem dX12_writeInvoice_69 : decode cX12_writeInvoice 69 = .ok (.invokevirtual 478, 3) := by decide +kernel
theorem dX12_writeInvoice_72 : decode cX12_writeInvoice 72 = .ok (.aload_n 0, 1) := by decide +kernel
theorem dX12_writeInvoice_73 : decode cX12_writeInvoice 73 = .ok (.bipush 10, 2) := by decide +kernel
theorem dX12_writeInvoice_75 : decode cX12_writeInvoice 75 = .ok (.invokevirtual 448, 3) := by decide +kernel
theorem dX12_writeInvoice_78 : decode cX12_writeInvoice 78 = .ok (.iconst 0, 1) := by decide +kernel
theorem dX12_writeInvoice_79 : decode cX12_writeInvoice 79 = .ok (.istore_n 2, 1) := by decide +kernel
theorem dX12_writeInvoice_80 : decode cX12_writeInvoice 80 = .ok (.iload_n 2, 1) := by decide +kernel
theorem dX12_writeInvoice_81 : decode cX12_writeInvoice 81 = .ok (.iconst 4, 1) := by decide +kernel
theorem dX12_writeInvoice_82 : decode cX12_writeInvoice 82 = .ok (.if_icmp .ge 28, 3) := by decide +kernel
theorem dX12_writeInvoice_85 : decode cX12_writeInvoice 85 = .ok (.aload_n 0, 1) := by decide +kernel
theorem dX12_writeInvoice_86 : decode cX12_writeInvoice 86 = .ok (.iload_n 1, 1) := by decide +kernel
theorem dX12_writeInvoice_87 : decode cX12_writeInvoice 87 = .ok (.iconst 3, 1) := by decide +kernel
theorem dX12_writeInvoice_88 : decode cX12_writeInvoice 88 = .ok (.invokevirtual 305, 3) := by decide +kernel
theorem dX12_writeInvoice_91 : decode cX12_writeInvoice 91 = .ok (.iload_n 2, 1) := by decide +kernel
theorem dX12_writeInvoice_92 : decode cX12_writeInvoice 92 = .ok (.invokestatic 308, 3) := by decide +kernel
theorem dX12_writeInvoice_95 : decode cX12_writeInvoice 95 = .ok (.ifCond .eq 9, 3) := by decide +kernel
theorem dX12_writeInvoice_98 : decode cX12_writeInvoice 98 = .ok (.aload_n 0, 1) := by decide +kernel
theorem dX12_writeInvoice_99 : decode cX12_writeInvoice 99 = .ok (.iload_n 1, 1) := by decide +kernel
theorem dX12_writeInvoice_100 : decode cX12_writeInvoice 100 = .ok (.iload_n 2, 1) := by decide +kernel
theorem dX12_writeInvoice_101 : decode cX12_writeInvoice 101 = .ok (.invokevirtual 501, 3) := by decide +kernel
theorem dX12_writeInvoice_104 : decode cX12_writeInvoice 104 = .ok (.iinc 2 1, 3) := by decide +kernel
theorem dX12_writeInvoice_107 : decode cX12_writeInvoice 107 = .ok (.goto (-27), 3) := by decide +kernel
theorem dX12_writeInvoice_110 : decode cX12_writeInvoice 110 = .ok (.aload_n 0, 1) := by decide +kernel
theorem dX12_writeInvoice_111 : decode cX12_writeInvoice 111 = .ok (.ldc_w 505, 3) := by decide +kernel
theorem dX12_writeInvoice_114 : decode cX12_writeInvoice 114 = .ok (.aload_n 0, 1) := by decide +kernel
theorem dX12_writeInvoice_115 : decode cX12_writeInvoice 115 = .ok (.iload_n 1, 1) := by decide +kernel
theorem dX12_writeInvoice_116 : decode cX12_writeInvoice 116 = .ok (.invokevirtual 371, 3) := by decide +kernel
theorem dX12_writeInvoice_119 : decode cX12_writeInvoice 119 = .ok (.i2l, 1) := by decide +kernel
theorem dX12_writeInvoice_120 : decode cX12_writeInvoice 120 = .ok (.invokevirtual 478, 3) := by decide +kernel
theorem dX12_writeInvoice_123 : decode cX12_writeInvoice 123 = .ok (.aload_n 0, 1) := by decide +kernel
theorem dX12_writeInvoice_124 : decode cX12_writeInvoice 124 = .ok (.ldc_w 507, 3) := by decide +kernel
theorem dX12_writeInvoice_127 : decode cX12_writeInvoice 127 = .ok (.aload_n 0, 1) := by decide +kernel
theorem dX12_writeInvoice_128 : decode cX12_writeInvoice 128 = .ok (.iload_n 1, 1) := by decide +kernel
theorem dX12_writeInvoice_129 : decode cX12_writeInvoice 129 = .ok (.invokevirtual 383, 3) := by decide +kernel
theorem dX12_writeInvoice_132 : decode cX12_writeInvoice 132 = .ok (.i2l, 1) := by decide +kernel
theorem dX12_writeInvoice_133 : decode cX12_writeInvoice 133 = .ok (.invokevirtual 478, 3) := by decide +kernel
theorem dX12_writeInvoice_136 : decode cX12_writeInvoice 136 = .ok (.aload_n 0, 1) := by decide +kernel
theorem dX12_writeInvoice_137 : decode cX12_writeInvoice 137 = .ok (.bipush 10, 2) := by decide +kernel
theorem dX12_writeInvoice_139 : decode cX12_writeInvoice 139 = .ok (.invokevirtual 448, 3) := by decide +kernel
theorem dX12_writeInvoice_142 : decode cX12_writeInvoice 142 = .ok (.aload_n 0, 1) := by decide +kernel
theorem dX12_writeInvoice_143 : decode cX12_writeInvoice 143 = .ok (.getfield 445, 3) := by decide +kernel
theorem dX12_writeInvoice_146 : decode cX12_writeInvoice 146 = .ok (.ireturn, 1) := by decide +kernel
theorem dX12_writeEnd_0 : decode cX12_writeEnd 0 = .ok (.iload_n 1, 1) := by decide +kernel
theorem dX12_writeEnd_1 : decode cX12_writeEnd 1 = .ok (.ifCond .le 41, 3) := by decide +kernel
theorem dX12_writeEnd_4 : decode cX12_writeEnd 4 = .ok (.aload_n 0, 1) := by decide +kernel
theorem dX12_writeEnd_5 : decode cX12_writeEnd 5 = .ok (.iload_n 1, 1) := by decide +kernel
theorem dX12_writeEnd_6 : decode cX12_writeEnd 6 = .ok (.iload_n 2, 1) := by decide +kernel
theorem dX12_writeEnd_7 : decode cX12_writeEnd 7 = .ok (.invokevirtual 240, 3) := by decide +kernel
theorem dX12_writeEnd_10 : decode cX12_writeEnd 10 = .ok (.aload_n 0, 1) := by decide +kernel
theorem dX12_writeEnd_11 : decode cX12_writeEnd 11 = .ok (.iload_n 1, 1) := by decide +kernel
theorem dX12_writeEnd_12 : decode cX12_writeEnd 12 = .ok (.iconst 1, 1) := by decide +kernel
theorem dX12_writeEnd_13 : decode cX12_writeEnd 13 = .ok (.isub, 1) := by decide +kernel
theorem dX12_writeEnd_14 : decode cX12_writeEnd 14 = .ok (.iload_n 2, 1) := by decide +kernel
theorem dX12_writeEnd_15 : decode cX12_writeEnd 15 = .ok (.invokevirtual 240, 3) := by decide +kernel
theorem dX12_writeEnd_18 : decode cX12_writeEnd 18 = .ok (.if_icmp .ne 20, 3) := by decide +kernel
theorem dX12_writeEnd_21 : decode cX12_writeEnd 21 = .ok (.aload_n 0, 1) := by decide +kernel
theorem dX12_writeEnd_22 : decode cX12_writeEnd 22 = .ok (.iload_n 1, 1) := by decide +kernel
theorem dX12_writeEnd_23 : decode cX12_writeEnd 23 = .ok (.iload_n 3, 1) := by decide +kernel
theorem dX12_writeEnd_24 : decode cX12_writeEnd 24 = .ok (.invokevirtual 240, 3) := by decide +kernel
theorem dX12_writeEnd_27 : decode cX12_writeEnd 27 = .ok (.aload_n 0, 1) := by decide +kernel
theorem dX12_writeEnd_28 : decode cX12_writeEnd 28 = .ok (.iload_n 1, 1) := by decide +kernel
theorem dX12_writeEnd_29 : decode cX12_writeEnd 29 = .ok (.iconst 1, 1) := by decide +kernel
theorem dX12_writeEnd_30 : decode cX12_writeEnd 30 = .ok (.isub, 1) := by decide +kernel
theorem dX12_writeEnd_31 : decode cX12_writeEnd 31 = .ok (.iload_n 3, 1) := by decide +kernel
theorem dX12_writeEnd_32 : decode cX12_writeEnd 32 = .ok (.invokevirtual 240, 3) := by decide +kernel
theorem dX12_writeEnd_35 : decode cX12_writeEnd 35 = .ok (.if_icmp .eq 7, 3) := by decide +kernel
theorem dX12_writeEnd_38 : decode cX12_writeEnd 38 = .ok (.iconst 1, 1) := by decide +kernel
theorem dX12_writeEnd_39 : decode cX12_writeEnd 39 = .ok (.goto 4, 3) := by decide +kernel
theorem dX12_writeEnd_42 : decode cX12_writeEnd 42 = .ok (.iconst 0, 1) := by decide +kernel
theorem dX12_writeEnd_43 : decode cX12_writeEnd 43 = .ok (.istore 4, 2) := by decide +kernel
theorem dX12_writeEnd_45 : decode cX12_writeEnd 45 = .ok (.iload 4, 2) := by decide +kernel
theorem dX12_writeEnd_47 : decode cX12_writeEnd 47 = .ok (.ifCond .eq 10, 3) := by decide +kernel
theorem dX12_writeEnd_50 : decode cX12_writeEnd 50 = .ok (.aload_n 0, 1) := by decide +kernel
theorem dX12_writeEnd_51 : decode cX12_writeEnd 51 = .ok (.ldc_w 509, 3) := by decide +kernel
theorem dX12_writeEnd_54 : decode cX12_writeEnd 54 = .ok (.invokevirtual 463, 3) := by decide +kernel
theorem dX12_writeEnd_57 : decode cX12_writeEnd 57 = .ok (.aload_n 0, 1) := by decide +kernel
theorem dX12_writeEnd_58 : decode cX12_writeEnd 58 = .ok (.bipush 10, 2) := by decide +kernel
theorem dX12_writeEnd_60 : decode cX12_writeEnd 60 = .ok (.invokevirtual 448, 3) := by decide +kernel
theorem dX12_writeEnd_63 : decode cX12_writeEnd 63 = .ok (.return_, 1) := by decide +kernel
theorem dX12_writeTariff_0 : decode cX12_writeTariff 0 = .ok (.aload_n 0, 1) := by decide +kernel
theorem dX12_writeTariff_1 : decode cX12_writeTariff 1 = .ok (.iload_n 1, 1) := by decide +kernel
theorem dX12_writeTariff_2 : decode cX12_writeTariff 2 = .ok (.i2l, 1) := by decide +kernel
theorem dX12_writeTariff_3 : decode cX12_writeTariff 3 = .ok (.lconst 0, 1) := by decide +kernel
theorem dX12_writeTariff_4 : decode cX12_writeTariff 4 = .ok (.aload_n 0, 1) := by decide +kernel
theorem dX12_writeTariff_5 : decode cX12_writeTariff 5 = .ok (.invokevirtual 256, 3) := by decide +kernel
theorem dX12_writeTariff_8 : decode cX12_writeTariff 8 = .ok (.i2l, 1) := by decide +kernel
theorem dX12_writeTariff_9 : decode cX12_writeTariff 9 = .ok (.invokestatic 47, 3) := by decide +kernel
theorem dX12_writeTariff_12 : decode cX12_writeTariff 12 = .ok (.invokevirtual 62, 3) := by decide +kernel
theorem dX12_writeTariff_15 : decode cX12_writeTariff 15 = .ok (.ifCond .ne 5, 3) := by decide +kernel
theorem dX12_writeTariff_18 : decode cX12_writeTariff 18 = .ok (.iconst 0, 1) := by decide +kernel
theorem dX12_writeTariff_19 : decode cX12_writeTariff 19 = .ok (.ireturn, 1) := by decide +kernel
theorem dX12_writeTariff_20 : decode cX12_writeTariff 20 = .ok (.aload_n 0, 1) := by decide +kernel
theorem dX12_writeTariff_21 : decode cX12_writeTariff 21 = .ok (.iconst 0, 1) := by decide +kernel
theorem dX12_writeTariff_22 : decode cX12_writeTariff 22 = .ok (.putfield 445, 3) := by decide +kernel
theorem dX12_writeTariff_25 : decode cX12_writeTariff 25 = .ok (.aload_n 0, 1) := by decide +kernel
theorem dX12_writeTariff_26 : decode cX12_writeTariff 26 = .ok (.ldc_w 511, 3) := by decide +kernel
theorem dX12_writeTariff_29 : decode cX12_writeTariff 29 = .ok (.iload_n 1, 1) := by decide +kernel
theorem dX12_writeTariff_30 : decode cX12_writeTariff 30 = .ok (.i2l, 1) := by decide +kernel
theorem dX12_writeTariff_31 : decode cX12_writeTariff 31 = .ok (.invokevirtual 478, 3) := by decide +kernel
theorem dX12_writeTariff_34 : decode cX12_writeTariff 34 = .ok (.aload_n 0, 1) := by decide +kernel
theorem dX12_writeTariff_35 : decode cX12_writeTariff 35 = .ok (.aload_n 0, 1) := by decide +kernel
theorem dX12_writeTariff_36 : decode cX12_writeTariff 36 = .ok (.getfield 17, 3) := by decide +kernel
theorem dX12_writeTariff_39 : decode cX12_writeTariff 39 = .ok (.bipush 8, 2) := by decide +kernel
theorem dX12_writeTariff_41 : decode cX12_writeTariff 41 = .ok (.iaload, 1) := by decide +kernel
theorem dX12_writeTariff_42 : decode cX12_writeTariff 42 = .ok (.ifCond .ne 9, 3) := by decide +kernel
theorem dX12_writeTariff_45 : decode cX12_writeTariff 45 = .ok (.ldc_w 513, 3) := by decide +kernel
theorem dX12_writeTariff_48 : decode cX12_writeTariff 48 = .ok (.goto 6, 3) := by decide +kernel
theorem dX12_writeTariff_51 : decode cX12_writeTariff 51 = .ok (.ldc_w 515, 3) := by decide +kernel
theorem dX12_writeTariff_54 : decode cX12_writeTariff 54 = .ok (.invokevirtual 463, 3) := by decide +kernel
theorem dX12_writeTariff_57 : decode cX12_writeTariff 57 = .ok (.iconst 0, 1) := by decide +kernel
theorem dX12_writeTariff_58 : decode cX12_writeTariff 58 = .ok (.istore_n 2, 1) := by decide +kernel
theorem dX12_writeTariff_59 : decode cX12_writeTariff 59 = .ok (.iload_n 2, 1) := by decide +kernel
theorem dX12_writeTariff_60 : decode cX12_writeTariff 60 = .ok (.aload_n 0, 1) := by decide +kernel
theorem dX12_writeTariff_61 : decode cX12_writeTariff 61 = .ok (.getfield 17, 3) := by decide +kernel
theorem dX12_writeTariff_64 : decode cX12_writeTariff 64 = .ok (.bipush 6, 2) := by decide +kernel
theorem dX12_writeTariff_66 : decode cX12_writeTariff 66 = .ok (.iaload, 1) := by decide +kernel
theorem dX12_writeTariff_67 : decode cX12_writeTariff 67 = .ok (.if_icmp .ge 53, 3) := by decide +kernel
theorem dX12_writeTariff_70 : decode cX12_writeTariff 70 = .ok (.aload_n 0, 1) := by decide +kernel
theorem dX12_writeTariff_71 : decode cX12_writeTariff 71 = .ok (.ldc_w 517, 3) := by decide +kernel
theorem dX12_writeTariff_74 : decode cX12_writeTariff 74 = .ok (.aload_n 0, 1) := by decide +kernel
theorem dX12_writeTariff_75 : decode cX12_writeTariff 75 = .ok (.getfield 17, 3) := by decide +kernel
theorem dX12_writeTariff_78 : decode cX12_writeTariff 78 = .ok (.bipush 12, 2) := by decide +kernel
theorem dX12_writeTariff_80 : decode cX12_writeTariff 80 = .ok (.iload_n 2, 1) := by decide +kernel
theorem dX12_writeTariff_81 : decode cX12_writeTariff 81 = .ok (.iadd, 1) := by decide +kernel
theorem dX12_writeTariff_82 : decode cX12_writeTariff 82 = .ok (.iaload, 1) := by decide +kernel
theorem dX12_writeTariff_83 : decode cX12_writeTariff 83 = .ok (.i2l, 1) := by decide +kernel
theorem dX12_writeTariff_84 : decode cX12_writeTariff 84 = .ok (.invokevirtual 478, 3) := by decide +kernel
theorem dX12_writeTariff_87 : decode cX12_writeTariff 87 = .ok (.aload_n 0, 1) := by decide +kernel
theorem dX12_writeTariff_88 : decode cX12_writeTariff 88 = .ok (.ldc_w 519, 3) := by decide +kernel
theorem dX12_writeTariff_91 : decode cX12_writeTariff 91 = .ok (.aload_n 0, 1) := by decide +kernel
theorem dX12_writeTariff_92 : decode cX12_writeTariff 92 = .ok (.iload_n 1, 1) := by decide +kernel
theorem dX12_writeTariff_93 : decode cX12_writeTariff 93 = .ok (.iconst 0, 1) := by decide +kernel
theorem dX12_writeTariff_94 : decode cX12_writeTariff 94 = .ok (.iload_n 2, 1) := by decide +kernel
theorem dX12_writeTariff_95 : decode cX12_writeTariff 95 = .ok (.iadd, 1) := by decide +kernel
theorem dX12_writeTariff_96 : decode cX12_writeTariff 96 = .ok (.invokevirtual 240, 3) := by decide +kernel
theorem dX12_writeTariff_99 : decode cX12_writeTariff 99 = .ok (.i2l, 1) := by decide +kernel
theorem dX12_writeTariff_100 : decode cX12_writeTariff 100 = .ok (.invokevirtual 478, 3) := by decide +kernel
theorem dX12_writeTariff_103 : decode cX12_writeTariff 103 = .ok (.aload_n 0, 1) := by decide +kernel
theorem dX12_writeTariff_104 : decode cX12_writeTariff 104 = .ok (.iload_n 1, 1) := by decide +kernel
theorem dX12_writeTariff_105 : decode cX12_writeTariff 105 = .ok (.iconst 0, 1) := by decide +kernel
theorem dX12_writeTariff_106 : decode cX12_writeTariff 106 = .ok (.iload_n 2, 1) := by decide +kernel
theorem dX12_writeTariff_107 : decode cX12_writeTariff 107 = .ok (.iadd, 1) := by decide +kernel
theorem dX12_writeTariff_108 : decode cX12_writeTariff 108 = .ok (.iconst 0, 1) := by decide +kernel
theorem dX12_writeTariff_109 : decode cX12_writeTariff 109 = .ok (.iload_n 2, 1) := by decide +kernel
theorem dX12_writeTariff_110 : decode cX12_writeTariff 110 = .ok (.iadd, 1) := by decide +kernel
theorem dX12_writeTariff_111 : decode cX12_writeTariff 111 = .ok (.invokevirtual 521, 3) := by decide +kernel
theorem dX12_writeTariff_114 : decode cX12_writeTariff 114 = .ok (.iinc 2 1, 3) := by decide +kernel
theorem dX12_writeTariff_117 : decode cX12_writeTariff 117 = .ok (.goto (-58), 3) := by decide +kernel
theorem dX12_writeTariff_120 : decode cX12_writeTariff 120 = .ok (.iconst 0, 1) := by decide +kernel
theorem dX12_writeTariff_121 : decode cX12_writeTariff 121 = .ok (.istore_n 2, 1) := by decide +kernel
theorem dX12_writeTariff_122 : decode cX12_writeTariff 122 = .ok (.iload_n 2, 1) := by decide +kernel
theorem dX12_writeTariff_123 : decode cX12_writeTariff 123 = .ok (.aload_n 0, 1) := by decide +kernel
theorem dX12_writeTariff_124 : decode cX12_writeTariff 124 = .ok (.getfield 17, 3) := by decide +kernel
theorem dX12_writeTariff_127 : decode cX12_writeTariff 127 = .ok (.bipush 7, 2) := by decide +kernel
theorem dX12_writeTariff_129 : decode cX12_writeTariff 129 = .ok (.iaload, 1) := by decide +kernel
theorem dX12_writeTariff_130 : decode cX12_writeTariff 130 = .ok (.if_icmp .ge 56, 3) := by decide +kernel
theorem dX12_writeTariff_133 : decode cX12_writeTariff 133 = .ok (.aload_n 0, 1) := by decide +kernel
theorem dX12_writeTariff_134 : decode cX12_writeTariff 134 = .ok (.ldc_w 468, 3) := by decide +kernel
theorem dX12_writeTariff_137 : decode cX12_writeTariff 137 = .ok (.aload_n 0, 1) := by decide +kernel
theorem dX12_writeTariff_138 : decode cX12_writeTariff 138 = .ok (.getfield 17, 3) := by decide +kernel
theorem dX12_writeTariff_141 : decode cX12_writeTariff 141 = .ok (.bipush 18, 2) := by decide +kernel
theorem dX12_writeTariff_143 : decode cX12_writeTariff 143 = .ok (.iload_n 2, 1) := by decide +kernel
theorem dX12_writeTariff_144 : decode cX12_writeTariff 144 = .ok (.iadd, 1) := by decide +kernel
theorem dX12_writeTariff_145 : decode cX12_writeTariff 145 = .ok (.iaload, 1) := by decide +kernel
theorem dX12_writeTariff_146 : decode cX12_writeTariff 146 = .ok (.i2l, 1) := by decide +kernel
theorem dX12_writeTariff_147 : decode cX12_writeTariff 147 = .ok (.invokevirtual 478, 3) := by decide +kernel
theorem dX12_writeTariff_150 : decode cX12_writeTariff 150 = .ok (.aload_n 0, 1) := by decide +kernel
theorem dX12_writeTariff_151 : decode cX12_writeTariff 151 = .ok (.ldc_w 524, 3) := by decide +kernel
theorem dX12_writeTariff_154 : decode cX12_writeTariff 154 = .ok (.aload_n 0, 1) := by decide +kernel
theorem dX12_writeTariff_155 : decode cX12_writeTariff 155 = .ok (.iload_n 1, 1) := by decide +kernel
theorem dX12_writeTariff_156 : decode cX12_writeTariff 156 = .ok (.bipush 6, 2) := by decide +kernel
theorem dX12_writeTariff_158 : decode cX12_writeTariff 158 = .ok (.iload_n 2, 1) := by decide +kernel
theorem dX12_writeTariff_159 : decode cX12_writeTariff 159 = .ok (.iadd, 1) := by decide +kernel
theorem dX12_writeTariff_160 : decode cX12_writeTariff 160 = .ok (.invokevirtual 240, 3) := by decide +kernel
theorem dX12_writeTariff_163 : decode cX12_writeTariff 163 = .ok (.i2l, 1) := by decide +kernel
theorem dX12_writeTariff_164 : decode cX12_writeTariff 164 = .ok (.invokevirtual 478, 3) := by decide +kernel
theorem dX12_writeTariff_167 : decode cX12_writeTariff 167 = .ok (.aload_n 0, 1) := by decide +kernel
theorem dX12_writeTariff_168 : decode cX12_writeTariff 168 = .ok (.iload_n 1, 1) := by decide +kernel
theorem dX12_writeTariff_169 : decode cX12_writeTariff 169 = .ok (.bipush 6, 2) := by decide +kernel
theorem dX12_writeTariff_171 : decode cX12_writeTariff 171 = .ok (.iload_n 2, 1) := by decide +kernel
theorem dX12_writeTariff_172 : decode cX12_writeTariff 172 = .ok (.iadd, 1) := by decide +kernel
theorem dX12_writeTariff_173 : decode cX12_writeTariff 173 = .ok (.bipush 6, 2) := by decide +kernel
theorem dX12_writeTariff_175 : decode cX12_writeTariff 175 = .ok (.iload_n 2, 1) := by decide +kernel
theorem dX12_writeTariff_176 : decode cX12_writeTariff 176 = .ok (.iadd, 1) := by decide +kernel
theorem dX12_writeTariff_177 : decode cX12_writeTariff 177 = .ok (.invokevirtual 521, 3) := by decide +kernel
theorem dX12_writeTariff_180 : decode cX12_writeTariff 180 = .ok (.iinc 2 1, 3) := by decide +kernel
theorem dX12_writeTariff_183 : decode cX12_writeTariff 183 = .ok (.goto (-61), 3) := by decide +kernel
theorem dX12_writeTariff_186 : decode cX12_writeTariff 186 = .ok (.aload_n 0, 1) := by decide +kernel
theorem dX12_writeTariff_187 : decode cX12_writeTariff 187 = .ok (.ldc_w 526, 3) := by decide +kernel
theorem dX12_writeTariff_190 : decode cX12_writeTariff 190 = .ok (.aload_n 0, 1) := by decide +kernel
theorem dX12_writeTariff_191 : decode cX12_writeTariff 191 = .ok (.getfield 17, 3) := by decide +kernel
theorem dX12_writeTariff_194 : decode cX12_writeTariff 194 = .ok (.bipush 9, 2) := by decide +kernel
theorem dX12_writeTariff_196 : decode cX12_writeTariff 196 = .ok (.iaload, 1) := by decide +kernel
theorem dX12_writeTariff_197 : decode cX12_writeTariff 197 = .ok (.i2l, 1) := by decide +kernel
theorem dX12_writeTariff_198 : decode cX12_writeTariff 198 = .ok (.invokevirtual 478, 3) := by decide +kernel
theorem dX12_writeTariff_201 : decode cX12_writeTariff 201 = .ok (.aload_n 0, 1) := by decide +kernel
theorem dX12_writeTariff_202 : decode cX12_writeTariff 202 = .ok (.ldc_w 528, 3) := by decide +kernel
theorem dX12_writeTariff_205 : decode cX12_writeTariff 205 = .ok (.aload_n 0, 1) := by decide +kernel
theorem dX12_writeTariff_206 : decode cX12_writeTariff 206 = .ok (.getfield 17, 3) := by decide +kernel
theorem dX12_writeTariff_209 : decode cX12_writeTariff 209 = .ok (.bipush 10, 2) := by decide +kernel
theorem dX12_writeTariff_211 : decode cX12_writeTariff 211 = .ok (.iaload, 1) := by decide +kernel
theorem dX12_writeTariff_212 : decode cX12_writeTariff 212 = .ok (.i2l, 1) := by decide +kernel
theorem dX12_writeTariff_213 : decode cX12_writeTariff 213 = .ok (.invokevirtual 478, 3) := by decide +kernel
theorem dX12_writeTariff_216 : decode cX12_writeTariff 216 = .ok (.aload_n 0, 1) := by decide +kernel
theorem dX12_writeTariff_217 : decode cX12_writeTariff 217 = .ok (.ldc_w 530, 3) := by decide +kernel
theorem dX12_writeTariff_220 : decode cX12_writeTariff 220 = .ok (.aload_n 0, 1) := by decide +kernel
theorem dX12_writeTariff_221 : decode cX12_writeTariff 221 = .ok (.getfield 17, 3) := by decide +kernel
theorem dX12_writeTariff_224 : decode cX12_writeTariff 224 = .ok (.bipush 11, 2) := by decide +kernel
theorem dX12_writeTariff_226 : decode cX12_writeTariff 226 = .ok (.iaload, 1) := by decide +kernel
theorem dX12_writeTariff_227 : decode cX12_writeTariff 227 = .ok (.i2l, 1) := by decide +kernel
theorem dX12_writeTariff_228 : decode cX12_writeTariff 228 = .ok (.invokevirtual 478, 3) := by decide +kernel
theorem dX12_writeTariff_231 : decode cX12_writeTariff 231 = .ok (.aload_n 0, 1) := by decide +kernel
theorem dX12_writeTariff_232 : decode cX12_writeTariff 232 = .ok (.bipush 10, 2) := by decide +kernel
theorem dX12_writeTariff_234 : decode cX12_writeTariff 234 = .ok (.invokevirtual 448, 3) := by decide +kernel
theorem dX12_writeTariff_237 : decode cX12_writeTariff 237 = .ok (.aload_n 0, 1) := by decide +kernel
theorem dX12_writeTariff_238 : decode cX12_writeTariff 238 = .ok (.ldc_w 532, 3) := by decide +kernel
theorem dX12_writeTariff_241 : decode cX12_writeTariff 241 = .ok (.aload_n 0, 1) := by decide +kernel
theorem dX12_writeTariff_242 : decode cX12_writeTariff 242 = .ok (.iload_n 1, 1) := by decide +kernel
theorem dX12_writeTariff_243 : decode cX12_writeTariff 243 = .ok (.bipush 10, 2) := by decide +kernel
theorem dX12_writeTariff_245 : decode cX12_writeTariff 245 = .ok (.invokevirtual 240, 3) := by decide +kernel
theorem dX12_writeTariff_248 : decode cX12_writeTariff 248 = .ok (.i2l, 1) := by decide +kernel
theorem dX12_writeTariff_249 : decode cX12_writeTariff 249 = .ok (.invokevirtual 478, 3) := by decide +kernel
theorem dX12_writeTariff_252 : decode cX12_writeTariff 252 = .ok (.aload_n 0, 1) := by decide +kernel
theorem dX12_writeTariff_253 : decode cX12_writeTariff 253 = .ok (.ldc_w 519, 3) := by decide +kernel
theorem dX12_writeTariff_256 : decode cX12_writeTariff 256 = .ok (.aload_n 0, 1) := by decide +kernel
theorem dX12_writeTariff_257 : decode cX12_writeTariff 257 = .ok (.iload_n 1, 1) := by decide +kernel
theorem dX12_writeTariff_258 : decode cX12_writeTariff 258 = .ok (.bipush 11, 2) := by decide +kernel
theorem dX12_writeTariff_260 : decode cX12_writeTariff 260 = .ok (.invokevirtual 240, 3) := by decide +kernel
theorem dX12_writeTariff_263 : decode cX12_writeTariff 263 = .ok (.i2l, 1) := by decide +kernel
theorem dX12_writeTariff_264 : decode cX12_writeTariff 264 = .ok (.invokevirtual 478, 3) := by decide +kernel
theorem dX12_writeTariff_267 : decode cX12_writeTariff 267 = .ok (.aload_n 0, 1) := by decide +kernel
theorem dX12_writeTariff_268 : decode cX12_writeTariff 268 = .ok (.iload_n 1, 1) := by decide +kernel
theorem dX12_writeTariff_269 : decode cX12_writeTariff 269 = .ok (.bipush 10, 2) := by decide +kernel
theorem dX12_writeTariff_271 : decode cX12_writeTariff 271 = .ok (.bipush 11, 2) := by decide +kernel
theorem dX12_writeTariff_273 : decode cX12_writeTariff 273 = .ok (.invokevirtual 521, 3) := by decide +kernel
theorem dX12_writeTariff_276 : decode cX12_writeTariff 276 = .ok (.aload_n 0, 1) := by decide +kernel
theorem dX12_writeTariff_277 : decode cX12_writeTariff 277 = .ok (.getfield 445, 3) := by decide +kernel
theorem dX12_writeTariff_280 : decode cX12_writeTariff 280 = .ok (.ireturn, 1) := by decide +kernel
theorem dX12_outputByte_0 : decode cX12_outputByte 0 = .ok (.aload_n 0, 1) := by decide +kernel
theorem dX12_outputByte_1 : decode cX12_outputByte 1 = .ok (.iload_n 1, 1) := by decide +kernel
theorem dX12_outputByte_2 : decode cX12_outputByte 2 = .ok (.i2l, 1) := by decide +kernel
theorem dX12_outputByte_3 : decode cX12_outputByte 3 = .ok (.lconst 0, 1) := by decide +kernel
theorem dX12_outputByte_4 : decode cX12_outputByte 4 = .ok (.aload_n 0, 1) := by decide +kernel
theorem dX12_outputByte_5 : decode cX12_outputByte 5 = .ok (.getfield 445, 3) := by decide +kernel
theorem dX12_outputByte_8 : decode cX12_outputByte 8 = .ok (.iconst 1, 1) := by decide +kernel
theorem dX12_outputByte_9 : decode cX12_outputByte 9 = .ok (.isub, 1) := by decide +kernel
theorem dX12_outputByte_10 : decode cX12_outputByte 10 = .ok (.i2l, 1) := by decide +kernel
theorem dX12_outputByte_11 : decode cX12_outputByte 11 = .ok (.invokestatic 47, 3) := by decide +kernel
theorem dX12_outputByte_14 : decode cX12_outputByte 14 = .ok (.invokevirtual 62, 3) := by decide +kernel
theorem dX12_outputByte_17 : decode cX12_outputByte 17 = .ok (.ifCond .eq 12, 3) := by decide +kernel
theorem dX12_outputByte_20 : decode cX12_outputByte 20 = .ok (.aload_n 0, 1) := by decide +kernel
theorem dX12_outputByte_21 : decode cX12_outputByte 21 = .ok (.getfield 44, 3) := by decide +kernel
theorem dX12_outputByte_24 : decode cX12_outputByte 24 = .ok (.iload_n 1, 1) := by decide +kernel
theorem dX12_outputByte_25 : decode cX12_outputByte 25 = .ok (.baload, 1) := by decide +kernel
theorem dX12_outputByte_26 : decode cX12_outputByte 26 = .ok (.goto 4, 3) := by decide +kernel
theorem dX12_outputByte_29 : decode cX12_outputByte 29 = .ok (.iconst 0, 1) := by decide +kernel
theorem dX12_outputByte_30 : decode cX12_outputByte 30 = .ok (.ireturn, 1) := by decide +kernel
theorem dL_append_0 : decode cL_append 0 = .ok (.aload 6, 2) := by decide +kernel
theorem dL_append_2 : decode cL_append 2 = .ok (.iconst 0, 1) := by decide +kernel
theorem dL_append_3 : decode cL_append 3 = .ok (.aload_n 0, 1) := by decide +kernel
theorem dL_append_4 : decode cL_append 4 = .ok (.iload_n 1, 1) := by decide +kernel
theorem dL_append_5 : decode cL_append 5 = .ok (.iload_n 2, 1) := by decide +kernel
theorem dL_append_6 : decode cL_append 6 = .ok (.iload_n 3, 1) := by decide +kernel
theorem dL_append_7 : decode cL_append 7 = .ok (.iload 4, 2) := by decide +kernel
theorem dL_append_9 : decode cL_append 9 = .ok (.iload 5, 2) := by decide +kernel
theorem dL_append_11 : decode cL_append 11 = .ok (.invokevirtual 7, 3) := by decide +kernel
theorem dL_append_14 : decode cL_append 14 = .ok (.i2l, 1) := by decide +kernel
theorem dL_append_15 : decode cL_append 15 = .ok (.lastore, 1) := by decide +kernel
theorem dL_append_16 : decode cL_append 16 = .ok (.goto 7, 3) := by decide +kernel
theorem dL_append_19 : decode cL_append 19 = .ok (.astore 7, 2) := by decide +kernel
theorem dL_append_21 : decode cL_append 21 = .ok (.iconst 1, 1) := by decide +kernel
theorem dL_append_22 : decode cL_append 22 = .ok (.ireturn, 1) := by decide +kernel
theorem dL_append_23 : decode cL_append 23 = .ok (.iconst 0, 1) := by decide +kernel
theorem dL_append_24 : decode cL_append 24 = .ok (.ireturn, 1) := by decide +kernel
theorem dL_truncate_0 : decode cL_truncate 0 = .ok (.aload_n 0, 1) := by decide +kernel
theorem dL_truncate_1 : decode cL_truncate 1 = .ok (.iload_n 1, 1) := by decide +kernel
theorem dL_truncate_2 : decode cL_truncate 2 = .ok (.invokevirtual 15, 3) := by decide +kernel
theorem dL_truncate_5 : decode cL_truncate 5 = .ok (.goto 6, 3) := by decide +kernel
theorem dL_truncate_8 : decode cL_truncate 8 = .ok (.astore_n 2, 1) := by decide +kernel
theorem dL_truncate_9 : decode cL_truncate 9 = .ok (.iconst 1, 1) := by decide +kernel
theorem dL_truncate_10 : decode cL_truncate 10 = .ok (.ireturn, 1) := by decide +kernel
theorem dL_truncate_11 : decode cL_truncate 11 = .ok (.iconst 0, 1) := by decide +kernel
theorem dL_truncate_12 : decode cL_truncate 12 = .ok (.ireturn, 1) := by decide +kernel
theorem dL_count_0 : decode cL_count 0 = .ok (.aload_n 2, 1) := by decide +kernel
theorem dL_count_1 : decode cL_count 1 = .ok (.iconst 0, 1) := by decide +kernel
theorem dL_count_2 : decode cL_count 2 = .ok (.aload_n 0, 1) := by decide +kernel
theorem dL_count_3 : decode cL_count 3 = .ok (.iload_n 1, 1) := by decide +kernel
theorem dL_count_4 : decode cL_count 4 = .ok (.invokevirtual 21, 3) := by decide +kernel
theorem dL_count_7 : decode cL_count 7 = .ok (.i2l, 1) := by decide +kernel
theorem dL_count_8 : decode cL_count 8 = .ok (.lastore, 1) := by decide +kernel
theorem dL_count_9 : decode cL_count 9 = .ok (.goto 6, 3) := by decide +kernel
theorem dL_count_12 : decode cL_count 12 = .ok (.astore_n 3, 1) := by decide +kernel
theorem dL_count_13 : decode cL_count 13 = .ok (.iconst 1, 1) := by decide +kernel
theorem dL_count_14 : decode cL_count 14 = .ok (.ireturn, 1) := by decide +kernel
theorem dL_count_15 : decode cL_count 15 = .ok (.iconst 0, 1) := by decide +kernel
theorem dL_count_16 : decode cL_count 16 = .ok (.ireturn, 1) := by decide +kernel
theorem dL_tariff_0 : decode cL_tariff 0 = .ok (.aload_n 2, 1) := by decide +kernel
theorem dL_tariff_1 : decode cL_tariff 1 = .ok (.iconst 0, 1) := by decide +kernel
theorem dL_tariff_2 : decode cL_tariff 2 = .ok (.aload_n 0, 1) := by decide +kernel
theorem dL_tariff_3 : decode cL_tariff 3 = .ok (.iload_n 1, 1) := by decide +kernel
theorem dL_tariff_4 : decode cL_tariff 4 = .ok (.invokevirtual 25, 3) := by decide +kernel
theorem dL_tariff_7 : decode cL_tariff 7 = .ok (.i2l, 1) := by decide +kernel
theorem dL_tariff_8 : decode cL_tariff 8 = .ok (.lastore, 1) := by decide +kernel
theorem dL_tariff_9 : decode cL_tariff 9 = .ok (.goto 6, 3) := by decide +kernel
theorem dL_tariff_12 : decode cL_tariff 12 = .ok (.astore_n 3, 1) := by decide +kernel
theorem dL_tariff_13 : decode cL_tariff 13 = .ok (.iconst 1, 1) := by decide +kernel
theorem dL_tariff_14 : decode cL_tariff 14 = .ok (.ireturn, 1) := by decide +kernel
theorem dL_tariff_15 : decode cL_tariff 15 = .ok (.iconst 0, 1) := by decide +kernel
theorem dL_tariff_16 : decode cL_tariff 16 = .ok (.ireturn, 1) := by decide +kernel
theorem dL_band_0 : decode cL_band 0 = .ok (.aload_n 3, 1) := by decide +kernel
theorem dL_band_1 : decode cL_band 1 = .ok (.iconst 0, 1) := by decide +kernel
theorem dL_band_2 : decode cL_band 2 = .ok (.aload_n 0, 1) := by decide +kernel
theorem dL_band_3 : decode cL_band 3 = .ok (.iload_n 1, 1) := by decide +kernel
theorem dL_band_4 : decode cL_band 4 = .ok (.iload_n 2, 1) := by decide +kernel
theorem dL_band_5 : decode cL_band 5 = .ok (.invokevirtual 28, 3) := by decide +kernel
theorem dL_band_8 : decode cL_band 8 = .ok (.i2l, 1) := by decide +kernel
theorem dL_band_9 : decode cL_band 9 = .ok (.lastore, 1) := by decide +kernel
theorem dL_band_10 : decode cL_band 10 = .ok (.goto 11, 3) := by decide +kernel
theorem dL_band_13 : decode cL_band 13 = .ok (.astore 4, 2) := by decide +kernel
theorem dL_band_15 : decode cL_band 15 = .ok (.iconst 1, 1) := by decide +kernel
theorem dL_band_16 : decode cL_band 16 = .ok (.ireturn, 1) := by decide +kernel
theorem dL_band_17 : decode cL_band 17 = .ok (.astore 4, 2) := by decide +kernel
theorem dL_band_19 : decode cL_band 19 = .ok (.iconst 2, 1) := by decide +kernel
theorem dL_band_20 : decode cL_band 20 = .ok (.ireturn, 1) := by decide +kernel
theorem dL_band_21 : decode cL_band 21 = .ok (.iconst 0, 1) := by decide +kernel
theorem dL_band_22 : decode cL_band 22 = .ok (.ireturn, 1) := by decide +kernel
theorem dL_rebate_0 : decode cL_rebate 0 = .ok (.aload_n 3, 1) := by decide +kernel
theorem dL_rebate_1 : decode cL_rebate 1 = .ok (.iconst 0, 1) := by decide +kernel
theorem dL_rebate_2 : decode cL_rebate 2 = .ok (.aload_n 0, 1) := by decide +kernel
theorem dL_rebate_3 : decode cL_rebate 3 = .ok (.iload_n 1, 1) := by decide +kernel
theorem dL_rebate_4 : decode cL_rebate 4 = .ok (.iload_n 2, 1) := by decide +kernel
theorem dL_rebate_5 : decode cL_rebate 5 = .ok (.invokevirtual 34, 3) := by decide +kernel
theorem dL_rebate_8 : decode cL_rebate 8 = .ok (.i2l, 1) := by decide +kernel
theorem dL_rebate_9 : decode cL_rebate 9 = .ok (.lastore, 1) := by decide +kernel
theorem dL_rebate_10 : decode cL_rebate 10 = .ok (.goto 11, 3) := by decide +kernel
theorem dL_rebate_13 : decode cL_rebate 13 = .ok (.astore 4, 2) := by decide +kernel
theorem dL_rebate_15 : decode cL_rebate 15 = .ok (.iconst 1, 1) := by decide +kernel
theorem dL_rebate_16 : decode cL_rebate 16 = .ok (.ireturn, 1) := by decide +kernel
theorem dL_rebate_17 : decode cL_rebate 17 = .ok (.astore 4, 2) := by decide +kernel
theorem dL_rebate_19 : decode cL_rebate 19 = .ok (.iconst 2, 1) := by decide +kernel
theorem dL_rebate_20 : decode cL_rebate 20 = .ok (.ireturn, 1) := by decide +kernel
theorem dL_rebate_21 : decode cL_rebate 21 = .ok (.iconst 0, 1) := by decide +kernel
theorem dL_rebate_22 : decode cL_rebate 22 = .ok (.ireturn, 1) := by decide +kernel
theorem dL_bandOf_0 : decode cL_bandOf 0 = .ok (.aload_n 2, 1) := by decide +kernel
theorem dL_bandOf_1 : decode cL_bandOf 1 = .ok (.iconst 0, 1) := by decide +kernel
theorem dL_bandOf_2 : decode cL_bandOf 2 = .ok (.aload_n 0, 1) := by decide +kernel
theorem dL_bandOf_3 : decode cL_bandOf 3 = .ok (.iload_n 1, 1) := by decide +kernel
theorem dL_bandOf_4 : decode cL_bandOf 4 = .ok (.invokevirtual 37, 3) := by decide +kernel
theorem dL_bandOf_7 : decode cL_bandOf 7 = .ok (.i2l, 1) := by decide +kernel
theorem dL_bandOf_8 : decode cL_bandOf 8 = .ok (.lastore, 1) := by decide +kernel
theorem dL_bandOf_9 : decode cL_bandOf 9 = .ok (.goto 6, 3) := by decide +kernel
theorem dL_bandOf_12 : decode cL_bandOf 12 = .ok (.astore_n 3, 1) := by decide +kernel
theorem dL_bandOf_13 : decode cL_bandOf 13 = .ok (.iconst 1, 1) := by decide +kernel
theorem dL_bandOf_14 : decode cL_bandOf 14 = .ok (.ireturn, 1) := by decide +kernel
theorem dL_bandOf_15 : decode cL_bandOf 15 = .ok (.iconst 0, 1) := by decide +kernel
theorem dL_bandOf_16 : decode cL_bandOf 16 = .ok (.ireturn, 1) := by decide +kernel
theorem dL_dues_0 : decode cL_dues 0 = .ok (.aload_n 2, 1) := by decide +kernel
theorem dL_dues_1 : decode cL_dues 1 = .ok (.iconst 0, 1) := by decide +kernel
theorem dL_dues_2 : decode cL_dues 2 = .ok (.aload_n 0, 1) := by decide +kernel
theorem dL_dues_3 : decode cL_dues 3 = .ok (.iload_n 1, 1) := by decide +kernel
theorem dL_dues_4 : decode cL_dues 4 = .ok (.invokevirtual 40, 3) := by decide +kernel
theorem dL_dues_7 : decode cL_dues 7 = .ok (.i2l, 1) := by decide +kernel
theorem dL_dues_8 : decode cL_dues 8 = .ok (.lastore, 1) := by decide +kernel
theorem dL_dues_9 : decode cL_dues 9 = .ok (.goto 6, 3) := by decide +kernel
theorem dL_dues_12 : decode cL_dues 12 = .ok (.astore_n 3, 1) := by decide +kernel
theorem dL_dues_13 : decode cL_dues 13 = .ok (.iconst 1, 1) := by decide +kernel
theorem dL_dues_14 : decode cL_dues 14 = .ok (.ireturn, 1) := by decide +kernel
theorem dL_dues_15 : decode cL_dues 15 = .ok (.iconst 0, 1) := by decide +kernel
theorem dL_dues_16 : decode cL_dues 16 = .ok (.ireturn, 1) := by decide +kernel
theorem dL_tonsIn_0 : decode cL_tonsIn 0 = .ok (.aload_n 3, 1) := by decide +kernel
theorem dL_tonsIn_1 : decode cL_tonsIn 1 = .ok (.iconst 0, 1) := by decide +kernel
theorem dL_tonsIn_2 : decode cL_tonsIn 2 = .ok (.aload_n 0, 1) := by decide +kernel
theorem dL_tonsIn_3 : decode cL_tonsIn 3 = .ok (.iload_n 1, 1) := by decide +kernel
theorem dL_tonsIn_4 : decode cL_tonsIn 4 = .ok (.iload_n 2, 1) := by decide +kernel
theorem dL_tonsIn_5 : decode cL_tonsIn 5 = .ok (.invokevirtual 43, 3) := by decide +kernel
theorem dL_tonsIn_8 : decode cL_tonsIn 8 = .ok (.i2l, 1) := by decide +kernel
theorem dL_tonsIn_9 : decode cL_tonsIn 9 = .ok (.lastore, 1) := by decide +kernel
theorem dL_tonsIn_10 : decode cL_tonsIn 10 = .ok (.goto 11, 3) := by decide +kernel
theorem dL_tonsIn_13 : decode cL_tonsIn 13 = .ok (.astore 4, 2) := by decide +kernel
theorem dL_tonsIn_15 : decode cL_tonsIn 15 = .ok (.iconst 1, 1) := by decide +kernel
theorem dL_tonsIn_16 : decode cL_tonsIn 16 = .ok (.ireturn, 1) := by decide +kernel
theorem dL_tonsIn_17 : decode cL_tonsIn 17 = .ok (.astore 4, 2) := by decide +kernel
theorem dL_tonsIn_19 : decode cL_tonsIn 19 = .ok (.iconst 2, 1) := by decide +kernel
theorem dL_tonsIn_20 : decode cL_tonsIn 20 = .ok (.ireturn, 1) := by decide +kernel
theorem dL_tonsIn_21 : decode cL_tonsIn 21 = .ok (.iconst 0, 1) := by decide +kernel
theorem dL_tonsIn_22 : decode cL_tonsIn 22 = .ok (.ireturn, 1) := by decide +kernel
theorem dL_wasteFee_0 : decode cL_wasteFee 0 = .ok (.aload_n 2, 1) := by decide +kernel
theorem dL_wasteFee_1 : decode cL_wasteFee 1 = .ok (.iconst 0, 1) := by decide +kernel
theorem dL_wasteFee_2 : decode cL_wasteFee 2 = .ok (.aload_n 0, 1) := by decide +kernel
theorem dL_wasteFee_3 : decode cL_wasteFee 3 = .ok (.iload_n 1, 1) := by decide +kernel
theorem dL_wasteFee_4 : decode cL_wasteFee 4 = .ok (.invokevirtual 46, 3) := by decide +kernel
theorem dL_wasteFee_7 : decode cL_wasteFee 7 = .ok (.i2l, 1) := by decide +kernel
theorem dL_wasteFee_8 : decode cL_wasteFee 8 = .ok (.lastore, 1) := by decide +kernel
theorem dL_wasteFee_9 : decode cL_wasteFee 9 = .ok (.goto 6, 3) := by decide +kernel
theorem dL_wasteFee_12 : decode cL_wasteFee 12 = .ok (.astore_n 3, 1) := by decide +kernel
theorem dL_wasteFee_13 : decode cL_wasteFee 13 = .ok (.iconst 1, 1) := by decide +kernel
theorem dL_wasteFee_14 : decode cL_wasteFee 14 = .ok (.ireturn, 1) := by decide +kernel
theorem dL_wasteFee_15 : decode cL_wasteFee 15 = .ok (.iconst 0, 1) := by decide +kernel
theorem dL_wasteFee_16 : decode cL_wasteFee 16 = .ok (.ireturn, 1) := by decide +kernel
theorem dL_tons_0 : decode cL_tons 0 = .ok (.aload_n 2, 1) := by decide +kernel
theorem dL_tons_1 : decode cL_tons 1 = .ok (.iconst 0, 1) := by decide +kernel
theorem dL_tons_2 : decode cL_tons 2 = .ok (.aload_n 0, 1) := by decide +kernel
theorem dL_tons_3 : decode cL_tons 3 = .ok (.iload_n 1, 1) := by decide +kernel
theorem dL_tons_4 : decode cL_tons 4 = .ok (.invokevirtual 49, 3) := by decide +kernel
theorem dL_tons_7 : decode cL_tons 7 = .ok (.i2l, 1) := by decide +kernel
theorem dL_tons_8 : decode cL_tons 8 = .ok (.lastore, 1) := by decide +kernel
theorem dL_tons_9 : decode cL_tons 9 = .ok (.goto 6, 3) := by decide +kernel
theorem dL_tons_12 : decode cL_tons 12 = .ok (.astore_n 3, 1) := by decide +kernel
theorem dL_tons_13 : decode cL_tons 13 = .ok (.iconst 1, 1) := by decide +kernel
theorem dL_tons_14 : decode cL_tons 14 = .ok (.ireturn, 1) := by decide +kernel
theorem dL_tons_15 : decode cL_tons 15 = .ok (.iconst 0, 1) := by decide +kernel
theorem dL_tons_16 : decode cL_tons 16 = .ok (.ireturn, 1) := by decide +kernel
theorem dL_calls_0 : decode cL_calls 0 = .ok (.aload_n 3, 1) := by decide +kernel
theorem dL_calls_1 : decode cL_calls 1 = .ok (.iconst 0, 1) := by decide +kernel
theorem dL_calls_2 : decode cL_calls 2 = .ok (.aload_n 0, 1) := by decide +kernel
theorem dL_calls_3 : decode cL_calls 3 = .ok (.iload_n 1, 1) := by decide +kernel
theorem dL_calls_4 : decode cL_calls 4 = .ok (.iload_n 2, 1) := by decide +kernel
theorem dL_calls_5 : decode cL_calls 5 = .ok (.invokevirtual 52, 3) := by decide +kernel
theorem dL_calls_8 : decode cL_calls 8 = .ok (.i2l, 1) := by decide +kernel
theorem dL_calls_9 : decode cL_calls 9 = .ok (.lastore, 1) := by decide +kernel
theorem dL_calls_10 : decode cL_calls 10 = .ok (.goto 11, 3) := by decide +kernel
theorem dL_calls_13 : decode cL_calls 13 = .ok (.astore 4, 2) := by decide +kernel
theorem dL_calls_15 : decode cL_calls 15 = .ok (.iconst 1, 1) := by decide +kernel
theorem dL_calls_16 : decode cL_calls 16 = .ok (.ireturn, 1) := by decide +kernel
theorem dL_calls_17 : decode cL_calls 17 = .ok (.astore 4, 2) := by decide +kernel
theorem dL_calls_19 : decode cL_calls 19 = .ok (.iconst 2, 1) := by decide +kernel
theorem dL_calls_20 : decode cL_calls 20 = .ok (.ireturn, 1) := by decide +kernel
theorem dL_calls_21 : decode cL_calls 21 = .ok (.iconst 0, 1) := by decide +kernel
theorem dL_calls_22 : decode cL_calls 22 = .ok (.ireturn, 1) := by decide +kernel
theorem dL_call_0 : decode cL_call 0 = .ok (.aload_n 3, 1) := by decide +kernel
theorem dL_call_1 : decode cL_call 1 = .ok (.iconst 0, 1) := by decide +kernel
theorem dL_call_2 : decode cL_call 2 = .ok (.aload_n 0, 1) := by decide +kernel
theorem dL_call_3 : decode cL_call 3 = .ok (.iload_n 1, 1) := by decide +kernel
theorem dL_call_4 : decode cL_call 4 = .ok (.iload_n 2, 1) := by decide +kernel
theorem dL_call_5 : decode cL_call 5 = .ok (.invokevirtual 55, 3) := by decide +kernel
theorem dL_call_8 : decode cL_call 8 = .ok (.i2l, 1) := by decide +kernel
theorem dL_call_9 : decode cL_call 9 = .ok (.lastore, 1) := by decide +kernel
theorem dL_call_10 : decode cL_call 10 = .ok (.goto 11, 3) := by decide +kernel
theorem dL_call_13 : decode cL_call 13 = .ok (.astore 4, 2) := by decide +kernel
theorem dL_call_15 : decode cL_call 15 = .ok (.iconst 1, 1) := by decide +kernel
theorem dL_call_16 : decode cL_call 16 = .ok (.ireturn, 1) := by decide +kernel
theorem dL_call_17 : decode cL_call 17 = .ok (.astore 4, 2) := by decide +kernel
theorem dL_call_19 : decode cL_call 19 = .ok (.iconst 2, 1) := by decide +kernel
theorem dL_call_20 : decode cL_call 20 = .ok (.ireturn, 1) := by decide +kernel
theorem dL_call_21 : decode cL_call 21 = .ok (.iconst 0, 1) := by decide +kernel
theorem dL_call_22 : decode cL_call 22 = .ok (.ireturn, 1) := by decide +kernel
theorem dL_layDays_0 : decode cL_layDays 0 = .ok (.aload_n 2, 1) := by decide +kernel
theorem dL_layDays_1 : decode cL_layDays 1 = .ok (.iconst 0, 1) := by decide +kernel
theorem dL_layDays_2 : decode cL_layDays 2 = .ok (.aload_n 0, 1) := by decide +kernel
theorem dL_layDays_3 : decode cL_layDays 3 = .ok (.iload_n 1, 1) := by decide +kernel
theorem dL_layDays_4 : decode cL_layDays 4 = .ok (.invokevirtual 58, 3) := by decide +kernel
theorem dL_layDays_7 : decode cL_layDays 7 = .ok (.i2l, 1) := by decide +kernel
theorem dL_layDays_8 : decode cL_layDays 8 = .ok (.lastore, 1) := by decide +kernel
theorem dL_layDays_9 : decode cL_layDays 9 = .ok (.goto 6, 3) := by decide +kernel
theorem dL_layDays_12 : decode cL_layDays 12 = .ok (.astore_n 3, 1) := by decide +kernel
theorem dL_layDays_13 : decode cL_layDays 13 = .ok (.iconst 1, 1) := by decide +kernel
theorem dL_layDays_14 : decode cL_layDays 14 = .ok (.ireturn, 1) := by decide +kernel
theorem dL_layDays_15 : decode cL_layDays 15 = .ok (.iconst 0, 1) := by decide +kernel
theorem dL_layDays_16 : decode cL_layDays 16 = .ok (.ireturn, 1) := by decide +kernel
theorem dL_pending_0 : decode cL_pending 0 = .ok (.aload_n 2, 1) := by decide +kernel
theorem dL_pending_1 : decode cL_pending 1 = .ok (.iconst 0, 1) := by decide +kernel
theorem dL_pending_2 : decode cL_pending 2 = .ok (.aload_n 0, 1) := by decide +kernel
theorem dL_pending_3 : decode cL_pending 3 = .ok (.iload_n 1, 1) := by decide +kernel
theorem dL_pending_4 : decode cL_pending 4 = .ok (.invokevirtual 61, 3) := by decide +kernel
theorem dL_pending_7 : decode cL_pending 7 = .ok (.i2l, 1) := by decide +kernel
theorem dL_pending_8 : decode cL_pending 8 = .ok (.lastore, 1) := by decide +kernel
theorem dL_pending_9 : decode cL_pending 9 = .ok (.goto 6, 3) := by decide +kernel
theorem dL_pending_12 : decode cL_pending 12 = .ok (.astore_n 3, 1) := by decide +kernel
theorem dL_pending_13 : decode cL_pending 13 = .ok (.iconst 1, 1) := by decide +kernel
theorem dL_pending_14 : decode cL_pending 14 = .ok (.ireturn, 1) := by decide +kernel
theorem dL_pending_15 : decode cL_pending 15 = .ok (.iconst 0, 1) := by decide +kernel
theorem dL_pending_16 : decode cL_pending 16 = .ok (.ireturn, 1) := by decide +kernel
theorem dL_upheld_0 : decode cL_upheld 0 = .ok (.aload_n 2, 1) := by decide +kernel
theorem dL_upheld_1 : decode cL_upheld 1 = .ok (.iconst 0, 1) := by decide +kernel
theorem dL_upheld_2 : decode cL_upheld 2 = .ok (.aload_n 0, 1) := by decide +kernel
theorem dL_upheld_3 : decode cL_upheld 3 = .ok (.iload_n 1, 1) := by decide +kernel
theorem dL_upheld_4 : decode cL_upheld 4 = .ok (.invokevirtual 64, 3) := by decide +kernel
theorem dL_upheld_7 : decode cL_upheld 7 = .ok (.i2l, 1) := by decide +kernel
theorem dL_upheld_8 : decode cL_upheld 8 = .ok (.lastore, 1) := by decide +kernel
theorem dL_upheld_9 : decode cL_upheld 9 = .ok (.goto 6, 3) := by decide +kernel
theorem dL_upheld_12 : decode cL_upheld 12 = .ok (.astore_n 3, 1) := by decide +kernel
theorem dL_upheld_13 : decode cL_upheld 13 = .ok (.iconst 1, 1) := by decide +kernel
theorem dL_upheld_14 : decode cL_upheld 14 = .ok (.ireturn, 1) := by decide +kernel
theorem dL_upheld_15 : decode cL_upheld 15 = .ok (.iconst 0, 1) := by decide +kernel
theorem dL_upheld_16 : decode cL_upheld 16 = .ok (.ireturn, 1) := by decide +kernel
theorem dL_billedDays_0 : decode cL_billedDays 0 = .ok (.aload_n 2, 1) := by decide +kernel
theorem dL_billedDays_1 : decode cL_billedDays 1 = .ok (.iconst 0, 1) := by decide +kernel
theorem dL_billedDays_2 : decode cL_billedDays 2 = .ok (.aload_n 0, 1) := by decide +kernel
theorem dL_billedDays_3 : decode cL_billedDays 3 = .ok (.iload_n 1, 1) := by decide +kernel
theorem dL_billedDays_4 : decode cL_billedDays 4 = .ok (.invokevirtual 67, 3) := by decide +kernel
theorem dL_billedDays_7 : decode cL_billedDays 7 = .ok (.i2l, 1) := by decide +kernel
theorem dL_billedDays_8 : decode cL_billedDays 8 = .ok (.lastore, 1) := by decide +kernel
theorem dL_billedDays_9 : decode cL_billedDays 9 = .ok (.goto 6, 3) := by decide +kernel
theorem dL_billedDays_12 : decode cL_billedDays 12 = .ok (.astore_n 3, 1) := by decide +kernel
theorem dL_billedDays_13 : decode cL_billedDays 13 = .ok (.iconst 1, 1) := by decide +kernel
theorem dL_billedDays_14 : decode cL_billedDays 14 = .ok (.ireturn, 1) := by decide +kernel
theorem dL_billedDays_15 : decode cL_billedDays 15 = .ok (.iconst 0, 1) := by decide +kernel
theorem dL_billedDays_16 : decode cL_billedDays 16 = .ok (.ireturn, 1) := by decide +kernel
theorem dL_billable_0 : decode cL_billable 0 = .ok (.aload_n 2, 1) := by decide +kernel
theorem dL_billable_1 : decode cL_billable 1 = .ok (.iconst 0, 1) := by decide +kernel
theorem dL_billable_2 : decode cL_billable 2 = .ok (.aload_n 0, 1) := by decide +kernel
theorem dL_billable_3 : decode cL_billable 3 = .ok (.iload_n 1, 1) := by decide +kernel
theorem dL_billable_4 : decode cL_billable 4 = .ok (.invokevirtual 70, 3) := by decide +kernel
theorem dL_billable_7 : decode cL_billable 7 = .ok (.i2l, 1) := by decide +kernel
theorem dL_billable_8 : decode cL_billable 8 = .ok (.lastore, 1) := by decide +kernel
theorem dL_billable_9 : decode cL_billable 9 = .ok (.goto 6, 3) := by decide +kernel
theorem dL_billable_12 : decode cL_billable 12 = .ok (.astore_n 3, 1) := by decide +kernel
theorem dL_billable_13 : decode cL_billable 13 = .ok (.iconst 1, 1) := by decide +kernel
theorem dL_billable_14 : decode cL_billable 14 = .ok (.ireturn, 1) := by decide +kernel
theorem dL_billable_15 : decode cL_billable 15 = .ok (.iconst 0, 1) := by decide +kernel
theorem dL_billable_16 : decode cL_billable 16 = .ok (.ireturn, 1) := by decide +kernel
theorem dL_amount_0 : decode cL_amount 0 = .ok (.aload_n 3, 1) := by decide +kernel
theorem dL_amount_1 : decode cL_amount 1 = .ok (.iconst 0, 1) := by decide +kernel
theorem dL_amount_2 : decode cL_amount 2 = .ok (.aload_n 0, 1) := by decide +kernel
theorem dL_amount_3 : decode cL_amount 3 = .ok (.iload_n 1, 1) := by decide +kernel
theorem dL_amount_4 : decode cL_amount 4 = .ok (.iload_n 2, 1) := by decide +kernel
theorem dL_amount_5 : decode cL_amount 5 = .ok (.invokevirtual 73, 3) := by decide +kernel
theorem dL_amount_8 : decode cL_amount 8 = .ok (.i2l, 1) := by decide +kernel
theorem dL_amount_9 : decode cL_amount 9 = .ok (.lastore, 1) := by decide +kernel
theorem dL_amount_10 : decode cL_amount 10 = .ok (.goto 11, 3) := by decide +kernel
theorem dL_amount_13 : decode cL_amount 13 = .ok (.astore 4, 2) := by decide +kernel
theorem dL_amount_15 : decode cL_amount 15 = .ok (.iconst 1, 1) := by decide +kernel
theorem dL_amount_16 : decode cL_amount 16 = .ok (.ireturn, 1) := by decide +kernel
theorem dL_amount_17 : decode cL_amount 17 = .ok (.astore 4, 2) := by decide +kernel
theorem dL_amount_19 : decode cL_amount 19 = .ok (.iconst 2, 1) := by decide +kernel
theorem dL_amount_20 : decode cL_amount 20 = .ok (.ireturn, 1) := by decide +kernel
theorem dL_amount_21 : decode cL_amount 21 = .ok (.iconst 0, 1) := by decide +kernel
theorem dL_amount_22 : decode cL_amount 22 = .ok (.ireturn, 1) := by decide +kernel
theorem dL_callTotal_0 : decode cL_callTotal 0 = .ok (.aload_n 2, 1) := by decide +kernel
theorem dL_callTotal_1 : decode cL_callTotal 1 = .ok (.iconst 0, 1) := by decide +kernel
theorem dL_callTotal_2 : decode cL_callTotal 2 = .ok (.aload_n 0, 1) := by decide +kernel
theorem dL_callTotal_3 : decode cL_callTotal 3 = .ok (.iload_n 1, 1) := by decide +kernel
theorem dL_callTotal_4 : decode cL_callTotal 4 = .ok (.invokevirtual 76, 3) := by decide +kernel
theorem dL_callTotal_7 : decode cL_callTotal 7 = .ok (.i2l, 1) := by decide +kernel
theorem dL_callTotal_8 : decode cL_callTotal 8 = .ok (.lastore, 1) := by decide +kernel
theorem dL_callTotal_9 : decode cL_callTotal 9 = .ok (.goto 6, 3) := by decide +kernel
theorem dL_callTotal_12 : decode cL_callTotal 12 = .ok (.astore_n 3, 1) := by decide +kernel
theorem dL_callTotal_13 : decode cL_callTotal 13 = .ok (.iconst 1, 1) := by decide +kernel
theorem dL_callTotal_14 : decode cL_callTotal 14 = .ok (.ireturn, 1) := by decide +kernel
theorem dL_callTotal_15 : decode cL_callTotal 15 = .ok (.iconst 0, 1) := by decide +kernel
theorem dL_callTotal_16 : decode cL_callTotal 16 = .ok (.ireturn, 1) := by decide +kernel
theorem dL_invoice_0 : decode cL_invoice 0 = .ok (.aload_n 3, 1) := by decide +kernel
theorem dL_invoice_1 : decode cL_invoice 1 = .ok (.iconst 0, 1) := by decide +kernel
theorem dL_invoice_2 : decode cL_invoice 2 = .ok (.aload_n 0, 1) := by decide +kernel
theorem dL_invoice_3 : decode cL_invoice 3 = .ok (.iload_n 1, 1) := by decide +kernel
theorem dL_invoice_4 : decode cL_invoice 4 = .ok (.iload_n 2, 1) := by decide +kernel
theorem dL_invoice_5 : decode cL_invoice 5 = .ok (.invokevirtual 79, 3) := by decide +kernel
theorem dL_invoice_8 : decode cL_invoice 8 = .ok (.i2l, 1) := by decide +kernel
theorem dL_invoice_9 : decode cL_invoice 9 = .ok (.lastore, 1) := by decide +kernel
theorem dL_invoice_10 : decode cL_invoice 10 = .ok (.goto 11, 3) := by decide +kernel
theorem dL_invoice_13 : decode cL_invoice 13 = .ok (.astore 4, 2) := by decide +kernel
theorem dL_invoice_15 : decode cL_invoice 15 = .ok (.iconst 1, 1) := by decide +kernel
theorem dL_invoice_16 : decode cL_invoice 16 = .ok (.ireturn, 1) := by decide +kernel
theorem dL_invoice_17 : decode cL_invoice 17 = .ok (.astore 4, 2) := by decide +kernel
theorem dL_invoice_19 : decode cL_invoice 19 = .ok (.iconst 2, 1) := by decide +kernel
theorem dL_invoice_20 : decode cL_invoice 20 = .ok (.ireturn, 1) := by decide +kernel
theorem dL_invoice_21 : decode cL_invoice 21 = .ok (.iconst 0, 1) := by decide +kernel
theorem dL_invoice_22 : decode cL_invoice 22 = .ok (.ireturn, 1) := by decide +kernel
theorem dL_line_0 : decode cL_line 0 = .ok (.aload_n 3, 1) := by decide +kernel
theorem dL_line_1 : decode cL_line 1 = .ok (.iconst 0, 1) := by decide +kernel
theorem dL_line_2 : decode cL_line 2 = .ok (.aload_n 0, 1) := by decide +kernel
theorem dL_line_3 : decode cL_line 3 = .ok (.iload_n 1, 1) := by decide +kernel
theorem dL_line_4 : decode cL_line 4 = .ok (.iload_n 2, 1) := by decide +kernel
theorem dL_line_5 : decode cL_line 5 = .ok (.invokevirtual 82, 3) := by decide +kernel
theorem dL_line_8 : decode cL_line 8 = .ok (.i2l, 1) := by decide +kernel
theorem dL_line_9 : decode cL_line 9 = .ok (.lastore, 1) := by decide +kernel
theorem dL_line_10 : decode cL_line 10 = .ok (.goto 11, 3) := by decide +kernel
theorem dL_line_13 : decode cL_line 13 = .ok (.astore 4, 2) := by decide +kernel
theorem dL_line_15 : decode cL_line 15 = .ok (.iconst 1, 1) := by decide +kernel
theorem dL_line_16 : decode cL_line 16 = .ok (.ireturn, 1) := by decide +kernel
theorem dL_line_17 : decode cL_line 17 = .ok (.astore 4, 2) := by decide +kernel
theorem dL_line_19 : decode cL_line 19 = .ok (.iconst 2, 1) := by decide +kernel
theorem dL_line_20 : decode cL_line 20 = .ok (.ireturn, 1) := by decide +kernel
theorem dL_line_21 : decode cL_line 21 = .ok (.iconst 0, 1) := by decide +kernel
theorem dL_line_22 : decode cL_line 22 = .ok (.ireturn, 1) := by decide +kernel
theorem dL_net_0 : decode cL_net 0 = .ok (.aload_n 2, 1) := by decide +kernel
theorem dL_net_1 : decode cL_net 1 = .ok (.iconst 0, 1) := by decide +kernel
theorem dL_net_2 : decode cL_net 2 = .ok (.aload_n 0, 1) := by decide +kernel
theorem dL_net_3 : decode cL_net 3 = .ok (.iload_n 1, 1) := by decide +kernel
theorem dL_net_4 : decode cL_net 4 = .ok (.invokevirtual 85, 3) := by decide +kernel
theorem dL_net_7 : decode cL_net 7 = .ok (.i2l, 1) := by decide +kernel
theorem dL_net_8 : decode cL_net 8 = .ok (.lastore, 1) := by decide +kernel
theorem dL_net_9 : decode cL_net 9 = .ok (.goto 6, 3) := by decide +kernel
theorem dL_net_12 : decode cL_net 12 = .ok (.astore_n 3, 1) := by decide +kernel
theorem dL_net_13 : decode cL_net 13 = .ok (.iconst 1, 1) := by decide +kernel
theorem dL_net_14 : decode cL_net 14 = .ok (.ireturn, 1) := by decide +kernel
theorem dL_net_15 : decode cL_net 15 = .ok (.iconst 0, 1) := by decide +kernel
theorem dL_net_16 : decode cL_net 16 = .ok (.ireturn, 1) := by decide +kernel
theorem dL_open_0 : decode cL_open 0 = .ok (.aload_n 2, 1) := by decide +kernel
theorem dL_open_1 : decode cL_open 1 = .ok (.iconst 0, 1) := by decide +kernel
theorem dL_open_2 : decode cL_open 2 = .ok (.aload_n 0, 1) := by decide +kernel
theorem dL_open_3 : decode cL_open 3 = .ok (.iload_n 1, 1) := by decide +kernel
theorem dL_open_4 : decode cL_open 4 = .ok (.invokevirtual 88, 3) := by decide +kernel
theorem dL_open_7 : decode cL_open 7 = .ok (.i2l, 1) := by decide +kernel
theorem dL_open_8 : decode cL_open 8 = .ok (.lastore, 1) := by decide +kernel
theorem dL_open_9 : decode cL_open 9 = .ok (.goto 6, 3) := by decide +kernel
theorem dL_open_12 : decode cL_open 12 = .ok (.astore_n 3, 1) := by decide +kernel
theorem dL_open_13 : decode cL_open 13 = .ok (.iconst 1, 1) := by decide +kernel
theorem dL_open_14 : decode cL_open 14 = .ok (.ireturn, 1) := by decide +kernel
theorem dL_open_15 : decode cL_open 15 = .ok (.iconst 0, 1) := by decide +kernel
theorem dL_open_16 : decode cL_open 16 = .ok (.ireturn, 1) := by decide +kernel
theorem dL_rebuilt_0 : decode cL_rebuilt 0 = .ok (.aload_n 3, 1) := by decide +kernel
theorem dL_rebuilt_1 : decode cL_rebuilt 1 = .ok (.iconst 0, 1) := by decide +kernel
theorem dL_rebuilt_2 : decode cL_rebuilt 2 = .ok (.aload_n 0, 1) := by decide +kernel
theorem dL_rebuilt_3 : decode cL_rebuilt 3 = .ok (.iload_n 1, 1) := by decide +kernel
theorem dL_rebuilt_4 : decode cL_rebuilt 4 = .ok (.iload_n 2, 1) := by decide +kernel
theorem dL_rebuilt_5 : decode cL_rebuilt 5 = .ok (.invokevirtual 91, 3) := by decide +kernel
theorem dL_rebuilt_8 : decode cL_rebuilt 8 = .ok (.i2l, 1) := by decide +kernel
theorem dL_rebuilt_9 : decode cL_rebuilt 9 = .ok (.lastore, 1) := by decide +kernel
theorem dL_rebuilt_10 : decode cL_rebuilt 10 = .ok (.goto 11, 3) := by decide +kernel
theorem dL_rebuilt_13 : decode cL_rebuilt 13 = .ok (.astore 4, 2) := by decide +kernel
theorem dL_rebuilt_15 : decode cL_rebuilt 15 = .ok (.iconst 1, 1) := by decide +kernel
theorem dL_rebuilt_16 : decode cL_rebuilt 16 = .ok (.ireturn, 1) := by decide +kernel
theorem dL_rebuilt_17 : decode cL_rebuilt 17 = .ok (.astore 4, 2) := by decide +kernel
theorem dL_rebuilt_19 : decode cL_rebuilt 19 = .ok (.iconst 2, 1) := by decide +kernel
theorem dL_rebuilt_20 : decode cL_rebuilt 20 = .ok (.ireturn, 1) := by decide +kernel
theorem dL_rebuilt_21 : decode cL_rebuilt 21 = .ok (.iconst 0, 1) := by decide +kernel
theorem dL_rebuilt_22 : decode cL_rebuilt 22 = .ok (.ireturn, 1) := by decide +kernel
theorem dL_isStale_0 : decode cL_isStale 0 = .ok (.aload_n 2, 1) := by decide +kernel
theorem dL_isStale_1 : decode cL_isStale 1 = .ok (.iconst 0, 1) := by decide +kernel
theorem dL_isStale_2 : decode cL_isStale 2 = .ok (.aload_n 0, 1) := by decide +kernel
theorem dL_isStale_3 : decode cL_isStale 3 = .ok (.iload_n 1, 1) := by decide +kernel
theorem dL_isStale_4 : decode cL_isStale 4 = .ok (.invokevirtual 94, 3) := by decide +kernel
theorem dL_isStale_7 : decode cL_isStale 7 = .ok (.ifCond .eq 7, 3) := by decide +kernel
theorem dL_isStale_10 : decode cL_isStale 10 = .ok (.lconst 1, 1) := by decide +kernel
theorem dL_isStale_11 : decode cL_isStale 11 = .ok (.goto 4, 3) := by decide +kernel
theorem dL_isStale_14 : decode cL_isStale 14 = .ok (.lconst 0, 1) := by decide +kernel
theorem dL_isStale_15 : decode cL_isStale 15 = .ok (.lastore, 1) := by decide +kernel
theorem dL_isStale_16 : decode cL_isStale 16 = .ok (.goto 6, 3) := by decide +kernel
theorem dL_isStale_19 : decode cL_isStale 19 = .ok (.astore_n 3, 1) := by decide +kernel
theorem dL_isStale_20 : decode cL_isStale 20 = .ok (.iconst 1, 1) := by decide +kernel
theorem dL_isStale_21 : decode cL_isStale 21 = .ok (.ireturn, 1) := by decide +kernel
theorem dL_isStale_22 : decode cL_isStale 22 = .ok (.iconst 0, 1) := by decide +kernel
theorem dL_isStale_23 : decode cL_isStale 23 = .ok (.ireturn, 1) := by decide +kernel
theorem dL_contested_0 : decode cL_contested 0 = .ok (.aload_n 2, 1) := by decide +kernel
theorem dL_contested_1 : decode cL_contested 1 = .ok (.iconst 0, 1) := by decide +kernel
theorem dL_contested_2 : decode cL_contested 2 = .ok (.aload_n 0, 1) := by decide +kernel
theorem dL_contested_3 : decode cL_contested 3 = .ok (.iload_n 1, 1) := by decide +kernel
theorem dL_contested_4 : decode cL_contested 4 = .ok (.invokevirtual 98, 3) := by decide +kernel
theorem dL_contested_7 : decode cL_contested 7 = .ok (.i2l, 1) := by decide +kernel
theorem dL_contested_8 : decode cL_contested 8 = .ok (.lastore, 1) := by decide +kernel
theorem dL_contested_9 : decode cL_contested 9 = .ok (.goto 6, 3) := by decide +kernel
theorem dL_contested_12 : decode cL_contested 12 = .ok (.astore_n 3, 1) := by decide +kernel
theorem dL_contested_13 : decode cL_contested 13 = .ok (.iconst 1, 1) := by decide +kernel
theorem dL_contested_14 : decode cL_contested 14 = .ok (.ireturn, 1) := by decide +kernel
theorem dL_contested_15 : decode cL_contested 15 = .ok (.iconst 0, 1) := by decide +kernel
theorem dL_contested_16 : decode cL_contested 16 = .ok (.ireturn, 1) := by decide +kernel
theorem dL_note_0 : decode cL_note 0 = .ok (.aload_n 3, 1) := by decide +kernel
theorem dL_note_1 : decode cL_note 1 = .ok (.iconst 0, 1) := by decide +kernel
theorem dL_note_2 : decode cL_note 2 = .ok (.aload_n 0, 1) := by decide +kernel
theorem dL_note_3 : decode cL_note 3 = .ok (.iload_n 1, 1) := by decide +kernel
theorem dL_note_4 : decode cL_note 4 = .ok (.iload_n 2, 1) := by decide +kernel
theorem dL_note_5 : decode cL_note 5 = .ok (.invokevirtual 101, 3) := by decide +kernel
theorem dL_note_8 : decode cL_note 8 = .ok (.i2l, 1) := by decide +kernel
theorem dL_note_9 : decode cL_note 9 = .ok (.lastore, 1) := by decide +kernel
theorem dL_note_10 : decode cL_note 10 = .ok (.goto 11, 3) := by decide +kernel
theorem dL_note_13 : decode cL_note 13 = .ok (.astore 4, 2) := by decide +kernel
theorem dL_note_15 : decode cL_note 15 = .ok (.iconst 1, 1) := by decide +kernel
theorem dL_note_16 : decode cL_note 16 = .ok (.ireturn, 1) := by decide +kernel
theorem dL_note_17 : decode cL_note 17 = .ok (.astore 4, 2) := by decide +kernel
theorem dL_note_19 : decode cL_note 19 = .ok (.iconst 2, 1) := by decide +kernel
theorem dL_note_20 : decode cL_note 20 = .ok (.ireturn, 1) := by decide +kernel
theorem dL_note_21 : decode cL_note 21 = .ok (.iconst 0, 1) := by decide +kernel
theorem dL_note_22 : decode cL_note 22 = .ok (.ireturn, 1) := by decide +kernel
theorem dL_balance_0 : decode cL_balance 0 = .ok (.aload_n 2, 1) := by decide +kernel
theorem dL_balance_1 : decode cL_balance 1 = .ok (.iconst 0, 1) := by decide +kernel
theorem dL_balance_2 : decode cL_balance 2 = .ok (.aload_n 0, 1) := by decide +kernel
theorem dL_balance_3 : decode cL_balance 3 = .ok (.iload_n 1, 1) := by decide +kernel
theorem dL_balance_4 : decode cL_balance 4 = .ok (.invokevirtual 104, 3) := by decide +kernel
theorem dL_balance_7 : decode cL_balance 7 = .ok (.lastore, 1) := by decide +kernel
theorem dL_balance_8 : decode cL_balance 8 = .ok (.goto 6, 3) := by decide +kernel
theorem dL_balance_11 : decode cL_balance 11 = .ok (.astore_n 3, 1) := by decide +kernel
theorem dL_balance_12 : decode cL_balance 12 = .ok (.iconst 1, 1) := by decide +kernel
theorem dL_balance_13 : decode cL_balance 13 = .ok (.ireturn, 1) := by decide +kernel
theorem dL_balance_14 : decode cL_balance 14 = .ok (.iconst 0, 1) := by decide +kernel
theorem dL_balance_15 : decode cL_balance 15 = .ok (.ireturn, 1) := by decide +kernel
theorem dL_paid_0 : decode cL_paid 0 = .ok (.aload_n 2, 1) := by decide +kernel
theorem dL_paid_1 : decode cL_paid 1 = .ok (.iconst 0, 1) := by decide +kernel
theorem dL_paid_2 : decode cL_paid 2 = .ok (.aload_n 0, 1) := by decide +kernel
theorem dL_paid_3 : decode cL_paid 3 = .ok (.iload_n 1, 1) := by decide +kernel
theorem dL_paid_4 : decode cL_paid 4 = .ok (.invokevirtual 108, 3) := by decide +kernel
theorem dL_paid_7 : decode cL_paid 7 = .ok (.lastore, 1) := by decide +kernel
theorem dL_paid_8 : decode cL_paid 8 = .ok (.goto 6, 3) := by decide +kernel
theorem dL_paid_11 : decode cL_paid 11 = .ok (.astore_n 3, 1) := by decide +kernel
theorem dL_paid_12 : decode cL_paid 12 = .ok (.iconst 1, 1) := by decide +kernel
theorem dL_paid_13 : decode cL_paid 13 = .ok (.ireturn, 1) := by decide +kernel
theorem dL_paid_14 : decode cL_paid 14 = .ok (.iconst 0, 1) := by decide +kernel
theorem dL_paid_15 : decode cL_paid 15 = .ok (.ireturn, 1) := by decide +kernel
theorem dL_oldestOpen_0 : decode cL_oldestOpen 0 = .ok (.aload_n 2, 1) := by decide +kernel
theorem dL_oldestOpen_1 : decode cL_oldestOpen 1 = .ok (.iconst 0, 1) := by decide +kernel
theorem dL_oldestOpen_2 : decode cL_oldestOpen 2 = .ok (.aload_n 0, 1) := by decide +kernel
theorem dL_oldestOpen_3 : decode cL_oldestOpen 3 = .ok (.iload_n 1, 1) := by decide +kernel
theorem dL_oldestOpen_4 : decode cL_oldestOpen 4 = .ok (.invokevirtual 111, 3) := by decide +kernel
theorem dL_oldestOpen_7 : decode cL_oldestOpen 7 = .ok (.i2l, 1) := by decide +kernel
theorem dL_oldestOpen_8 : decode cL_oldestOpen 8 = .ok (.lastore, 1) := by decide +kernel
theorem dL_oldestOpen_9 : decode cL_oldestOpen 9 = .ok (.goto 6, 3) := by decide +kernel
theorem dL_oldestOpen_12 : decode cL_oldestOpen 12 = .ok (.astore_n 3, 1) := by decide +kernel
theorem dL_oldestOpen_13 : decode cL_oldestOpen 13 = .ok (.iconst 1, 1) := by decide +kernel
theorem dL_oldestOpen_14 : decode cL_oldestOpen 14 = .ok (.ireturn, 1) := by decide +kernel
theorem dL_oldestOpen_15 : decode cL_oldestOpen 15 = .ok (.iconst 0, 1) := by decide +kernel
theorem dL_oldestOpen_16 : decode cL_oldestOpen 16 = .ok (.ireturn, 1) := by decide +kernel
theorem dL_overdue_0 : decode cL_overdue 0 = .ok (.aload_n 2, 1) := by decide +kernel
theorem dL_overdue_1 : decode cL_overdue 1 = .ok (.iconst 0, 1) := by decide +kernel
theorem dL_overdue_2 : decode cL_overdue 2 = .ok (.aload_n 0, 1) := by decide +kernel
theorem dL_overdue_3 : decode cL_overdue 3 = .ok (.iload_n 1, 1) := by decide +kernel
theorem dL_overdue_4 : decode cL_overdue 4 = .ok (.invokevirtual 114, 3) := by decide +kernel
theorem dL_overdue_7 : decode cL_overdue 7 = .ok (.i2l, 1) := by decide +kernel
theorem dL_overdue_8 : decode cL_overdue 8 = .ok (.lastore, 1) := by decide +kernel
theorem dL_overdue_9 : decode cL_overdue 9 = .ok (.goto 6, 3) := by decide +kernel
theorem dL_overdue_12 : decode cL_overdue 12 = .ok (.astore_n 3, 1) := by decide +kernel
theorem dL_overdue_13 : decode cL_overdue 13 = .ok (.iconst 1, 1) := by decide +kernel
theorem dL_overdue_14 : decode cL_overdue 14 = .ok (.ireturn, 1) := by decide +kernel
theorem dL_overdue_15 : decode cL_overdue 15 = .ok (.iconst 0, 1) := by decide +kernel
theorem dL_overdue_16 : decode cL_overdue 16 = .ok (.ireturn, 1) := by decide +kernel
theorem dL_revenue_0 : decode cL_revenue 0 = .ok (.aload_n 3, 1) := by decide +kernel
theorem dL_revenue_1 : decode cL_revenue 1 = .ok (.iconst 0, 1) := by decide +kernel
theorem dL_revenue_2 : decode cL_revenue 2 = .ok (.aload_n 0, 1) := by decide +kernel
theorem dL_revenue_3 : decode cL_revenue 3 = .ok (.iload_n 1, 1) := by decide +kernel
theorem dL_revenue_4 : decode cL_revenue 4 = .ok (.iload_n 2, 1) := by decide +kernel
theorem dL_revenue_5 : decode cL_revenue 5 = .ok (.invokevirtual 117, 3) := by decide +kernel
theorem dL_revenue_8 : decode cL_revenue 8 = .ok (.lastore, 1) := by decide +kernel
theorem dL_revenue_9 : decode cL_revenue 9 = .ok (.goto 7, 3) := by decide +kernel
theorem dL_revenue_12 : decode cL_revenue 12 = .ok (.astore 4, 2) := by decide +kernel
theorem dL_revenue_14 : decode cL_revenue 14 = .ok (.iconst 1, 1) := by decide +kernel
theorem dL_revenue_15 : decode cL_revenue 15 = .ok (.ireturn, 1) := by decide +kernel
theorem dL_revenue_16 : decode cL_revenue 16 = .ok (.iconst 0, 1) := by decide +kernel
theorem dL_revenue_17 : decode cL_revenue 17 = .ok (.ireturn, 1) := by decide +kernel
theorem dL_rebates_0 : decode cL_rebates 0 = .ok (.aload_n 3, 1) := by decide +kernel
theorem dL_rebates_1 : decode cL_rebates 1 = .ok (.iconst 0, 1) := by decide +kernel
theorem dL_rebates_2 : decode cL_rebates 2 = .ok (.aload_n 0, 1) := by decide +kernel
theorem dL_rebates_3 : decode cL_rebates 3 = .ok (.iload_n 1, 1) := by decide +kernel
theorem dL_rebates_4 : decode cL_rebates 4 = .ok (.iload_n 2, 1) := by decide +kernel
theorem dL_rebates_5 : decode cL_rebates 5 = .ok (.invokevirtual 121, 3) := by decide +kernel
theorem dL_rebates_8 : decode cL_rebates 8 = .ok (.lastore, 1) := by decide +kernel
theorem dL_rebates_9 : decode cL_rebates 9 = .ok (.goto 11, 3) := by decide +kernel
theorem dL_rebates_12 : decode cL_rebates 12 = .ok (.astore 4, 2) := by decide +kernel
theorem dL_rebates_14 : decode cL_rebates 14 = .ok (.iconst 1, 1) := by decide +kernel
theorem dL_rebates_15 : decode cL_rebates 15 = .ok (.ireturn, 1) := by decide +kernel
theorem dL_rebates_16 : decode cL_rebates 16 = .ok (.astore 4, 2) := by decide +kernel
theorem dL_rebates_18 : decode cL_rebates 18 = .ok (.iconst 2, 1) := by decide +kernel
theorem dL_rebates_19 : decode cL_rebates 19 = .ok (.ireturn, 1) := by decide +kernel
theorem dL_rebates_20 : decode cL_rebates 20 = .ok (.iconst 0, 1) := by decide +kernel
theorem dL_rebates_21 : decode cL_rebates 21 = .ok (.ireturn, 1) := by decide +kernel
theorem dL_quote_0 : decode cL_quote 0 = .ok (.aload 5, 2) := by decide +kernel
theorem dL_quote_2 : decode cL_quote 2 = .ok (.iconst 0, 1) := by decide +kernel
theorem dL_quote_3 : decode cL_quote 3 = .ok (.aload_n 0, 1) := by decide +kernel
theorem dL_quote_4 : decode cL_quote 4 = .ok (.iload_n 1, 1) := by decide +kernel
theorem dL_quote_5 : decode cL_quote 5 = .ok (.iload_n 2, 1) := by decide +kernel
theorem dL_quote_6 : decode cL_quote 6 = .ok (.iload_n 3, 1) := by decide +kernel
theorem dL_quote_7 : decode cL_quote 7 = .ok (.iload 4, 2) := by decide +kernel
theorem dL_quote_9 : decode cL_quote 9 = .ok (.invokevirtual 124, 3) := by decide +kernel
theorem dL_quote_12 : decode cL_quote 12 = .ok (.i2l, 1) := by decide +kernel
theorem dL_quote_13 : decode cL_quote 13 = .ok (.lastore, 1) := by decide +kernel
theorem dL_quote_14 : decode cL_quote 14 = .ok (.goto 11, 3) := by decide +kernel
theorem dL_quote_17 : decode cL_quote 17 = .ok (.astore 6, 2) := by decide +kernel
theorem dL_quote_19 : decode cL_quote 19 = .ok (.iconst 1, 1) := by decide +kernel
theorem dL_quote_20 : decode cL_quote 20 = .ok (.ireturn, 1) := by decide +kernel
theorem dL_quote_21 : decode cL_quote 21 = .ok (.astore 6, 2) := by decide +kernel
theorem dL_quote_23 : decode cL_quote 23 = .ok (.iconst 2, 1) := by decide +kernel
theorem dL_quote_24 : decode cL_quote 24 = .ok (.ireturn, 1) := by decide +kernel
theorem dL_quote_25 : decode cL_quote 25 = .ok (.iconst 0, 1) := by decide +kernel
theorem dL_quote_26 : decode cL_quote 26 = .ok (.ireturn, 1) := by decide +kernel
theorem dL_callsToRebate_0 : decode cL_callsToRebate 0 = .ok (.aload_n 3, 1) := by decide +kernel
theorem dL_callsToRebate_1 : decode cL_callsToRebate 1 = .ok (.iconst 0, 1) := by decide +kernel
theorem dL_callsToRebate_2 : decode cL_callsToRebate 2 = .ok (.aload_n 0, 1) := by decide +kernel
theorem dL_callsToRebate_3 : decode cL_callsToRebate 3 = .ok (.iload_n 1, 1) := by decide +kernel
theorem dL_callsToRebate_4 : decode cL_callsToRebate 4 = .ok (.iload_n 2, 1) := by decide +kernel
theorem dL_callsToRebate_5 : decode cL_callsToRebate 5 = .ok (.invokevirtual 128, 3) := by decide +kernel
theorem dL_callsToRebate_8 : decode cL_callsToRebate 8 = .ok (.i2l, 1) := by decide +kernel
theorem dL_callsToRebate_9 : decode cL_callsToRebate 9 = .ok (.lastore, 1) := by decide +kernel
theorem dL_callsToRebate_10 : decode cL_callsToRebate 10 = .ok (.goto 11, 3) := by decide +kernel
theorem dL_callsToRebate_13 : decode cL_callsToRebate 13 = .ok (.astore 4, 2) := by decide +kernel
theorem dL_callsToRebate_15 : decode cL_callsToRebate 15 = .ok (.iconst 1, 1) := by decide +kernel
theorem dL_callsToRebate_16 : decode cL_callsToRebate 16 = .ok (.ireturn, 1) := by decide +kernel
theorem dL_callsToRebate_17 : decode cL_callsToRebate 17 = .ok (.astore 4, 2) := by decide +kernel
theorem dL_callsToRebate_19 : decode cL_callsToRebate 19 = .ok (.iconst 2, 1) := by decide +kernel
theorem dL_callsToRebate_20 : decode cL_callsToRebate 20 = .ok (.ireturn, 1) := by decide +kernel
theorem dL_callsToRebate_21 : decode cL_callsToRebate 21 = .ok (.iconst 0, 1) := by decide +kernel
theorem dL_callsToRebate_22 : decode cL_callsToRebate 22 = .ok (.ireturn, 1) := by decide +kernel
theorem dL_worth_0 : decode cL_worth 0 = .ok (.aload_n 2, 1) := by decide +kernel
theorem dL_worth_1 : decode cL_worth 1 = .ok (.iconst 0, 1) := by decide +kernel
theorem dL_worth_2 : decode cL_worth 2 = .ok (.aload_n 0, 1) := by decide +kernel
theorem dL_worth_3 : decode cL_worth 3 = .ok (.iload_n 1, 1) := by decide +kernel
theorem dL_worth_4 : decode cL_worth 4 = .ok (.invokevirtual 131, 3) := by decide +kernel
theorem dL_worth_7 : decode cL_worth 7 = .ok (.i2l, 1) := by decide +kernel
theorem dL_worth_8 : decode cL_worth 8 = .ok (.lastore, 1) := by decide +kernel
theorem dL_worth_9 : decode cL_worth 9 = .ok (.goto 6, 3) := by decide +kernel
theorem dL_worth_12 : decode cL_worth 12 = .ok (.astore_n 3, 1) := by decide +kernel
theorem dL_worth_13 : decode cL_worth 13 = .ok (.iconst 1, 1) := by decide +kernel
theorem dL_worth_14 : decode cL_worth 14 = .ok (.ireturn, 1) := by decide +kernel
theorem dL_worth_15 : decode cL_worth 15 = .ok (.iconst 0, 1) := by decide +kernel
theorem dL_worth_16 : decode cL_worth 16 = .ok (.ireturn, 1) := by decide +kernel
theorem dL_busiestYear_0 : decode cL_busiestYear 0 = .ok (.aload_n 2, 1) := by decide +kernel
theorem dL_busiestYear_1 : decode cL_busiestYear 1 = .ok (.iconst 0, 1) := by decide +kernel
theorem dL_busiestYear_2 : decode cL_busiestYear 2 = .ok (.aload_n 0, 1) := by decide +kernel
theorem dL_busiestYear_3 : decode cL_busiestYear 3 = .ok (.iload_n 1, 1) := by decide +kernel
theorem dL_busiestYear_4 : decode cL_busiestYear 4 = .ok (.invokevirtual 134, 3) := by decide +kernel
theorem dL_busiestYear_7 : decode cL_busiestYear 7 = .ok (.i2l, 1) := by decide +kernel
theorem dL_busiestYear_8 : decode cL_busiestYear 8 = .ok (.lastore, 1) := by decide +kernel
theorem dL_busiestYear_9 : decode cL_busiestYear 9 = .ok (.goto 6, 3) := by decide +kernel
theorem dL_busiestYear_12 : decode cL_busiestYear 12 = .ok (.astore_n 3, 1) := by decide +kernel
theorem dL_busiestYear_13 : decode cL_busiestYear 13 = .ok (.iconst 1, 1) := by decide +kernel
theorem dL_busiestYear_14 : decode cL_busiestYear 14 = .ok (.ireturn, 1) := by decide +kernel
theorem dL_busiestYear_15 : decode cL_busiestYear 15 = .ok (.iconst 0, 1) := by decide +kernel
theorem dL_busiestYear_16 : decode cL_busiestYear 16 = .ok (.ireturn, 1) := by decide +kernel
theorem dL_addCall_0 : decode cL_addCall 0 = .ok (.aload 5, 2) := by decide +kernel
theorem dL_addCall_2 : decode cL_addCall 2 = .ok (.iconst 0, 1) := by decide +kernel
theorem dL_addCall_3 : decode cL_addCall 3 = .ok (.aload_n 0, 1) := by decide +kernel
theorem dL_addCall_4 : decode cL_addCall 4 = .ok (.iload_n 1, 1) := by decide +kernel
theorem dL_addCall_5 : decode cL_addCall 5 = .ok (.iload_n 2, 1) := by decide +kernel
theorem dL_addCall_6 : decode cL_addCall 6 = .ok (.iload_n 3, 1) := by decide +kernel
theorem dL_addCall_7 : decode cL_addCall 7 = .ok (.iload 4, 2) := by decide +kernel
theorem dL_addCall_9 : decode cL_addCall 9 = .ok (.invokevirtual 137, 3) := by decide +kernel
theorem dL_addCall_12 : decode cL_addCall 12 = .ok (.i2l, 1) := by decide +kernel
theorem dL_addCall_13 : decode cL_addCall 13 = .ok (.lastore, 1) := by decide +kernel
theorem dL_addCall_14 : decode cL_addCall 14 = .ok (.goto 15, 3) := by decide +kernel
theorem dL_addCall_17 : decode cL_addCall 17 = .ok (.astore 6, 2) := by decide +kernel
theorem dL_addCall_19 : decode cL_addCall 19 = .ok (.iconst 1, 1) := by decide +kernel
theorem dL_addCall_20 : decode cL_addCall 20 = .ok (.ireturn, 1) := by decide +kernel
theorem dL_addCall_21 : decode cL_addCall 21 = .ok (.astore 6, 2) := by decide +kernel
theorem dL_addCall_23 : decode cL_addCall 23 = .ok (.iconst 2, 1) := by decide +kernel
theorem dL_addCall_24 : decode cL_addCall 24 = .ok (.ireturn, 1) := by decide +kernel
theorem dL_addCall_25 : decode cL_addCall 25 = .ok (.astore 6, 2) := by decide +kernel
theorem dL_addCall_27 : decode cL_addCall 27 = .ok (.iconst 3, 1) := by decide +kernel
theorem dL_addCall_28 : decode cL_addCall 28 = .ok (.ireturn, 1) := by decide +kernel
theorem dL_addCall_29 : decode cL_addCall 29 = .ok (.iconst 0, 1) := by decide +kernel
theorem dL_addCall_30 : decode cL_addCall 30 = .ok (.ireturn, 1) := by decide +kernel
theorem dL_cancel_0 : decode cL_cancel 0 = .ok (.aload_n 2, 1) := by decide +kernel
theorem dL_cancel_1 : decode cL_cancel 1 = .ok (.iconst 0, 1) := by decide +kernel
theorem dL_cancel_2 : decode cL_cancel 2 = .ok (.aload_n 0, 1) := by decide +kernel
theorem dL_cancel_3 : decode cL_cancel 3 = .ok (.iload_n 1, 1) := by decide +kernel
theorem dL_cancel_4 : decode cL_cancel 4 = .ok (.invokevirtual 140, 3) := by decide +kernel
theorem dL_cancel_7 : decode cL_cancel 7 = .ok (.i2l, 1) := by decide +kernel
theorem dL_cancel_8 : decode cL_cancel 8 = .ok (.lastore, 1) := by decide +kernel
theorem dL_cancel_9 : decode cL_cancel 9 = .ok (.goto 9, 3) := by decide +kernel
theorem dL_cancel_12 : decode cL_cancel 12 = .ok (.astore_n 3, 1) := by decide +kernel
theorem dL_cancel_13 : decode cL_cancel 13 = .ok (.iconst 1, 1) := by decide +kernel
theorem dL_cancel_14 : decode cL_cancel 14 = .ok (.ireturn, 1) := by decide +kernel
theorem dL_cancel_15 : decode cL_cancel 15 = .ok (.astore_n 3, 1) := by decide +kernel
theorem dL_cancel_16 : decode cL_cancel 16 = .ok (.iconst 2, 1) := by decide +kernel
theorem dL_cancel_17 : decode cL_cancel 17 = .ok (.ireturn, 1) := by decide +kernel
theorem dL_cancel_18 : decode cL_cancel 18 = .ok (.iconst 0, 1) := by decide +kernel
theorem dL_cancel_19 : decode cL_cancel 19 = .ok (.ireturn, 1) := by decide +kernel
theorem dL_setWaste_0 : decode cL_setWaste 0 = .ok (.aload_n 3, 1) := by decide +kernel
theorem dL_setWaste_1 : decode cL_setWaste 1 = .ok (.iconst 0, 1) := by decide +kernel
theorem dL_setWaste_2 : decode cL_setWaste 2 = .ok (.aload_n 0, 1) := by decide +kernel
theorem dL_setWaste_3 : decode cL_setWaste 3 = .ok (.iload_n 1, 1) := by decide +kernel
theorem dL_setWaste_4 : decode cL_setWaste 4 = .ok (.iload_n 2, 1) := by decide +kernel
theorem dL_setWaste_5 : decode cL_setWaste 5 = .ok (.invokevirtual 143, 3) := by decide +kernel
theorem dL_setWaste_8 : decode cL_setWaste 8 = .ok (.i2l, 1) := by decide +kernel
theorem dL_setWaste_9 : decode cL_setWaste 9 = .ok (.lastore, 1) := by decide +kernel
theorem dL_setWaste_10 : decode cL_setWaste 10 = .ok (.goto 11, 3) := by decide +kernel
theorem dL_setWaste_13 : decode cL_setWaste 13 = .ok (.astore 4, 2) := by decide +kernel
theorem dL_setWaste_15 : decode cL_setWaste 15 = .ok (.iconst 1, 1) := by decide +kernel
theorem dL_setWaste_16 : decode cL_setWaste 16 = .ok (.ireturn, 1) := by decide +kernel
theorem dL_setWaste_17 : decode cL_setWaste 17 = .ok (.astore 4, 2) := by decide +kernel
theorem dL_setWaste_19 : decode cL_setWaste 19 = .ok (.iconst 2, 1) := by decide +kernel
theorem dL_setWaste_20 : decode cL_setWaste 20 = .ok (.ireturn, 1) := by decide +kernel
theorem dL_setWaste_21 : decode cL_setWaste 21 = .ok (.iconst 0, 1) := by decide +kernel
theorem dL_setWaste_22 : decode cL_setWaste 22 = .ok (.ireturn, 1) := by decide +kernel
theorem dL_setTons_0 : decode cL_setTons 0 = .ok (.aload_n 3, 1) := by decide +kernel
theorem dL_setTons_1 : decode cL_setTons 1 = .ok (.iconst 0, 1) := by decide +kernel
theorem dL_setTons_2 : decode cL_setTons 2 = .ok (.aload_n 0, 1) := by decide +kernel
theorem dL_setTons_3 : decode cL_setTons 3 = .ok (.iload_n 1, 1) := by decide +kernel
theorem dL_setTons_4 : decode cL_setTons 4 = .ok (.iload_n 2, 1) := by decide +kernel
theorem dL_setTons_5 : decode cL_setTons 5 = .ok (.invokevirtual 146, 3) := by decide +kernel
theorem dL_setTons_8 : decode cL_setTons 8 = .ok (.i2l, 1) := by decide +kernel
theorem dL_setTons_9 : decode cL_setTons 9 = .ok (.lastore, 1) := by decide +kernel
theorem dL_setTons_10 : decode cL_setTons 10 = .ok (.goto 11, 3) := by decide +kernel
theorem dL_setTons_13 : decode cL_setTons 13 = .ok (.astore 4, 2) := by decide +kernel
theorem dL_setTons_15 : decode cL_setTons 15 = .ok (.iconst 1, 1) := by decide +kernel
theorem dL_setTons_16 : decode cL_setTons 16 = .ok (.ireturn, 1) := by decide +kernel
theorem dL_setTons_17 : decode cL_setTons 17 = .ok (.astore 4, 2) := by decide +kernel
theorem dL_setTons_19 : decode cL_setTons 19 = .ok (.iconst 2, 1) := by decide +kernel
theorem dL_setTons_20 : decode cL_setTons 20 = .ok (.ireturn, 1) := by decide +kernel
theorem dL_setTons_21 : decode cL_setTons 21 = .ok (.iconst 0, 1) := by decide +kernel
theorem dL_setTons_22 : decode cL_setTons 22 = .ok (.ireturn, 1) := by decide +kernel
theorem dL_bill_0 : decode cL_bill 0 = .ok (.aload_n 2, 1) := by decide +kernel
theorem dL_bill_1 : decode cL_bill 1 = .ok (.iconst 0, 1) := by decide +kernel
theorem dL_bill_2 : decode cL_bill 2 = .ok (.aload_n 0, 1) := by decide +kernel
theorem dL_bill_3 : decode cL_bill 3 = .ok (.iload_n 1, 1) := by decide +kernel
theorem dL_bill_4 : decode cL_bill 4 = .ok (.invokevirtual 149, 3) := by decide +kernel
theorem dL_bill_7 : decode cL_bill 7 = .ok (.i2l, 1) := by decide +kernel
theorem dL_bill_8 : decode cL_bill 8 = .ok (.lastore, 1) := by decide +kernel
theorem dL_bill_9 : decode cL_bill 9 = .ok (.goto 9, 3) := by decide +kernel
theorem dL_bill_12 : decode cL_bill 12 = .ok (.astore_n 3, 1) := by decide +kernel
theorem dL_bill_13 : decode cL_bill 13 = .ok (.iconst 1, 1) := by decide +kernel
theorem dL_bill_14 : decode cL_bill 14 = .ok (.ireturn, 1) := by decide +kernel
theorem dL_bill_15 : decode cL_bill 15 = .ok (.astore_n 3, 1) := by decide +kernel
theorem dL_bill_16 : decode cL_bill 16 = .ok (.iconst 2, 1) := by decide +kernel
theorem dL_bill_17 : decode cL_bill 17 = .ok (.ireturn, 1) := by decide +kernel
theorem dL_bill_18 : decode cL_bill 18 = .ok (.iconst 0, 1) := by decide +kernel
theorem dL_bill_19 : decode cL_bill 19 = .ok (.ireturn, 1) := by decide +kernel
theorem dL_billAll_0 : decode cL_billAll 0 = .ok (.aload_n 2, 1) := by decide +kernel
theorem dL_billAll_1 : decode cL_billAll 1 = .ok (.iconst 0, 1) := by decide +kernel
theorem dL_billAll_2 : decode cL_billAll 2 = .ok (.aload_n 0, 1) := by decide +kernel
theorem dL_billAll_3 : decode cL_billAll 3 = .ok (.iload_n 1, 1) := by decide +kernel
theorem dL_billAll_4 : decode cL_billAll 4 = .ok (.invokevirtual 152, 3) := by decide +kernel
theorem dL_billAll_7 : decode cL_billAll 7 = .ok (.i2l, 1) := by decide +kernel
theorem dL_billAll_8 : decode cL_billAll 8 = .ok (.lastore, 1) := by decide +kernel
theorem dL_billAll_9 : decode cL_billAll 9 = .ok (.goto 6, 3) := by decide +kernel
theorem dL_billAll_12 : decode cL_billAll 12 = .ok (.astore_n 3, 1) := by decide +kernel
theorem dL_billAll_13 : decode cL_billAll 13 = .ok (.iconst 1, 1) := by decide +kernel
theorem dL_billAll_14 : decode cL_billAll 14 = .ok (.ireturn, 1) := by decide +kernel
theorem dL_billAll_15 : decode cL_billAll 15 = .ok (.iconst 0, 1) := by decide +kernel
theorem dL_billAll_16 : decode cL_billAll 16 = .ok (.ireturn, 1) := by decide +kernel
theorem dL_credit_0 : decode cL_credit 0 = .ok (.aload_n 3, 1) := by decide +kernel
theorem dL_credit_1 : decode cL_credit 1 = .ok (.iconst 0, 1) := by decide +kernel
theorem dL_credit_2 : decode cL_credit 2 = .ok (.aload_n 0, 1) := by decide +kernel
theorem dL_credit_3 : decode cL_credit 3 = .ok (.iload_n 1, 1) := by decide +kernel
theorem dL_credit_4 : decode cL_credit 4 = .ok (.iload_n 2, 1) := by decide +kernel
theorem dL_credit_5 : decode cL_credit 5 = .ok (.invokevirtual 155, 3) := by decide +kernel
theorem dL_credit_8 : decode cL_credit 8 = .ok (.i2l, 1) := by decide +kernel
theorem dL_credit_9 : decode cL_credit 9 = .ok (.lastore, 1) := by decide +kernel
theorem dL_credit_10 : decode cL_credit 10 = .ok (.goto 15, 3) := by decide +kernel
theorem dL_credit_13 : decode cL_credit 13 = .ok (.astore 4, 2) := by decide +kernel
theorem dL_credit_15 : decode cL_credit 15 = .ok (.iconst 1, 1) := by decide +kernel
theorem dL_credit_16 : decode cL_credit 16 = .ok (.ireturn, 1) := by decide +kernel
theorem dL_credit_17 : decode cL_credit 17 = .ok (.astore 4, 2) := by decide +kernel
theorem dL_credit_19 : decode cL_credit 19 = .ok (.iconst 2, 1) := by decide +kernel
theorem dL_credit_20 : decode cL_credit 20 = .ok (.ireturn, 1) := by decide +kernel
theorem dL_credit_21 : decode cL_credit 21 = .ok (.astore 4, 2) := by decide +kernel
theorem dL_credit_23 : decode cL_credit 23 = .ok (.iconst 3, 1) := by decide +kernel
theorem dL_credit_24 : decode cL_credit 24 = .ok (.ireturn, 1) := by decide +kernel
theorem dL_credit_25 : decode cL_credit 25 = .ok (.iconst 0, 1) := by decide +kernel
theorem dL_credit_26 : decode cL_credit 26 = .ok (.ireturn, 1) := by decide +kernel
theorem dL_dispute_0 : decode cL_dispute 0 = .ok (.aload_n 3, 1) := by decide +kernel
theorem dL_dispute_1 : decode cL_dispute 1 = .ok (.iconst 0, 1) := by decide +kernel
theorem dL_dispute_2 : decode cL_dispute 2 = .ok (.aload_n 0, 1) := by decide +kernel
theorem dL_dispute_3 : decode cL_dispute 3 = .ok (.iload_n 1, 1) := by decide +kernel
theorem dL_dispute_4 : decode cL_dispute 4 = .ok (.iload_n 2, 1) := by decide +kernel
theorem dL_dispute_5 : decode cL_dispute 5 = .ok (.invokevirtual 158, 3) := by decide +kernel
theorem dL_dispute_8 : decode cL_dispute 8 = .ok (.i2l, 1) := by decide +kernel
theorem dL_dispute_9 : decode cL_dispute 9 = .ok (.lastore, 1) := by decide +kernel
theorem dL_dispute_10 : decode cL_dispute 10 = .ok (.goto 15, 3) := by decide +kernel
theorem dL_dispute_13 : decode cL_dispute 13 = .ok (.astore 4, 2) := by decide +kernel
theorem dL_dispute_15 : decode cL_dispute 15 = .ok (.iconst 1, 1) := by decide +kernel
theorem dL_dispute_16 : decode cL_dispute 16 = .ok (.ireturn, 1) := by decide +kernel
theorem dL_dispute_17 : decode cL_dispute 17 = .ok (.astore 4, 2) := by decide +kernel
theorem dL_dispute_19 : decode cL_dispute 19 = .ok (.iconst 2, 1) := by decide +kernel
theorem dL_dispute_20 : decode cL_dispute 20 = .ok (.ireturn, 1) := by decide +kernel
theorem dL_dispute_21 : decode cL_dispute 21 = .ok (.astore 4, 2) := by decide +kernel
theorem dL_dispute_23 : decode cL_dispute 23 = .ok (.iconst 3, 1) := by decide +kernel
theorem dL_dispute_24 : decode cL_dispute 24 = .ok (.ireturn, 1) := by decide +kernel
theorem dL_dispute_25 : decode cL_dispute 25 = .ok (.iconst 0, 1) := by decide +kernel
theorem dL_dispute_26 : decode cL_dispute 26 = .ok (.ireturn, 1) := by decide +kernel
theorem dL_settle_0 : decode cL_settle 0 = .ok (.aload 4, 2) := by decide +kernel
theorem dL_settle_2 : decode cL_settle 2 = .ok (.iconst 0, 1) := by decide +kernel
theorem dL_settle_3 : decode cL_settle 3 = .ok (.aload_n 0, 1) := by decide +kernel
theorem dL_settle_4 : decode cL_settle 4 = .ok (.iload_n 1, 1) := by decide +kernel
theorem dL_settle_5 : decode cL_settle 5 = .ok (.iload_n 2, 1) := by decide +kernel
theorem dL_settle_6 : decode cL_settle 6 = .ok (.iload_n 3, 1) := by decide +kernel
theorem dL_settle_7 : decode cL_settle 7 = .ok (.invokevirtual 161, 3) := by decide +kernel
theorem dL_settle_10 : decode cL_settle 10 = .ok (.i2l, 1) := by decide +kernel
theorem dL_settle_11 : decode cL_settle 11 = .ok (.lastore, 1) := by decide +kernel
theorem dL_settle_12 : decode cL_settle 12 = .ok (.goto 11, 3) := by decide +kernel
theorem dL_settle_15 : decode cL_settle 15 = .ok (.astore 5, 2) := by decide +kernel
theorem dL_settle_17 : decode cL_settle 17 = .ok (.iconst 1, 1) := by decide +kernel
theorem dL_settle_18 : decode cL_settle 18 = .ok (.ireturn, 1) := by decide +kernel
theorem dL_settle_19 : decode cL_settle 19 = .ok (.astore 5, 2) := by decide +kernel
theorem dL_settle_21 : decode cL_settle 21 = .ok (.iconst 2, 1) := by decide +kernel
theorem dL_settle_22 : decode cL_settle 22 = .ok (.ireturn, 1) := by decide +kernel
theorem dL_settle_23 : decode cL_settle 23 = .ok (.iconst 0, 1) := by decide +kernel
theorem dL_settle_24 : decode cL_settle 24 = .ok (.ireturn, 1) := by decide +kernel
theorem dL_pay_0 : decode cL_pay 0 = .ok (.aload_n 3, 1) := by decide +kernel
theorem dL_pay_1 : decode cL_pay 1 = .ok (.iconst 0, 1) := by decide +kernel
theorem dL_pay_2 : decode cL_pay 2 = .ok (.aload_n 0, 1) := by decide +kernel
theorem dL_pay_3 : decode cL_pay 3 = .ok (.iload_n 1, 1) := by decide +kernel
theorem dL_pay_4 : decode cL_pay 4 = .ok (.iload_n 2, 1) := by decide +kernel
theorem dL_pay_5 : decode cL_pay 5 = .ok (.invokevirtual 165, 3) := by decide +kernel
theorem dL_pay_8 : decode cL_pay 8 = .ok (.lastore, 1) := by decide +kernel
theorem dL_pay_9 : decode cL_pay 9 = .ok (.goto 11, 3) := by decide +kernel
theorem dL_pay_12 : decode cL_pay 12 = .ok (.astore 4, 2) := by decide +kernel
theorem dL_pay_14 : decode cL_pay 14 = .ok (.iconst 1, 1) := by decide +kernel
theorem dL_pay_15 : decode cL_pay 15 = .ok (.ireturn, 1) := by decide +kernel
theorem dL_pay_16 : decode cL_pay 16 = .ok (.astore 4, 2) := by decide +kernel
theorem dL_pay_18 : decode cL_pay 18 = .ok (.iconst 2, 1) := by decide +kernel
theorem dL_pay_19 : decode cL_pay 19 = .ok (.ireturn, 1) := by decide +kernel
theorem dL_pay_20 : decode cL_pay 20 = .ok (.iconst 0, 1) := by decide +kernel
theorem dL_pay_21 : decode cL_pay 21 = .ok (.ireturn, 1) := by decide +kernel
theorem dL_advance_0 : decode cL_advance 0 = .ok (.aload_n 2, 1) := by decide +kernel
theorem dL_advance_1 : decode cL_advance 1 = .ok (.iconst 0, 1) := by decide +kernel
theorem dL_advance_2 : decode cL_advance 2 = .ok (.aload_n 0, 1) := by decide +kernel
theorem dL_advance_3 : decode cL_advance 3 = .ok (.iload_n 1, 1) := by decide +kernel
theorem dL_advance_4 : decode cL_advance 4 = .ok (.invokevirtual 168, 3) := by decide +kernel
theorem dL_advance_7 : decode cL_advance 7 = .ok (.i2l, 1) := by decide +kernel
theorem dL_advance_8 : decode cL_advance 8 = .ok (.lastore, 1) := by decide +kernel
theorem dL_advance_9 : decode cL_advance 9 = .ok (.goto 9, 3) := by decide +kernel
theorem dL_advance_12 : decode cL_advance 12 = .ok (.astore_n 3, 1) := by decide +kernel
theorem dL_advance_13 : decode cL_advance 13 = .ok (.iconst 1, 1) := by decide +kernel
theorem dL_advance_14 : decode cL_advance 14 = .ok (.ireturn, 1) := by decide +kernel
theorem dL_advance_15 : decode cL_advance 15 = .ok (.astore_n 3, 1) := by decide +kernel
theorem dL_advance_16 : decode cL_advance 16 = .ok (.iconst 2, 1) := by decide +kernel
theorem dL_advance_17 : decode cL_advance 17 = .ok (.ireturn, 1) := by decide +kernel
theorem dL_advance_18 : decode cL_advance 18 = .ok (.iconst 0, 1) := by decide +kernel
theorem dL_advance_19 : decode cL_advance 19 = .ok (.ireturn, 1) := by decide +kernel
theorem dL_setRate_0 : decode cL_setRate 0 = .ok (.aload_n 3, 1) := by decide +kernel
theorem dL_setRate_1 : decode cL_setRate 1 = .ok (.iconst 0, 1) := by decide +kernel
theorem dL_setRate_2 : decode cL_setRate 2 = .ok (.aload_n 0, 1) := by decide +kernel
theorem dL_setRate_3 : decode cL_setRate 3 = .ok (.iload_n 1, 1) := by decide +kernel
theorem dL_setRate_4 : decode cL_setRate 4 = .ok (.iload_n 2, 1) := by decide +kernel
theorem dL_setRate_5 : decode cL_setRate 5 = .ok (.invokevirtual 171, 3) := by decide +kernel
theorem dL_setRate_8 : decode cL_setRate 8 = .ok (.i2l, 1) := by decide +kernel
theorem dL_setRate_9 : decode cL_setRate 9 = .ok (.lastore, 1) := by decide +kernel
theorem dL_setRate_10 : decode cL_setRate 10 = .ok (.goto 15, 3) := by decide +kernel
theorem dL_setRate_13 : decode cL_setRate 13 = .ok (.astore 4, 2) := by decide +kernel
theorem dL_setRate_15 : decode cL_setRate 15 = .ok (.iconst 1, 1) := by decide +kernel
theorem dL_setRate_16 : decode cL_setRate 16 = .ok (.ireturn, 1) := by decide +kernel
theorem dL_setRate_17 : decode cL_setRate 17 = .ok (.astore 4, 2) := by decide +kernel
theorem dL_setRate_19 : decode cL_setRate 19 = .ok (.iconst 2, 1) := by decide +kernel
theorem dL_setRate_20 : decode cL_setRate 20 = .ok (.ireturn, 1) := by decide +kernel
theorem dL_setRate_21 : decode cL_setRate 21 = .ok (.astore 4, 2) := by decide +kernel
theorem dL_setRate_23 : decode cL_setRate 23 = .ok (.iconst 3, 1) := by decide +kernel
theorem dL_setRate_24 : decode cL_setRate 24 = .ok (.ireturn, 1) := by decide +kernel
theorem dL_setRate_25 : decode cL_setRate 25 = .ok (.iconst 0, 1) := by decide +kernel
theorem dL_setRate_26 : decode cL_setRate 26 = .ok (.ireturn, 1) := by decide +kernel
theorem dL_setPercent_0 : decode cL_setPercent 0 = .ok (.aload_n 3, 1) := by decide +kernel
theorem dL_setPercent_1 : decode cL_setPercent 1 = .ok (.iconst 0, 1) := by decide +kernel
theorem dL_setPercent_2 : decode cL_setPercent 2 = .ok (.aload_n 0, 1) := by decide +kernel
theorem dL_setPercent_3 : decode cL_setPercent 3 = .ok (.iload_n 1, 1) := by decide +kernel
theorem dL_setPercent_4 : decode cL_setPercent 4 = .ok (.iload_n 2, 1) := by decide +kernel
theorem dL_setPercent_5 : decode cL_setPercent 5 = .ok (.invokevirtual 174, 3) := by decide +kernel
theorem dL_setPercent_8 : decode cL_setPercent 8 = .ok (.i2l, 1) := by decide +kernel
theorem dL_setPercent_9 : decode cL_setPercent 9 = .ok (.lastore, 1) := by decide +kernel
theorem dL_setPercent_10 : decode cL_setPercent 10 = .ok (.goto 15, 3) := by decide +kernel
theorem dL_setPercent_13 : decode cL_setPercent 13 = .ok (.astore 4, 2) := by decide +kernel
theorem dL_setPercent_15 : decode cL_setPercent 15 = .ok (.iconst 1, 1) := by decide +kernel
theorem dL_setPercent_16 : decode cL_setPercent 16 = .ok (.ireturn, 1) := by decide +kernel
theorem dL_setPercent_17 : decode cL_setPercent 17 = .ok (.astore 4, 2) := by decide +kernel
theorem dL_setPercent_19 : decode cL_setPercent 19 = .ok (.iconst 2, 1) := by decide +kernel
theorem dL_setPercent_20 : decode cL_setPercent 20 = .ok (.ireturn, 1) := by decide +kernel
theorem dL_setPercent_21 : decode cL_setPercent 21 = .ok (.astore 4, 2) := by decide +kernel
theorem dL_setPercent_23 : decode cL_setPercent 23 = .ok (.iconst 3, 1) := by decide +kernel
theorem dL_setPercent_24 : decode cL_setPercent 24 = .ok (.ireturn, 1) := by decide +kernel
theorem dL_setPercent_25 : decode cL_setPercent 25 = .ok (.iconst 0, 1) := by decide +kernel
theorem dL_setPercent_26 : decode cL_setPercent 26 = .ok (.ireturn, 1) := by decide +kernel
theorem dL_setLay_0 : decode cL_setLay 0 = .ok (.aload_n 3, 1) := by decide +kernel
theorem dL_setLay_1 : decode cL_setLay 1 = .ok (.iconst 0, 1) := by decide +kernel
theorem dL_setLay_2 : decode cL_setLay 2 = .ok (.aload_n 0, 1) := by decide +kernel
theorem dL_setLay_3 : decode cL_setLay 3 = .ok (.iload_n 1, 1) := by decide +kernel
theorem dL_setLay_4 : decode cL_setLay 4 = .ok (.iload_n 2, 1) := by decide +kernel
theorem dL_setLay_5 : decode cL_setLay 5 = .ok (.invokevirtual 177, 3) := by decide +kernel
theorem dL_setLay_8 : decode cL_setLay 8 = .ok (.i2l, 1) := by decide +kernel
theorem dL_setLay_9 : decode cL_setLay 9 = .ok (.lastore, 1) := by decide +kernel
theorem dL_setLay_10 : decode cL_setLay 10 = .ok (.goto 11, 3) := by decide +kernel
theorem dL_setLay_13 : decode cL_setLay 13 = .ok (.astore 4, 2) := by decide +kernel
theorem dL_setLay_15 : decode cL_setLay 15 = .ok (.iconst 1, 1) := by decide +kernel
theorem dL_setLay_16 : decode cL_setLay 16 = .ok (.ireturn, 1) := by decide +kernel
theorem dL_setLay_17 : decode cL_setLay 17 = .ok (.astore 4, 2) := by decide +kernel
theorem dL_setLay_19 : decode cL_setLay 19 = .ok (.iconst 2, 1) := by decide +kernel
theorem dL_setLay_20 : decode cL_setLay 20 = .ok (.ireturn, 1) := by decide +kernel
theorem dL_setLay_21 : decode cL_setLay 21 = .ok (.iconst 0, 1) := by decide +kernel
theorem dL_setLay_22 : decode cL_setLay 22 = .ok (.ireturn, 1) := by decide +kernel
theorem dL_undo_0 : decode cL_undo 0 = .ok (.aload_n 1, 1) := by decide +kernel
theorem dL_undo_1 : decode cL_undo 1 = .ok (.iconst 0, 1) := by decide +kernel
theorem dL_undo_2 : decode cL_undo 2 = .ok (.aload_n 0, 1) := by decide +kernel
theorem dL_undo_3 : decode cL_undo 3 = .ok (.invokevirtual 180, 3) := by decide +kernel
theorem dL_undo_6 : decode cL_undo 6 = .ok (.i2l, 1) := by decide +kernel
theorem dL_undo_7 : decode cL_undo 7 = .ok (.lastore, 1) := by decide +kernel
theorem dL_undo_8 : decode cL_undo 8 = .ok (.goto 6, 3) := by decide +kernel
theorem dL_undo_11 : decode cL_undo 11 = .ok (.astore_n 2, 1) := by decide +kernel
theorem dL_undo_12 : decode cL_undo 12 = .ok (.iconst 1, 1) := by decide +kernel
theorem dL_undo_13 : decode cL_undo 13 = .ok (.ireturn, 1) := by decide +kernel
theorem dL_undo_14 : decode cL_undo 14 = .ok (.iconst 0, 1) := by decide +kernel
theorem dL_undo_15 : decode cL_undo 15 = .ok (.ireturn, 1) := by decide +kernel
theorem dL_writeStatement_0 : decode cL_writeStatement 0 = .ok (.aload_n 2, 1) := by decide +kernel
theorem dL_writeStatement_1 : decode cL_writeStatement 1 = .ok (.iconst 0, 1) := by decide +kernel
theorem dL_writeStatement_2 : decode cL_writeStatement 2 = .ok (.aload_n 0, 1) := by decide +kernel
theorem dL_writeStatement_3 : decode cL_writeStatement 3 = .ok (.iload_n 1, 1) := by decide +kernel
theorem dL_writeStatement_4 : decode cL_writeStatement 4 = .ok (.invokevirtual 184, 3) := by decide +kernel
theorem dL_writeStatement_7 : decode cL_writeStatement 7 = .ok (.i2l, 1) := by decide +kernel
theorem dL_writeStatement_8 : decode cL_writeStatement 8 = .ok (.lastore, 1) := by decide +kernel
theorem dL_writeStatement_9 : decode cL_writeStatement 9 = .ok (.goto 6, 3) := by decide +kernel
theorem dL_writeStatement_12 : decode cL_writeStatement 12 = .ok (.astore_n 3, 1) := by decide +kernel
theorem dL_writeStatement_13 : decode cL_writeStatement 13 = .ok (.iconst 1, 1) := by decide +kernel
theorem dL_writeStatement_14 : decode cL_writeStatement 14 = .ok (.ireturn, 1) := by decide +kernel
theorem dL_writeStatement_15 : decode cL_writeStatement 15 = .ok (.iconst 0, 1) := by decide +kernel
theorem dL_writeStatement_16 : decode cL_writeStatement 16 = .ok (.ireturn, 1) := by decide +kernel
theorem dL_writeInvoice_0 : decode cL_writeInvoice 0 = .ok (.aload_n 2, 1) := by decide +kernel
theorem dL_writeInvoice_1 : decode cL_writeInvoice 1 = .ok (.iconst 0, 1) := by decide +kernel
theorem dL_writeInvoice_2 : decode cL_writeInvoice 2 = .ok (.aload_n 0, 1) := by decide +kernel
theorem dL_writeInvoice_3 : decode cL_writeInvoice 3 = .ok (.iload_n 1, 1) := by decide +kernel
theorem dL_writeInvoice_4 : decode cL_writeInvoice 4 = .ok (.invokevirtual 187, 3) := by decide +kernel
theorem dL_writeInvoice_7 : decode cL_writeInvoice 7 = .ok (.i2l, 1) := by decide +kernel
theorem dL_writeInvoice_8 : decode cL_writeInvoice 8 = .ok (.lastore, 1) := by decide +kernel
theorem dL_writeInvoice_9 : decode cL_writeInvoice 9 = .ok (.goto 6, 3) := by decide +kernel
theorem dL_writeInvoice_12 : decode cL_writeInvoice 12 = .ok (.astore_n 3, 1) := by decide +kernel
theorem dL_writeInvoice_13 : decode cL_writeInvoice 13 = .ok (.iconst 1, 1) := by decide +kernel
theorem dL_writeInvoice_14 : decode cL_writeInvoice 14 = .ok (.ireturn, 1) := by decide +kernel
theorem dL_writeInvoice_15 : decode cL_writeInvoice 15 = .ok (.iconst 0, 1) := by decide +kernel
theorem dL_writeInvoice_16 : decode cL_writeInvoice 16 = .ok (.ireturn, 1) := by decide +kernel
theorem dL_writeTariff_0 : decode cL_writeTariff 0 = .ok (.aload_n 2, 1) := by decide +kernel
theorem dL_writeTariff_1 : decode cL_writeTariff 1 = .ok (.iconst 0, 1) := by decide +kernel
theorem dL_writeTariff_2 : decode cL_writeTariff 2 = .ok (.aload_n 0, 1) := by decide +kernel
theorem dL_writeTariff_3 : decode cL_writeTariff 3 = .ok (.iload_n 1, 1) := by decide +kernel
theorem dL_writeTariff_4 : decode cL_writeTariff 4 = .ok (.invokevirtual 190, 3) := by decide +kernel
theorem dL_writeTariff_7 : decode cL_writeTariff 7 = .ok (.i2l, 1) := by decide +kernel
theorem dL_writeTariff_8 : decode cL_writeTariff 8 = .ok (.lastore, 1) := by decide +kernel
theorem dL_writeTariff_9 : decode cL_writeTariff 9 = .ok (.goto 6, 3) := by decide +kernel
theorem dL_writeTariff_12 : decode cL_writeTariff 12 = .ok (.astore_n 3, 1) := by decide +kernel
theorem dL_writeTariff_13 : decode cL_writeTariff 13 = .ok (.iconst 1, 1) := by decide +kernel
theorem dL_writeTariff_14 : decode cL_writeTariff 14 = .ok (.ireturn, 1) := by decide +kernel
theorem dL_writeTariff_15 : decode cL_writeTariff 15 = .ok (.iconst 0, 1) := by decide +kernel
theorem dL_writeTariff_16 : decode cL_writeTariff 16 = .ok (.ireturn, 1) := by decide +kernel
theorem dL_bestDay_0 : decode cL_bestDay 0 = .ok (.aload 6, 2) := by decide +kernel
theorem dL_bestDay_2 : decode cL_bestDay 2 = .ok (.iconst 0, 1) := by decide +kernel
theorem dL_bestDay_3 : decode cL_bestDay 3 = .ok (.aload_n 0, 1) := by decide +kernel
theorem dL_bestDay_4 : decode cL_bestDay 4 = .ok (.iload_n 1, 1) := by decide +kernel
theorem dL_bestDay_5 : decode cL_bestDay 5 = .ok (.iload_n 2, 1) := by decide +kernel
theorem dL_bestDay_6 : decode cL_bestDay 6 = .ok (.iload_n 3, 1) := by decide +kernel
theorem dL_bestDay_7 : decode cL_bestDay 7 = .ok (.iload 4, 2) := by decide +kernel
theorem dL_bestDay_9 : decode cL_bestDay 9 = .ok (.iload 5, 2) := by decide +kernel
theorem dL_bestDay_11 : decode cL_bestDay 11 = .ok (.invokevirtual 193, 3) := by decide +kernel
theorem dL_bestDay_14 : decode cL_bestDay 14 = .ok (.i2l, 1) := by decide +kernel
theorem dL_bestDay_15 : decode cL_bestDay 15 = .ok (.lastore, 1) := by decide +kernel
theorem dL_bestDay_16 : decode cL_bestDay 16 = .ok (.goto 11, 3) := by decide +kernel
theorem dL_bestDay_19 : decode cL_bestDay 19 = .ok (.astore 7, 2) := by decide +kernel
theorem dL_bestDay_21 : decode cL_bestDay 21 = .ok (.iconst 1, 1) := by decide +kernel
theorem dL_bestDay_22 : decode cL_bestDay 22 = .ok (.ireturn, 1) := by decide +kernel
theorem dL_bestDay_23 : decode cL_bestDay 23 = .ok (.astore 7, 2) := by decide +kernel
theorem dL_bestDay_25 : decode cL_bestDay 25 = .ok (.iconst 2, 1) := by decide +kernel
theorem dL_bestDay_26 : decode cL_bestDay 26 = .ok (.ireturn, 1) := by decide +kernel
theorem dL_bestDay_27 : decode cL_bestDay 27 = .ok (.iconst 0, 1) := by decide +kernel
theorem dL_bestDay_28 : decode cL_bestDay 28 = .ok (.ireturn, 1) := by decide +kernel
theorem dL_outputByte_0 : decode cL_outputByte 0 = .ok (.aload_n 2, 1) := by decide +kernel
theorem dL_outputByte_1 : decode cL_outputByte 1 = .ok (.iconst 0, 1) := by decide +kernel
theorem dL_outputByte_2 : decode cL_outputByte 2 = .ok (.aload_n 0, 1) := by decide +kernel
theorem dL_outputByte_3 : decode cL_outputByte 3 = .ok (.iload_n 1, 1) := by decide +kernel
theorem dL_outputByte_4 : decode cL_outputByte 4 = .ok (.invokevirtual 196, 3) := by decide +kernel
theorem dL_outputByte_7 : decode cL_outputByte 7 = .ok (.i2l, 1) := by decide +kernel
theorem dL_outputByte_8 : decode cL_outputByte 8 = .ok (.lastore, 1) := by decide +kernel
theorem dL_outputByte_9 : decode cL_outputByte 9 = .ok (.goto 6, 3) := by decide +kernel
theorem dL_outputByte_12 : decode cL_outputByte 12 = .ok (.astore_n 3, 1) := by decide +kernel
theorem dL_outputByte_13 : decode cL_outputByte 13 = .ok (.iconst 1, 1) := by decide +kernel
theorem dL_outputByte_14 : decode cL_outputByte 14 = .ok (.ireturn, 1) := by decide +kernel
theorem dL_outputByte_15 : decode cL_outputByte 15 = .ok (.iconst 0, 1) := by decide +kernel
theorem dL_outputByte_16 : decode cL_outputByte 16 = .ok (.ireturn, 1) := by decide +kernel
