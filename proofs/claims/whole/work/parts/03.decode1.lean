theorem dX0_init_0 : decode cX0_init 0 = .ok (.aload_n 0, 1) := by decide +kernel
theorem dX0_init_1 : decode cX0_init 1 = .ok (.invokespecial 3, 3) := by decide +kernel
theorem dX0_init_4 : decode cX0_init 4 = .ok (.aload_n 0, 1) := by decide +kernel
theorem dX0_init_5 : decode cX0_init 5 = .ok (.aload_n 1, 1) := by decide +kernel
theorem dX0_init_6 : decode cX0_init 6 = .ok (.putfield 9, 3) := by decide +kernel
theorem dX0_init_9 : decode cX0_init 9 = .ok (.return_, 1) := by decide +kernel
theorem dX0_shipOf_0 : decode cX0_shipOf 0 = .ok (.aload_n 0, 1) := by decide +kernel
theorem dX0_shipOf_1 : decode cX0_shipOf 1 = .ok (.getfield 9, 3) := by decide +kernel
theorem dX0_shipOf_4 : decode cX0_shipOf 4 = .ok (.getfield 15, 3) := by decide +kernel
theorem dX0_shipOf_7 : decode cX0_shipOf 7 = .ok (.aload_n 0, 1) := by decide +kernel
theorem dX0_shipOf_8 : decode cX0_shipOf 8 = .ok (.getfield 9, 3) := by decide +kernel
theorem dX0_shipOf_11 : decode cX0_shipOf 11 = .ok (.getfield 21, 3) := by decide +kernel
theorem dX0_shipOf_14 : decode cX0_shipOf 14 = .ok (.iload_n 1, 1) := by decide +kernel
theorem dX0_shipOf_15 : decode cX0_shipOf 15 = .ok (.aaload, 1) := by decide +kernel
theorem dX0_shipOf_16 : decode cX0_shipOf 16 = .ok (.getfield 25, 3) := by decide +kernel
theorem dX0_shipOf_19 : decode cX0_shipOf 19 = .ok (.aaload, 1) := by decide +kernel
theorem dX0_shipOf_20 : decode cX0_shipOf 20 = .ok (.getfield 31, 3) := by decide +kernel
theorem dX0_shipOf_23 : decode cX0_shipOf 23 = .ok (.ireturn, 1) := by decide +kernel
theorem dX0_billedLinesOf_0 : decode cX0_billedLinesOf 0 = .ok (.iconst 0, 1) := by decide +kernel
theorem dX0_billedLinesOf_1 : decode cX0_billedLinesOf 1 = .ok (.istore_n 2, 1) := by decide +kernel
theorem dX0_billedLinesOf_2 : decode cX0_billedLinesOf 2 = .ok (.iconst 0, 1) := by decide +kernel
theorem dX0_billedLinesOf_3 : decode cX0_billedLinesOf 3 = .ok (.istore_n 3, 1) := by decide +kernel
theorem dX0_billedLinesOf_4 : decode cX0_billedLinesOf 4 = .ok (.iload_n 3, 1) := by decide +kernel
theorem dX0_billedLinesOf_5 : decode cX0_billedLinesOf 5 = .ok (.aload_n 0, 1) := by decide +kernel
theorem dX0_billedLinesOf_6 : decode cX0_billedLinesOf 6 = .ok (.getfield 9, 3) := by decide +kernel
theorem dX0_billedLinesOf_9 : decode cX0_billedLinesOf 9 = .ok (.getfield 36, 3) := by decide +kernel
theorem dX0_billedLinesOf_12 : decode cX0_billedLinesOf 12 = .ok (.if_icmp .ge 40, 3) := by decide +kernel
theorem dX0_billedLinesOf_15 : decode cX0_billedLinesOf 15 = .ok (.aload_n 0, 1) := by decide +kernel
theorem dX0_billedLinesOf_16 : decode cX0_billedLinesOf 16 = .ok (.getfield 9, 3) := by decide +kernel
theorem dX0_billedLinesOf_19 : decode cX0_billedLinesOf 19 = .ok (.getfield 21, 3) := by decide +kernel
theorem dX0_billedLinesOf_22 : decode cX0_billedLinesOf 22 = .ok (.iload_n 3, 1) := by decide +kernel
theorem dX0_billedLinesOf_23 : decode cX0_billedLinesOf 23 = .ok (.aaload, 1) := by decide +kernel
theorem dX0_billedLinesOf_24 : decode cX0_billedLinesOf 24 = .ok (.astore 4, 2) := by decide +kernel
theorem dX0_billedLinesOf_26 : decode cX0_billedLinesOf 26 = .ok (.aload 4, 2) := by decide +kernel
theorem dX0_billedLinesOf_28 : decode cX0_billedLinesOf 28 = .ok (.getfield 25, 3) := by decide +kernel
theorem dX0_billedLinesOf_31 : decode cX0_billedLinesOf 31 = .ok (.iload_n 1, 1) := by decide +kernel
theorem dX0_billedLinesOf_32 : decode cX0_billedLinesOf 32 = .ok (.if_icmp .ne 14, 3) := by decide +kernel
theorem dX0_billedLinesOf_35 : decode cX0_billedLinesOf 35 = .ok (.iload_n 2, 1) := by decide +kernel
theorem dX0_billedLinesOf_36 : decode cX0_billedLinesOf 36 = .ok (.aload 4, 2) := by decide +kernel
theorem dX0_billedLinesOf_38 : decode cX0_billedLinesOf 38 = .ok (.invokevirtual 39, 3) := by decide +kernel
theorem dX0_billedLinesOf_41 : decode cX0_billedLinesOf 41 = .ok (.bipush 7, 2) := by decide +kernel
theorem dX0_billedLinesOf_43 : decode cX0_billedLinesOf 43 = .ok (.iand, 1) := by decide +kernel
theorem dX0_billedLinesOf_44 : decode cX0_billedLinesOf 44 = .ok (.ior, 1) := by decide +kernel
theorem dX0_billedLinesOf_45 : decode cX0_billedLinesOf 45 = .ok (.istore_n 2, 1) := by decide +kernel
theorem dX0_billedLinesOf_46 : decode cX0_billedLinesOf 46 = .ok (.iinc 3 1, 3) := by decide +kernel
theorem dX0_billedLinesOf_49 : decode cX0_billedLinesOf 49 = .ok (.goto (-45), 3) := by decide +kernel
theorem dX0_billedLinesOf_52 : decode cX0_billedLinesOf 52 = .ok (.iload_n 2, 1) := by decide +kernel
theorem dX0_billedLinesOf_53 : decode cX0_billedLinesOf 53 = .ok (.ireturn, 1) := by decide +kernel
theorem dX0_billedDaysOf_0 : decode cX0_billedDaysOf 0 = .ok (.iconst 0, 1) := by decide +kernel
theorem dX0_billedDaysOf_1 : decode cX0_billedDaysOf 1 = .ok (.istore_n 2, 1) := by decide +kernel
theorem dX0_billedDaysOf_2 : decode cX0_billedDaysOf 2 = .ok (.iconst 0, 1) := by decide +kernel
theorem dX0_billedDaysOf_3 : decode cX0_billedDaysOf 3 = .ok (.istore_n 3, 1) := by decide +kernel
theorem dX0_billedDaysOf_4 : decode cX0_billedDaysOf 4 = .ok (.iload_n 3, 1) := by decide +kernel
theorem dX0_billedDaysOf_5 : decode cX0_billedDaysOf 5 = .ok (.aload_n 0, 1) := by decide +kernel
theorem dX0_billedDaysOf_6 : decode cX0_billedDaysOf 6 = .ok (.getfield 9, 3) := by decide +kernel
theorem dX0_billedDaysOf_9 : decode cX0_billedDaysOf 9 = .ok (.getfield 36, 3) := by decide +kernel
theorem dX0_billedDaysOf_12 : decode cX0_billedDaysOf 12 = .ok (.if_icmp .ge 46, 3) := by decide +kernel
theorem dX0_billedDaysOf_15 : decode cX0_billedDaysOf 15 = .ok (.aload_n 0, 1) := by decide +kernel
theorem dX0_billedDaysOf_16 : decode cX0_billedDaysOf 16 = .ok (.getfield 9, 3) := by decide +kernel
theorem dX0_billedDaysOf_19 : decode cX0_billedDaysOf 19 = .ok (.getfield 21, 3) := by decide +kernel
theorem dX0_billedDaysOf_22 : decode cX0_billedDaysOf 22 = .ok (.iload_n 3, 1) := by decide +kernel
theorem dX0_billedDaysOf_23 : decode cX0_billedDaysOf 23 = .ok (.aaload, 1) := by decide +kernel
theorem dX0_billedDaysOf_24 : decode cX0_billedDaysOf 24 = .ok (.astore 4, 2) := by decide +kernel
theorem dX0_billedDaysOf_26 : decode cX0_billedDaysOf 26 = .ok (.aload 4, 2) := by decide +kernel
theorem dX0_billedDaysOf_28 : decode cX0_billedDaysOf 28 = .ok (.getfield 25, 3) := by decide +kernel
theorem dX0_billedDaysOf_31 : decode cX0_billedDaysOf 31 = .ok (.iload_n 1, 1) := by decide +kernel
theorem dX0_billedDaysOf_32 : decode cX0_billedDaysOf 32 = .ok (.if_icmp .ne 20, 3) := by decide +kernel
theorem dX0_billedDaysOf_35 : decode cX0_billedDaysOf 35 = .ok (.aload 4, 2) := by decide +kernel
theorem dX0_billedDaysOf_37 : decode cX0_billedDaysOf 37 = .ok (.iconst 3, 1) := by decide +kernel
theorem dX0_billedDaysOf_38 : decode cX0_billedDaysOf 38 = .ok (.invokevirtual 43, 3) := by decide +kernel
theorem dX0_billedDaysOf_41 : decode cX0_billedDaysOf 41 = .ok (.ifCond .eq 11, 3) := by decide +kernel
theorem dX0_billedDaysOf_44 : decode cX0_billedDaysOf 44 = .ok (.iload_n 2, 1) := by decide +kernel
theorem dX0_billedDaysOf_45 : decode cX0_billedDaysOf 45 = .ok (.aload 4, 2) := by decide +kernel
theorem dX0_billedDaysOf_47 : decode cX0_billedDaysOf 47 = .ok (.getfield 47, 3) := by decide +kernel
theorem dX0_billedDaysOf_50 : decode cX0_billedDaysOf 50 = .ok (.ior, 1) := by decide +kernel
theorem dX0_billedDaysOf_51 : decode cX0_billedDaysOf 51 = .ok (.istore_n 2, 1) := by decide +kernel
theorem dX0_billedDaysOf_52 : decode cX0_billedDaysOf 52 = .ok (.iinc 3 1, 3) := by decide +kernel
theorem dX0_billedDaysOf_55 : decode cX0_billedDaysOf 55 = .ok (.goto (-51), 3) := by decide +kernel
theorem dX0_billedDaysOf_58 : decode cX0_billedDaysOf 58 = .ok (.iload_n 2, 1) := by decide +kernel
theorem dX0_billedDaysOf_59 : decode cX0_billedDaysOf 59 = .ok (.ireturn, 1) := by decide +kernel
theorem dX0_billableDaysOf_0 : decode cX0_billableDaysOf 0 = .ok (.aload_n 0, 1) := by decide +kernel
theorem dX0_billableDaysOf_1 : decode cX0_billableDaysOf 1 = .ok (.getfield 9, 3) := by decide +kernel
theorem dX0_billableDaysOf_4 : decode cX0_billableDaysOf 4 = .ok (.iload_n 1, 1) := by decide +kernel
theorem dX0_billableDaysOf_5 : decode cX0_billableDaysOf 5 = .ok (.invokevirtual 50, 3) := by decide +kernel
theorem dX0_billableDaysOf_8 : decode cX0_billableDaysOf 8 = .ok (.aload_n 0, 1) := by decide +kernel
theorem dX0_billableDaysOf_9 : decode cX0_billableDaysOf 9 = .ok (.iload_n 1, 1) := by decide +kernel
theorem dX0_billableDaysOf_10 : decode cX0_billableDaysOf 10 = .ok (.invokevirtual 54, 3) := by decide +kernel
theorem dX0_billableDaysOf_13 : decode cX0_billableDaysOf 13 = .ok (.iconst (-1), 1) := by decide +kernel
theorem dX0_billableDaysOf_14 : decode cX0_billableDaysOf 14 = .ok (.ixor, 1) := by decide +kernel
theorem dX0_billableDaysOf_15 : decode cX0_billableDaysOf 15 = .ok (.iand, 1) := by decide +kernel
theorem dX0_billableDaysOf_16 : decode cX0_billableDaysOf 16 = .ok (.aload_n 0, 1) := by decide +kernel
theorem dX0_billableDaysOf_17 : decode cX0_billableDaysOf 17 = .ok (.getfield 9, 3) := by decide +kernel
theorem dX0_billableDaysOf_20 : decode cX0_billableDaysOf 20 = .ok (.getfield 15, 3) := by decide +kernel
theorem dX0_billableDaysOf_23 : decode cX0_billableDaysOf 23 = .ok (.iload_n 1, 1) := by decide +kernel
theorem dX0_billableDaysOf_24 : decode cX0_billableDaysOf 24 = .ok (.aaload, 1) := by decide +kernel
theorem dX0_billableDaysOf_25 : decode cX0_billableDaysOf 25 = .ok (.invokevirtual 57, 3) := by decide +kernel
theorem dX0_billableDaysOf_28 : decode cX0_billableDaysOf 28 = .ok (.iconst (-1), 1) := by decide +kernel
theorem dX0_billableDaysOf_29 : decode cX0_billableDaysOf 29 = .ok (.ixor, 1) := by decide +kernel
theorem dX0_billableDaysOf_30 : decode cX0_billableDaysOf 30 = .ok (.iand, 1) := by decide +kernel
theorem dX0_billableDaysOf_31 : decode cX0_billableDaysOf 31 = .ok (.ireturn, 1) := by decide +kernel
theorem dX0_canBill_0 : decode cX0_canBill 0 = .ok (.aload_n 0, 1) := by decide +kernel
theorem dX0_canBill_1 : decode cX0_canBill 1 = .ok (.getfield 9, 3) := by decide +kernel
theorem dX0_canBill_4 : decode cX0_canBill 4 = .ok (.getfield 15, 3) := by decide +kernel
theorem dX0_canBill_7 : decode cX0_canBill 7 = .ok (.iload_n 1, 1) := by decide +kernel
theorem dX0_canBill_8 : decode cX0_canBill 8 = .ok (.aaload, 1) := by decide +kernel
theorem dX0_canBill_9 : decode cX0_canBill 9 = .ok (.getfield 60, 3) := by decide +kernel
theorem dX0_canBill_12 : decode cX0_canBill 12 = .ok (.ifCond .ne 15, 3) := by decide +kernel
theorem dX0_canBill_15 : decode cX0_canBill 15 = .ok (.aload_n 0, 1) := by decide +kernel
theorem dX0_canBill_16 : decode cX0_canBill 16 = .ok (.getfield 9, 3) := by decide +kernel
theorem dX0_canBill_19 : decode cX0_canBill 19 = .ok (.getfield 36, 3) := by decide +kernel
theorem dX0_canBill_22 : decode cX0_canBill 22 = .ok (.bipush 60, 2) := by decide +kernel
theorem dX0_canBill_24 : decode cX0_canBill 24 = .ok (.if_icmp .lt 5, 3) := by decide +kernel
theorem dX0_canBill_27 : decode cX0_canBill 27 = .ok (.iconst 0, 1) := by decide +kernel
theorem dX0_canBill_28 : decode cX0_canBill 28 = .ok (.ireturn, 1) := by decide +kernel
theorem dX0_canBill_29 : decode cX0_canBill 29 = .ok (.aload_n 0, 1) := by decide +kernel
theorem dX0_canBill_30 : decode cX0_canBill 30 = .ok (.iload_n 1, 1) := by decide +kernel
theorem dX0_canBill_31 : decode cX0_canBill 31 = .ok (.invokevirtual 64, 3) := by decide +kernel
theorem dX0_canBill_34 : decode cX0_canBill 34 = .ok (.bipush 7, 2) := by decide +kernel
theorem dX0_canBill_36 : decode cX0_canBill 36 = .ok (.if_icmp .ne 11, 3) := by decide +kernel
theorem dX0_canBill_39 : decode cX0_canBill 39 = .ok (.aload_n 0, 1) := by decide +kernel
theorem dX0_canBill_40 : decode cX0_canBill 40 = .ok (.iload_n 1, 1) := by decide +kernel
theorem dX0_canBill_41 : decode cX0_canBill 41 = .ok (.invokevirtual 67, 3) := by decide +kernel
theorem dX0_canBill_44 : decode cX0_canBill 44 = .ok (.ifCond .eq 7, 3) := by decide +kernel
theorem dX0_canBill_47 : decode cX0_canBill 47 = .ok (.iconst 1, 1) := by decide +kernel
theorem dX0_canBill_48 : decode cX0_canBill 48 = .ok (.goto 4, 3) := by decide +kernel
theorem dX0_canBill_51 : decode cX0_canBill 51 = .ok (.iconst 0, 1) := by decide +kernel
theorem dX0_canBill_52 : decode cX0_canBill 52 = .ok (.ireturn, 1) := by decide +kernel
theorem dX0_newInvoice_0 : decode cX0_newInvoice 0 = .ok (.aload_n 0, 1) := by decide +kernel
theorem dX0_newInvoice_1 : decode cX0_newInvoice 1 = .ok (.iload_n 1, 1) := by decide +kernel
theorem dX0_newInvoice_2 : decode cX0_newInvoice 2 = .ok (.invokevirtual 67, 3) := by decide +kernel
theorem dX0_newInvoice_5 : decode cX0_newInvoice 5 = .ok (.istore_n 2, 1) := by decide +kernel
theorem dX0_newInvoice_6 : decode cX0_newInvoice 6 = .ok (.aload_n 0, 1) := by decide +kernel
theorem dX0_newInvoice_7 : decode cX0_newInvoice 7 = .ok (.getfield 9, 3) := by decide +kernel
theorem dX0_newInvoice_10 : decode cX0_newInvoice 10 = .ok (.getfield 21, 3) := by decide +kernel
theorem dX0_newInvoice_13 : decode cX0_newInvoice 13 = .ok (.aload_n 0, 1) := by decide +kernel
theorem dX0_newInvoice_14 : decode cX0_newInvoice 14 = .ok (.getfield 9, 3) := by decide +kernel
theorem dX0_newInvoice_17 : decode cX0_newInvoice 17 = .ok (.getfield 36, 3) := by decide +kernel
theorem dX0_newInvoice_20 : decode cX0_newInvoice 20 = .ok (.aaload, 1) := by decide +kernel
theorem dX0_newInvoice_21 : decode cX0_newInvoice 21 = .ok (.astore_n 3, 1) := by decide +kernel
theorem dX0_newInvoice_22 : decode cX0_newInvoice 22 = .ok (.aload_n 3, 1) := by decide +kernel
theorem dX0_newInvoice_23 : decode cX0_newInvoice 23 = .ok (.bipush 7, 2) := by decide +kernel
theorem dX0_newInvoice_25 : decode cX0_newInvoice 25 = .ok (.aload_n 0, 1) := by decide +kernel
theorem dX0_newInvoice_26 : decode cX0_newInvoice 26 = .ok (.iload_n 1, 1) := by decide +kernel
theorem dX0_newInvoice_27 : decode cX0_newInvoice 27 = .ok (.invokevirtual 64, 3) := by decide +kernel
theorem dX0_newInvoice_30 : decode cX0_newInvoice 30 = .ok (.iconst (-1), 1) := by decide +kernel
theorem dX0_newInvoice_31 : decode cX0_newInvoice 31 = .ok (.ixor, 1) := by decide +kernel
theorem dX0_newInvoice_32 : decode cX0_newInvoice 32 = .ok (.iand, 1) := by decide +kernel
theorem dX0_newInvoice_33 : decode cX0_newInvoice 33 = .ok (.iload_n 2, 1) := by decide +kernel
theorem dX0_newInvoice_34 : decode cX0_newInvoice 34 = .ok (.ifCond .eq 8, 3) := by decide +kernel
theorem dX0_newInvoice_37 : decode cX0_newInvoice 37 = .ok (.bipush 8, 2) := by decide +kernel
theorem dX0_newInvoice_39 : decode cX0_newInvoice 39 = .ok (.goto 4, 3) := by decide +kernel
theorem dX0_newInvoice_42 : decode cX0_newInvoice 42 = .ok (.iconst 0, 1) := by decide +kernel
theorem dX0_newInvoice_43 : decode cX0_newInvoice 43 = .ok (.ior, 1) := by decide +kernel
theorem dX0_newInvoice_44 : decode cX0_newInvoice 44 = .ok (.putfield 70, 3) := by decide +kernel
theorem dX0_newInvoice_47 : decode cX0_newInvoice 47 = .ok (.aload_n 3, 1) := by decide +kernel
theorem dX0_newInvoice_48 : decode cX0_newInvoice 48 = .ok (.iload_n 1, 1) := by decide +kernel
theorem dX0_newInvoice_49 : decode cX0_newInvoice 49 = .ok (.putfield 25, 3) := by decide +kernel
theorem dX0_newInvoice_52 : decode cX0_newInvoice 52 = .ok (.aload_n 3, 1) := by decide +kernel
theorem dX0_newInvoice_53 : decode cX0_newInvoice 53 = .ok (.aload_n 0, 1) := by decide +kernel
theorem dX0_newInvoice_54 : decode cX0_newInvoice 54 = .ok (.getfield 9, 3) := by decide +kernel
theorem dX0_newInvoice_57 : decode cX0_newInvoice 57 = .ok (.getfield 73, 3) := by decide +kernel
theorem dX0_newInvoice_60 : decode cX0_newInvoice 60 = .ok (.putfield 76, 3) := by decide +kernel
theorem dX0_newInvoice_63 : decode cX0_newInvoice 63 = .ok (.aload_n 3, 1) := by decide +kernel
theorem dX0_newInvoice_64 : decode cX0_newInvoice 64 = .ok (.aload_n 0, 1) := by decide +kernel
theorem dX0_newInvoice_65 : decode cX0_newInvoice 65 = .ok (.getfield 9, 3) := by decide +kernel
theorem dX0_newInvoice_68 : decode cX0_newInvoice 68 = .ok (.getfield 79, 3) := by decide +kernel
theorem dX0_newInvoice_71 : decode cX0_newInvoice 71 = .ok (.putfield 82, 3) := by decide +kernel
theorem dX0_newInvoice_74 : decode cX0_newInvoice 74 = .ok (.aload_n 3, 1) := by decide +kernel
theorem dX0_newInvoice_75 : decode cX0_newInvoice 75 = .ok (.iconst 0, 1) := by decide +kernel
theorem dX0_newInvoice_76 : decode cX0_newInvoice 76 = .ok (.putfield 83, 3) := by decide +kernel
theorem dX0_newInvoice_79 : decode cX0_newInvoice 79 = .ok (.aload_n 3, 1) := by decide +kernel
theorem dX0_newInvoice_80 : decode cX0_newInvoice 80 = .ok (.iload_n 2, 1) := by decide +kernel
theorem dX0_newInvoice_81 : decode cX0_newInvoice 81 = .ok (.putfield 47, 3) := by decide +kernel
theorem dX0_newInvoice_84 : decode cX0_newInvoice 84 = .ok (.iconst 0, 1) := by decide +kernel
theorem dX0_newInvoice_85 : decode cX0_newInvoice 85 = .ok (.istore 4, 2) := by decide +kernel
theorem dX0_newInvoice_87 : decode cX0_newInvoice 87 = .ok (.iload 4, 2) := by decide +kernel
theorem dX0_newInvoice_89 : decode cX0_newInvoice 89 = .ok (.iconst 4, 1) := by decide +kernel
theorem dX0_newInvoice_90 : decode cX0_newInvoice 90 = .ok (.if_icmp .ge 23, 3) := by decide +kernel
theorem dX0_newInvoice_93 : decode cX0_newInvoice 93 = .ok (.aload_n 3, 1) := by decide +kernel
theorem dX0_newInvoice_94 : decode cX0_newInvoice 94 = .ok (.getfield 86, 3) := by decide +kernel
theorem dX0_newInvoice_97 : decode cX0_newInvoice 97 = .ok (.iload 4, 2) := by decide +kernel
theorem dX0_newInvoice_99 : decode cX0_newInvoice 99 = .ok (.aload_n 0, 1) := by decide +kernel
theorem dX0_newInvoice_100 : decode cX0_newInvoice 100 = .ok (.aload_n 3, 1) := by decide +kernel
theorem dX0_newInvoice_101 : decode cX0_newInvoice 101 = .ok (.iload 4, 2) := by decide +kernel
theorem dX0_newInvoice_103 : decode cX0_newInvoice 103 = .ok (.invokevirtual 90, 3) := by decide +kernel
theorem dX0_newInvoice_106 : decode cX0_newInvoice 106 = .ok (.iastore, 1) := by decide +kernel
theorem dX0_newInvoice_107 : decode cX0_newInvoice 107 = .ok (.iinc 4 1, 3) := by decide +kernel
theorem dX0_newInvoice_110 : decode cX0_newInvoice 110 = .ok (.goto (-23), 3) := by decide +kernel
theorem dX0_newInvoice_113 : decode cX0_newInvoice 113 = .ok (.aload_n 0, 1) := by decide +kernel
theorem dX0_newInvoice_114 : decode cX0_newInvoice 114 = .ok (.getfield 9, 3) := by decide +kernel
theorem dX0_newInvoice_117 : decode cX0_newInvoice 117 = .ok (.dup, 1) := by decide +kernel
theorem dX0_newInvoice_118 : decode cX0_newInvoice 118 = .ok (.getfield 36, 3) := by decide +kernel
theorem dX0_newInvoice_121 : decode cX0_newInvoice 121 = .ok (.dup_x1, 1) := by decide +kernel
theorem dX0_newInvoice_122 : decode cX0_newInvoice 122 = .ok (.iconst 1, 1) := by decide +kernel
theorem dX0_newInvoice_123 : decode cX0_newInvoice 123 = .ok (.iadd, 1) := by decide +kernel
theorem dX0_newInvoice_124 : decode cX0_newInvoice 124 = .ok (.putfield 36, 3) := by decide +kernel
theorem dX0_newInvoice_127 : decode cX0_newInvoice 127 = .ok (.ireturn, 1) := by decide +kernel
theorem dX0_newNote_0 : decode cX0_newNote 0 = .ok (.aload_n 0, 1) := by decide +kernel
theorem dX0_newNote_1 : decode cX0_newNote 1 = .ok (.getfield 9, 3) := by decide +kernel
theorem dX0_newNote_4 : decode cX0_newNote 4 = .ok (.getfield 21, 3) := by decide +kernel
theorem dX0_newNote_7 : decode cX0_newNote 7 = .ok (.iload_n 1, 1) := by decide +kernel
theorem dX0_newNote_8 : decode cX0_newNote 8 = .ok (.aaload, 1) := by decide +kernel
theorem dX0_newNote_9 : decode cX0_newNote 9 = .ok (.astore_n 3, 1) := by decide +kernel
theorem dX0_newNote_10 : decode cX0_newNote 10 = .ok (.aload_n 3, 1) := by decide +kernel
theorem dX0_newNote_11 : decode cX0_newNote 11 = .ok (.dup, 1) := by decide +kernel
theorem dX0_newNote_12 : decode cX0_newNote 12 = .ok (.getfield 83, 3) := by decide +kernel
theorem dX0_newNote_15 : decode cX0_newNote 15 = .ok (.iload_n 2, 1) := by decide +kernel
theorem dX0_newNote_16 : decode cX0_newNote 16 = .ok (.ior, 1) := by decide +kernel
theorem dX0_newNote_17 : decode cX0_newNote 17 = .ok (.putfield 83, 3) := by decide +kernel
theorem dX0_newNote_20 : decode cX0_newNote 20 = .ok (.aload_n 0, 1) := by decide +kernel
theorem dX0_newNote_21 : decode cX0_newNote 21 = .ok (.getfield 9, 3) := by decide +kernel
theorem dX0_newNote_24 : decode cX0_newNote 24 = .ok (.getfield 94, 3) := by decide +kernel
theorem dX0_newNote_27 : decode cX0_newNote 27 = .ok (.aload_n 0, 1) := by decide +kernel
theorem dX0_newNote_28 : decode cX0_newNote 28 = .ok (.getfield 9, 3) := by decide +kernel
theorem dX0_newNote_31 : decode cX0_newNote 31 = .ok (.getfield 98, 3) := by decide +kernel
theorem dX0_newNote_34 : decode cX0_newNote 34 = .ok (.aaload, 1) := by decide +kernel
theorem dX0_newNote_35 : decode cX0_newNote 35 = .ok (.astore 4, 2) := by decide +kernel
theorem dX0_newNote_37 : decode cX0_newNote 37 = .ok (.aload 4, 2) := by decide +kernel
theorem dX0_newNote_39 : decode cX0_newNote 39 = .ok (.iload_n 1, 1) := by decide +kernel
theorem dX0_newNote_40 : decode cX0_newNote 40 = .ok (.putfield 101, 3) := by decide +kernel
theorem dX0_newNote_43 : decode cX0_newNote 43 = .ok (.aload 4, 2) := by decide +kernel
theorem dX0_newNote_45 : decode cX0_newNote 45 = .ok (.iload_n 2, 1) := by decide +kernel
theorem dX0_newNote_46 : decode cX0_newNote 46 = .ok (.putfield 106, 3) := by decide +kernel
theorem dX0_newNote_49 : decode cX0_newNote 49 = .ok (.aload 4, 2) := by decide +kernel
theorem dX0_newNote_51 : decode cX0_newNote 51 = .ok (.aload_n 0, 1) := by decide +kernel
theorem dX0_newNote_52 : decode cX0_newNote 52 = .ok (.getfield 9, 3) := by decide +kernel
theorem dX0_newNote_55 : decode cX0_newNote 55 = .ok (.getfield 73, 3) := by decide +kernel
theorem dX0_newNote_58 : decode cX0_newNote 58 = .ok (.putfield 107, 3) := by decide +kernel
theorem dX0_newNote_61 : decode cX0_newNote 61 = .ok (.aload 4, 2) := by decide +kernel
theorem dX0_newNote_63 : decode cX0_newNote 63 = .ok (.aload_n 3, 1) := by decide +kernel
theorem dX0_newNote_64 : decode cX0_newNote 64 = .ok (.iload_n 2, 1) := by decide +kernel
theorem dX0_newNote_65 : decode cX0_newNote 65 = .ok (.invokevirtual 108, 3) := by decide +kernel
theorem dX0_newNote_68 : decode cX0_newNote 68 = .ok (.ineg, 1) := by decide +kernel
theorem dX0_newNote_69 : decode cX0_newNote 69 = .ok (.putfield 111, 3) := by decide +kernel
theorem dX0_newNote_72 : decode cX0_newNote 72 = .ok (.aload_n 0, 1) := by decide +kernel
theorem dX0_newNote_73 : decode cX0_newNote 73 = .ok (.getfield 9, 3) := by decide +kernel
theorem dX0_newNote_76 : decode cX0_newNote 76 = .ok (.dup, 1) := by decide +kernel
theorem dX0_newNote_77 : decode cX0_newNote 77 = .ok (.getfield 98, 3) := by decide +kernel
theorem dX0_newNote_80 : decode cX0_newNote 80 = .ok (.dup_x1, 1) := by decide +kernel
theorem dX0_newNote_81 : decode cX0_newNote 81 = .ok (.iconst 1, 1) := by decide +kernel
theorem dX0_newNote_82 : decode cX0_newNote 82 = .ok (.iadd, 1) := by decide +kernel
theorem dX0_newNote_83 : decode cX0_newNote 83 = .ok (.putfield 98, 3) := by decide +kernel
theorem dX0_newNote_86 : decode cX0_newNote 86 = .ok (.ireturn, 1) := by decide +kernel
theorem dX0_rebuiltLine_0 : decode cX0_rebuiltLine 0 = .ok (.aload_n 1, 1) := by decide +kernel
theorem dX0_rebuiltLine_1 : decode cX0_rebuiltLine 1 = .ok (.iload_n 2, 1) := by decide +kernel
theorem dX0_rebuiltLine_2 : decode cX0_rebuiltLine 2 = .ok (.invokevirtual 43, 3) := by decide +kernel
theorem dX0_rebuiltLine_5 : decode cX0_rebuiltLine 5 = .ok (.ifCond .ne 5, 3) := by decide +kernel
theorem dX0_rebuiltLine_8 : decode cX0_rebuiltLine 8 = .ok (.iconst 0, 1) := by decide +kernel
theorem dX0_rebuiltLine_9 : decode cX0_rebuiltLine 9 = .ok (.ireturn, 1) := by decide +kernel
theorem dX0_rebuiltLine_10 : decode cX0_rebuiltLine 10 = .ok (.aload_n 0, 1) := by decide +kernel
theorem dX0_rebuiltLine_11 : decode cX0_rebuiltLine 11 = .ok (.getfield 9, 3) := by decide +kernel
theorem dX0_rebuiltLine_14 : decode cX0_rebuiltLine 14 = .ok (.getfield 114, 3) := by decide +kernel
theorem dX0_rebuiltLine_17 : decode cX0_rebuiltLine 17 = .ok (.aload_n 1, 1) := by decide +kernel
theorem dX0_rebuiltLine_18 : decode cX0_rebuiltLine 18 = .ok (.getfield 82, 3) := by decide +kernel
theorem dX0_rebuiltLine_21 : decode cX0_rebuiltLine 21 = .ok (.aaload, 1) := by decide +kernel
theorem dX0_rebuiltLine_22 : decode cX0_rebuiltLine 22 = .ok (.astore_n 3, 1) := by decide +kernel
theorem dX0_rebuiltLine_23 : decode cX0_rebuiltLine 23 = .ok (.iload_n 2, 1) := by decide +kernel
theorem dX0_rebuiltLine_24 : decode cX0_rebuiltLine 24 = .ok (.iconst 3, 1) := by decide +kernel
theorem dX0_rebuiltLine_25 : decode cX0_rebuiltLine 25 = .ok (.if_icmp .ne 38, 3) := by decide +kernel
theorem dX0_rebuiltLine_28 : decode cX0_rebuiltLine 28 = .ok (.aload_n 1, 1) := by decide +kernel
theorem dX0_rebuiltLine_29 : decode cX0_rebuiltLine 29 = .ok (.getfield 47, 3) := by decide +kernel
theorem dX0_rebuiltLine_32 : decode cX0_rebuiltLine 32 = .ok (.aload_n 0, 1) := by decide +kernel
theorem dX0_rebuiltLine_33 : decode cX0_rebuiltLine 33 = .ok (.getfield 9, 3) := by decide +kernel
theorem dX0_rebuiltLine_36 : decode cX0_rebuiltLine 36 = .ok (.getfield 15, 3) := by decide +kernel
theorem dX0_rebuiltLine_39 : decode cX0_rebuiltLine 39 = .ok (.aload_n 1, 1) := by decide +kernel
theorem dX0_rebuiltLine_40 : decode cX0_rebuiltLine 40 = .ok (.getfield 25, 3) := by decide +kernel
theorem dX0_rebuiltLine_43 : decode cX0_rebuiltLine 43 = .ok (.aaload, 1) := by decide +kernel
theorem dX0_rebuiltLine_44 : decode cX0_rebuiltLine 44 = .ok (.invokevirtual 57, 3) := by decide +kernel
theorem dX0_rebuiltLine_47 : decode cX0_rebuiltLine 47 = .ok (.iconst (-1), 1) := by decide +kernel
theorem dX0_rebuiltLine_48 : decode cX0_rebuiltLine 48 = .ok (.ixor, 1) := by decide +kernel
theorem dX0_rebuiltLine_49 : decode cX0_rebuiltLine 49 = .ok (.iand, 1) := by decide +kernel
theorem dX0_rebuiltLine_50 : decode cX0_rebuiltLine 50 = .ok (.istore 4, 2) := by decide +kernel
theorem dX0_rebuiltLine_52 : decode cX0_rebuiltLine 52 = .ok (.aload_n 3, 1) := by decide +kernel
theorem dX0_rebuiltLine_53 : decode cX0_rebuiltLine 53 = .ok (.getfield 118, 3) := by decide +kernel
theorem dX0_rebuiltLine_56 : decode cX0_rebuiltLine 56 = .ok (.iload 4, 2) := by decide +kernel
theorem dX0_rebuiltLine_58 : decode cX0_rebuiltLine 58 = .ok (.invokestatic 123, 3) := by decide +kernel
theorem dX0_rebuiltLine_61 : decode cX0_rebuiltLine 61 = .ok (.imul, 1) := by decide +kernel
theorem dX0_rebuiltLine_62 : decode cX0_rebuiltLine 62 = .ok (.ireturn, 1) := by decide +kernel
theorem dX0_rebuiltLine_63 : decode cX0_rebuiltLine 63 = .ok (.aload_n 0, 1) := by decide +kernel
theorem dX0_rebuiltLine_64 : decode cX0_rebuiltLine 64 = .ok (.getfield 9, 3) := by decide +kernel
theorem dX0_rebuiltLine_67 : decode cX0_rebuiltLine 67 = .ok (.aload_n 1, 1) := by decide +kernel
theorem dX0_rebuiltLine_68 : decode cX0_rebuiltLine 68 = .ok (.getfield 25, 3) := by decide +kernel
theorem dX0_rebuiltLine_71 : decode cX0_rebuiltLine 71 = .ok (.iload_n 2, 1) := by decide +kernel
theorem dX0_rebuiltLine_72 : decode cX0_rebuiltLine 72 = .ok (.aload_n 3, 1) := by decide +kernel
theorem dX0_rebuiltLine_73 : decode cX0_rebuiltLine 73 = .ok (.aload_n 0, 1) := by decide +kernel
theorem dX0_rebuiltLine_74 : decode cX0_rebuiltLine 74 = .ok (.getfield 9, 3) := by decide +kernel
theorem dX0_rebuiltLine_77 : decode cX0_rebuiltLine 77 = .ok (.aload_n 1, 1) := by decide +kernel
theorem dX0_rebuiltLine_78 : decode cX0_rebuiltLine 78 = .ok (.getfield 25, 3) := by decide +kernel
theorem dX0_rebuiltLine_81 : decode cX0_rebuiltLine 81 = .ok (.invokevirtual 128, 3) := by decide +kernel
theorem dX0_rebuiltLine_84 : decode cX0_rebuiltLine 84 = .ok (.invokevirtual 131, 3) := by decide +kernel
theorem dX0_rebuiltLine_87 : decode cX0_rebuiltLine 87 = .ok (.ireturn, 1) := by decide +kernel
theorem dX0_differsFromRebuilt_0 : decode cX0_differsFromRebuilt 0 = .ok (.aload_n 0, 1) := by decide +kernel
theorem dX0_differsFromRebuilt_1 : decode cX0_differsFromRebuilt 1 = .ok (.getfield 9, 3) := by decide +kernel
theorem dX0_differsFromRebuilt_4 : decode cX0_differsFromRebuilt 4 = .ok (.getfield 21, 3) := by decide +kernel
theorem dX0_differsFromRebuilt_7 : decode cX0_differsFromRebuilt 7 = .ok (.iload_n 1, 1) := by decide +kernel
theorem dX0_differsFromRebuilt_8 : decode cX0_differsFromRebuilt 8 = .ok (.aaload, 1) := by decide +kernel
theorem dX0_differsFromRebuilt_9 : decode cX0_differsFromRebuilt 9 = .ok (.astore_n 2, 1) := by decide +kernel
theorem dX0_differsFromRebuilt_10 : decode cX0_differsFromRebuilt 10 = .ok (.iconst 0, 1) := by decide +kernel
theorem dX0_differsFromRebuilt_11 : decode cX0_differsFromRebuilt 11 = .ok (.istore_n 3, 1) := by decide +kernel
theorem dX0_differsFromRebuilt_12 : decode cX0_differsFromRebuilt 12 = .ok (.iload_n 3, 1) := by decide +kernel
theorem dX0_differsFromRebuilt_13 : decode cX0_differsFromRebuilt 13 = .ok (.iconst 4, 1) := by decide +kernel
theorem dX0_differsFromRebuilt_14 : decode cX0_differsFromRebuilt 14 = .ok (.if_icmp .ge 34, 3) := by decide +kernel
theorem dX0_differsFromRebuilt_17 : decode cX0_differsFromRebuilt 17 = .ok (.aload_n 2, 1) := by decide +kernel
theorem dX0_differsFromRebuilt_18 : decode cX0_differsFromRebuilt 18 = .ok (.iload_n 3, 1) := by decide +kernel
theorem dX0_differsFromRebuilt_19 : decode cX0_differsFromRebuilt 19 = .ok (.invokevirtual 43, 3) := by decide +kernel
theorem dX0_differsFromRebuilt_22 : decode cX0_differsFromRebuilt 22 = .ok (.ifCond .eq 20, 3) := by decide +kernel
theorem dX0_differsFromRebuilt_25 : decode cX0_differsFromRebuilt 25 = .ok (.aload_n 2, 1) := by decide +kernel
theorem dX0_differsFromRebuilt_26 : decode cX0_differsFromRebuilt 26 = .ok (.getfield 86, 3) := by decide +kernel
theorem dX0_differsFromRebuilt_29 : decode cX0_differsFromRebuilt 29 = .ok (.iload_n 3, 1) := by decide +kernel
theorem dX0_differsFromRebuilt_30 : decode cX0_differsFromRebuilt 30 = .ok (.iaload, 1) := by decide +kernel
theorem dX0_differsFromRebuilt_31 : decode cX0_differsFromRebuilt 31 = .ok (.aload_n 0, 1) := by decide +kernel
theorem dX0_differsFromRebuilt_32 : decode cX0_differsFromRebuilt 32 = .ok (.aload_n 2, 1) := by decide +kernel
theorem dX0_differsFromRebuilt_33 : decode cX0_differsFromRebuilt 33 = .ok (.iload_n 3, 1) := by decide +kernel
theorem dX0_differsFromRebuilt_34 : decode cX0_differsFromRebuilt 34 = .ok (.invokevirtual 90, 3) := by decide +kernel
theorem dX0_differsFromRebuilt_37 : decode cX0_differsFromRebuilt 37 = .ok (.if_icmp .eq 5, 3) := by decide +kernel
theorem dX0_differsFromRebuilt_40 : decode cX0_differsFromRebuilt 40 = .ok (.iconst 1, 1) := by decide +kernel
theorem dX0_differsFromRebuilt_41 : decode cX0_differsFromRebuilt 41 = .ok (.ireturn, 1) := by decide +kernel
theorem dX0_differsFromRebuilt_42 : decode cX0_differsFromRebuilt 42 = .ok (.iinc 3 1, 3) := by decide +kernel
theorem dX0_differsFromRebuilt_45 : decode cX0_differsFromRebuilt 45 = .ok (.goto (-33), 3) := by decide +kernel
theorem dX0_differsFromRebuilt_48 : decode cX0_differsFromRebuilt 48 = .ok (.iconst 0, 1) := by decide +kernel
theorem dX0_differsFromRebuilt_49 : decode cX0_differsFromRebuilt 49 = .ok (.ireturn, 1) := by decide +kernel
theorem dX0_balanceOf_0 : decode cX0_balanceOf 0 = .ok (.aload_n 0, 1) := by decide +kernel
theorem dX0_balanceOf_1 : decode cX0_balanceOf 1 = .ok (.getfield 9, 3) := by decide +kernel
theorem dX0_balanceOf_4 : decode cX0_balanceOf 4 = .ok (.getfield 135, 3) := by decide +kernel
theorem dX0_balanceOf_7 : decode cX0_balanceOf 7 = .ok (.iload_n 1, 1) := by decide +kernel
theorem dX0_balanceOf_8 : decode cX0_balanceOf 8 = .ok (.aaload, 1) := by decide +kernel
theorem dX0_balanceOf_9 : decode cX0_balanceOf 9 = .ok (.getfield 139, 3) := by decide +kernel
theorem dX0_balanceOf_12 : decode cX0_balanceOf 12 = .ok (.lneg, 1) := by decide +kernel
theorem dX0_balanceOf_13 : decode cX0_balanceOf 13 = .ok (.lstore_n 2, 1) := by decide +kernel
theorem dX0_balanceOf_14 : decode cX0_balanceOf 14 = .ok (.iconst 0, 1) := by decide +kernel
theorem dX0_balanceOf_15 : decode cX0_balanceOf 15 = .ok (.istore 4, 2) := by decide +kernel
theorem dX0_balanceOf_17 : decode cX0_balanceOf 17 = .ok (.iload 4, 2) := by decide +kernel
theorem dX0_balanceOf_19 : decode cX0_balanceOf 19 = .ok (.aload_n 0, 1) := by decide +kernel
theorem dX0_balanceOf_20 : decode cX0_balanceOf 20 = .ok (.getfield 9, 3) := by decide +kernel
theorem dX0_balanceOf_23 : decode cX0_balanceOf 23 = .ok (.getfield 36, 3) := by decide +kernel
theorem dX0_balanceOf_26 : decode cX0_balanceOf 26 = .ok (.if_icmp .ge 36, 3) := by decide +kernel
theorem dX0_balanceOf_29 : decode cX0_balanceOf 29 = .ok (.aload_n 0, 1) := by decide +kernel
theorem dX0_balanceOf_30 : decode cX0_balanceOf 30 = .ok (.iload 4, 2) := by decide +kernel
theorem dX0_balanceOf_32 : decode cX0_balanceOf 32 = .ok (.invokevirtual 145, 3) := by decide +kernel
theorem dX0_balanceOf_35 : decode cX0_balanceOf 35 = .ok (.iload_n 1, 1) := by decide +kernel
theorem dX0_balanceOf_36 : decode cX0_balanceOf 36 = .ok (.if_icmp .ne 20, 3) := by decide +kernel
theorem dX0_balanceOf_39 : decode cX0_balanceOf 39 = .ok (.lload_n 2, 1) := by decide +kernel
theorem dX0_balanceOf_40 : decode cX0_balanceOf 40 = .ok (.aload_n 0, 1) := by decide +kernel
theorem dX0_balanceOf_41 : decode cX0_balanceOf 41 = .ok (.getfield 9, 3) := by decide +kernel
theorem dX0_balanceOf_44 : decode cX0_balanceOf 44 = .ok (.getfield 21, 3) := by decide +kernel
theorem dX0_balanceOf_47 : decode cX0_balanceOf 47 = .ok (.iload 4, 2) := by decide +kernel
theorem dX0_balanceOf_49 : decode cX0_balanceOf 49 = .ok (.aaload, 1) := by decide +kernel
theorem dX0_balanceOf_50 : decode cX0_balanceOf 50 = .ok (.invokevirtual 148, 3) := by decide +kernel
theorem dX0_balanceOf_53 : decode cX0_balanceOf 53 = .ok (.i2l, 1) := by decide +kernel
theorem dX0_balanceOf_54 : decode cX0_balanceOf 54 = .ok (.ladd, 1) := by decide +kernel
theorem dX0_balanceOf_55 : decode cX0_balanceOf 55 = .ok (.lstore_n 2, 1) := by decide +kernel
theorem dX0_balanceOf_56 : decode cX0_balanceOf 56 = .ok (.iinc 4 1, 3) := by decide +kernel
theorem dX0_balanceOf_59 : decode cX0_balanceOf 59 = .ok (.goto (-42), 3) := by decide +kernel
theorem dX0_balanceOf_62 : decode cX0_balanceOf 62 = .ok (.lload_n 2, 1) := by decide +kernel
theorem dX0_balanceOf_63 : decode cX0_balanceOf 63 = .ok (.lreturn, 1) := by decide +kernel
theorem dX0_openAmount_0 : decode cX0_openAmount 0 = .ok (.aload_n 0, 1) := by decide +kernel
theorem dX0_openAmount_1 : decode cX0_openAmount 1 = .ok (.getfield 9, 3) := by decide +kernel
theorem dX0_openAmount_4 : decode cX0_openAmount 4 = .ok (.getfield 21, 3) := by decide +kernel
theorem dX0_openAmount_7 : decode cX0_openAmount 7 = .ok (.iload_n 1, 1) := by decide +kernel
theorem dX0_openAmount_8 : decode cX0_openAmount 8 = .ok (.aaload, 1) := by decide +kernel
theorem dX0_openAmount_9 : decode cX0_openAmount 9 = .ok (.invokevirtual 148, 3) := by decide +kernel
theorem dX0_openAmount_12 : decode cX0_openAmount 12 = .ok (.istore_n 2, 1) := by decide +kernel
theorem dX0_openAmount_13 : decode cX0_openAmount 13 = .ok (.iload_n 2, 1) := by decide +kernel
theorem dX0_openAmount_14 : decode cX0_openAmount 14 = .ok (.ifCond .gt 5, 3) := by decide +kernel
theorem dX0_openAmount_17 : decode cX0_openAmount 17 = .ok (.iconst 0, 1) := by decide +kernel
theorem dX0_openAmount_18 : decode cX0_openAmount 18 = .ok (.ireturn, 1) := by decide +kernel
theorem dX0_openAmount_19 : decode cX0_openAmount 19 = .ok (.aload_n 0, 1) := by decide +kernel
theorem dX0_openAmount_20 : decode cX0_openAmount 20 = .ok (.aload_n 0, 1) := by decide +kernel
theorem dX0_openAmount_21 : decode cX0_openAmount 21 = .ok (.iload_n 1, 1) := by decide +kernel
theorem dX0_openAmount_22 : decode cX0_openAmount 22 = .ok (.invokevirtual 145, 3) := by decide +kernel
theorem dX0_openAmount_25 : decode cX0_openAmount 25 = .ok (.invokevirtual 151, 3) := by decide +kernel
theorem dX0_openAmount_28 : decode cX0_openAmount 28 = .ok (.aload_n 0, 1) := by decide +kernel
theorem dX0_openAmount_29 : decode cX0_openAmount 29 = .ok (.iload_n 1, 1) := by decide +kernel
theorem dX0_openAmount_30 : decode cX0_openAmount 30 = .ok (.invokevirtual 155, 3) := by decide +kernel
theorem dX0_openAmount_33 : decode cX0_openAmount 33 = .ok (.lsub, 1) := by decide +kernel
theorem dX0_openAmount_34 : decode cX0_openAmount 34 = .ok (.lstore_n 3, 1) := by decide +kernel
theorem dX0_openAmount_35 : decode cX0_openAmount 35 = .ok (.iload_n 2, 1) := by decide +kernel
theorem dX0_openAmount_36 : decode cX0_openAmount 36 = .ok (.i2l, 1) := by decide +kernel
theorem dX0_openAmount_37 : decode cX0_openAmount 37 = .ok (.lload_n 3, 1) := by decide +kernel
theorem dX0_openAmount_38 : decode cX0_openAmount 38 = .ok (.lconst 0, 1) := by decide +kernel
theorem dX0_openAmount_39 : decode cX0_openAmount 39 = .ok (.invokestatic 158, 3) := by decide +kernel
theorem dX0_openAmount_42 : decode cX0_openAmount 42 = .ok (.lsub, 1) := by decide +kernel
theorem dX0_openAmount_43 : decode cX0_openAmount 43 = .ok (.lconst 0, 1) := by decide +kernel
theorem dX0_openAmount_44 : decode cX0_openAmount 44 = .ok (.invokestatic 158, 3) := by decide +kernel
theorem dX0_openAmount_47 : decode cX0_openAmount 47 = .ok (.l2i, 1) := by decide +kernel
theorem dX0_openAmount_48 : decode cX0_openAmount 48 = .ok (.ireturn, 1) := by decide +kernel
theorem dX0_fundsOf_0 : decode cX0_fundsOf 0 = .ok (.aload_n 0, 1) := by decide +kernel
theorem dX0_fundsOf_1 : decode cX0_fundsOf 1 = .ok (.getfield 9, 3) := by decide +kernel
theorem dX0_fundsOf_4 : decode cX0_fundsOf 4 = .ok (.getfield 135, 3) := by decide +kernel
theorem dX0_fundsOf_7 : decode cX0_fundsOf 7 = .ok (.iload_n 1, 1) := by decide +kernel
theorem dX0_fundsOf_8 : decode cX0_fundsOf 8 = .ok (.aaload, 1) := by decide +kernel
theorem dX0_fundsOf_9 : decode cX0_fundsOf 9 = .ok (.getfield 139, 3) := by decide +kernel
theorem dX0_fundsOf_12 : decode cX0_fundsOf 12 = .ok (.lstore_n 2, 1) := by decide +kernel
theorem dX0_fundsOf_13 : decode cX0_fundsOf 13 = .ok (.iconst 0, 1) := by decide +kernel
theorem dX0_fundsOf_14 : decode cX0_fundsOf 14 = .ok (.istore 4, 2) := by decide +kernel
theorem dX0_fundsOf_16 : decode cX0_fundsOf 16 = .ok (.iload 4, 2) := by decide +kernel
theorem dX0_fundsOf_18 : decode cX0_fundsOf 18 = .ok (.aload_n 0, 1) := by decide +kernel
theorem dX0_fundsOf_19 : decode cX0_fundsOf 19 = .ok (.getfield 9, 3) := by decide +kernel
theorem dX0_fundsOf_22 : decode cX0_fundsOf 22 = .ok (.getfield 36, 3) := by decide +kernel
theorem dX0_fundsOf_25 : decode cX0_fundsOf 25 = .ok (.if_icmp .ge 41, 3) := by decide +kernel
theorem dX0_fundsOf_28 : decode cX0_fundsOf 28 = .ok (.aload_n 0, 1) := by decide +kernel
theorem dX0_fundsOf_29 : decode cX0_fundsOf 29 = .ok (.iload 4, 2) := by decide +kernel
theorem dX0_fundsOf_31 : decode cX0_fundsOf 31 = .ok (.invokevirtual 145, 3) := by decide +kernel
theorem dX0_fundsOf_34 : decode cX0_fundsOf 34 = .ok (.iload_n 1, 1) := by decide +kernel
theorem dX0_fundsOf_35 : decode cX0_fundsOf 35 = .ok (.if_icmp .ne 25, 3) := by decide +kernel
theorem dX0_fundsOf_38 : decode cX0_fundsOf 38 = .ok (.lload_n 2, 1) := by decide +kernel
theorem dX0_fundsOf_39 : decode cX0_fundsOf 39 = .ok (.aload_n 0, 1) := by decide +kernel
theorem dX0_fundsOf_40 : decode cX0_fundsOf 40 = .ok (.getfield 9, 3) := by decide +kernel
theorem dX0_fundsOf_43 : decode cX0_fundsOf 43 = .ok (.getfield 21, 3) := by decide +kernel
theorem dX0_fundsOf_46 : decode cX0_fundsOf 46 = .ok (.iload 4, 2) := by decide +kernel
theorem dX0_fundsOf_48 : decode cX0_fundsOf 48 = .ok (.aaload, 1) := by decide +kernel
theorem dX0_fundsOf_49 : decode cX0_fundsOf 49 = .ok (.invokevirtual 148, 3) := by decide +kernel
theorem dX0_fundsOf_52 : decode cX0_fundsOf 52 = .ok (.ineg, 1) := by decide +kernel
theorem dX0_fundsOf_53 : decode cX0_fundsOf 53 = .ok (.iconst 0, 1) := by decide +kernel
theorem dX0_fundsOf_54 : decode cX0_fundsOf 54 = .ok (.invokestatic 164, 3) := by decide +kernel
theorem dX0_fundsOf_57 : decode cX0_fundsOf 57 = .ok (.i2l, 1) := by decide +kernel
theorem dX0_fundsOf_58 : decode cX0_fundsOf 58 = .ok (.ladd, 1) := by decide +kernel
theorem dX0_fundsOf_59 : decode cX0_fundsOf 59 = .ok (.lstore_n 2, 1) := by decide +kernel
theorem dX0_fundsOf_60 : decode cX0_fundsOf 60 = .ok (.iinc 4 1, 3) := by decide +kernel
theorem dX0_fundsOf_63 : decode cX0_fundsOf 63 = .ok (.goto (-47), 3) := by decide +kernel
theorem dX0_fundsOf_66 : decode cX0_fundsOf 66 = .ok (.lload_n 2, 1) := by decide +kernel
theorem dX0_fundsOf_67 : decode cX0_fundsOf 67 = .ok (.lreturn, 1) := by decide +kernel
theorem dX0_claimsBefore_0 : decode cX0_claimsBefore 0 = .ok (.lconst 0, 1) := by decide +kernel
theorem dX0_claimsBefore_1 : decode cX0_claimsBefore 1 = .ok (.lstore_n 2, 1) := by decide +kernel
theorem dX0_claimsBefore_2 : decode cX0_claimsBefore 2 = .ok (.iconst 0, 1) := by decide +kernel
theorem dX0_claimsBefore_3 : decode cX0_claimsBefore 3 = .ok (.istore 4, 2) := by decide +kernel
theorem dX0_claimsBefore_5 : decode cX0_claimsBefore 5 = .ok (.iload 4, 2) := by decide +kernel
theorem dX0_claimsBefore_7 : decode cX0_claimsBefore 7 = .ok (.iload_n 1, 1) := by decide +kernel
theorem dX0_claimsBefore_8 : decode cX0_claimsBefore 8 = .ok (.if_icmp .ge 44, 3) := by decide +kernel
theorem dX0_claimsBefore_11 : decode cX0_claimsBefore 11 = .ok (.aload_n 0, 1) := by decide +kernel
theorem dX0_claimsBefore_12 : decode cX0_claimsBefore 12 = .ok (.iload 4, 2) := by decide +kernel
theorem dX0_claimsBefore_14 : decode cX0_claimsBefore 14 = .ok (.invokevirtual 145, 3) := by decide +kernel
theorem dX0_claimsBefore_17 : decode cX0_claimsBefore 17 = .ok (.aload_n 0, 1) := by decide +kernel
theorem dX0_claimsBefore_18 : decode cX0_claimsBefore 18 = .ok (.iload_n 1, 1) := by decide +kernel
theorem dX0_claimsBefore_19 : decode cX0_claimsBefore 19 = .ok (.invokevirtual 145, 3) := by decide +kernel
theorem dX0_claimsBefore_22 : decode cX0_claimsBefore 22 = .ok (.if_icmp .ne 24, 3) := by decide +kernel
theorem dX0_claimsBefore_25 : decode cX0_claimsBefore 25 = .ok (.lload_n 2, 1) := by decide +kernel
theorem dX0_claimsBefore_26 : decode cX0_claimsBefore 26 = .ok (.aload_n 0, 1) := by decide +kernel
theorem dX0_claimsBefore_27 : decode cX0_claimsBefore 27 = .ok (.getfield 9, 3) := by decide +kernel
theorem dX0_claimsBefore_30 : decode cX0_claimsBefore 30 = .ok (.getfield 21, 3) := by decide +kernel
theorem dX0_claimsBefore_33 : decode cX0_claimsBefore 33 = .ok (.iload 4, 2) := by decide +kernel
theorem dX0_claimsBefore_35 : decode cX0_claimsBefore 35 = .ok (.aaload, 1) := by decide +kernel
theorem dX0_claimsBefore_36 : decode cX0_claimsBefore 36 = .ok (.invokevirtual 148, 3) := by decide +kernel
theorem dX0_claimsBefore_39 : decode cX0_claimsBefore 39 = .ok (.iconst 0, 1) := by decide +kernel
theorem dX0_claimsBefore_40 : decode cX0_claimsBefore 40 = .ok (.invokestatic 164, 3) := by decide +kernel
theorem dX0_claimsBefore_43 : decode cX0_claimsBefore 43 = .ok (.i2l, 1) := by decide +kernel
theorem dX0_claimsBefore_44 : decode cX0_claimsBefore 44 = .ok (.ladd, 1) := by decide +kernel
theorem dX0_claimsBefore_45 : decode cX0_claimsBefore 45 = .ok (.lstore_n 2, 1) := by decide +kernel
theorem dX0_claimsBefore_46 : decode cX0_claimsBefore 46 = .ok (.iinc 4 1, 3) := by decide +kernel
theorem dX0_claimsBefore_49 : decode cX0_claimsBefore 49 = .ok (.goto (-44), 3) := by decide +kernel
theorem dX0_claimsBefore_52 : decode cX0_claimsBefore 52 = .ok (.lload_n 2, 1) := by decide +kernel
theorem dX0_claimsBefore_53 : decode cX0_claimsBefore 53 = .ok (.lreturn, 1) := by decide +kernel
theorem dX1_init_0 : decode cX1_init 0 = .ok (.aload_n 0, 1) := by decide +kernel
theorem dX1_init_1 : decode cX1_init 1 = .ok (.invokespecial 1, 3) := by decide +kernel
theorem dX1_init_4 : decode cX1_init 4 = .ok (.aload_n 0, 1) := by decide +kernel
theorem dX1_init_5 : decode cX1_init 5 = .ok (.bipush 19, 2) := by decide +kernel
theorem dX1_init_7 : decode cX1_init 7 = .ok (.newarray .byte, 2) := by decide +kernel
theorem dX1_init_9 : decode cX1_init 9 = .ok (.putfield 9, 3) := by decide +kernel
theorem dX1_init_12 : decode cX1_init 12 = .ok (.aload_n 0, 1) := by decide +kernel
theorem dX1_init_13 : decode cX1_init 13 = .ok (.iload_n 1, 1) := by decide +kernel
theorem dX1_init_14 : decode cX1_init 14 = .ok (.iconst 0, 1) := by decide +kernel
theorem dX1_init_15 : decode cX1_init 15 = .ok (.invokestatic 13, 3) := by decide +kernel
theorem dX1_init_18 : decode cX1_init 18 = .ok (.newarray .byte, 2) := by decide +kernel
theorem dX1_init_20 : decode cX1_init 20 = .ok (.putfield 19, 3) := by decide +kernel
theorem dX1_init_23 : decode cX1_init 23 = .ok (.return_, 1) := by decide +kernel
theorem dX1_byteAt_0 : decode cX1_byteAt 0 = .ok (.iload_n 1, 1) := by decide +kernel
theorem dX1_byteAt_1 : decode cX1_byteAt 1 = .ok (.ifCond .lt 20, 3) := by decide +kernel
theorem dX1_byteAt_4 : decode cX1_byteAt 4 = .ok (.iload_n 1, 1) := by decide +kernel
theorem dX1_byteAt_5 : decode cX1_byteAt 5 = .ok (.aload_n 0, 1) := by decide +kernel
theorem dX1_byteAt_6 : decode cX1_byteAt 6 = .ok (.getfield 22, 3) := by decide +kernel
theorem dX1_byteAt_9 : decode cX1_byteAt 9 = .ok (.if_icmp .ge 12, 3) := by decide +kernel
theorem dX1_byteAt_12 : decode cX1_byteAt 12 = .ok (.aload_n 0, 1) := by decide +kernel
theorem dX1_byteAt_13 : decode cX1_byteAt 13 = .ok (.getfield 19, 3) := by decide +kernel
theorem dX1_byteAt_16 : decode cX1_byteAt 16 = .ok (.iload_n 1, 1) := by decide +kernel
theorem dX1_byteAt_17 : decode cX1_byteAt 17 = .ok (.baload, 1) := by decide +kernel
theorem dX1_byteAt_18 : decode cX1_byteAt 18 = .ok (.goto 4, 3) := by decide +kernel
theorem dX1_byteAt_21 : decode cX1_byteAt 21 = .ok (.iconst 0, 1) := by decide +kernel
theorem dX1_byteAt_22 : decode cX1_byteAt 22 = .ok (.ireturn, 1) := by decide +kernel
theorem dX1_isAt_0 : decode cX1_isAt 0 = .ok (.iload_n 1, 1) := by decide +kernel
theorem dX1_isAt_1 : decode cX1_isAt 1 = .ok (.ifCond .lt 21, 3) := by decide +kernel
theorem dX1_isAt_4 : decode cX1_isAt 4 = .ok (.iload_n 2, 1) := by decide +kernel
theorem dX1_isAt_5 : decode cX1_isAt 5 = .ok (.aload_n 0, 1) := by decide +kernel
theorem dX1_isAt_6 : decode cX1_isAt 6 = .ok (.getfield 22, 3) := by decide +kernel
theorem dX1_isAt_9 : decode cX1_isAt 9 = .ok (.if_icmp .gt 13, 3) := by decide +kernel
theorem dX1_isAt_12 : decode cX1_isAt 12 = .ok (.iload_n 2, 1) := by decide +kernel
theorem dX1_isAt_13 : decode cX1_isAt 13 = .ok (.iload_n 1, 1) := by decide +kernel
theorem dX1_isAt_14 : decode cX1_isAt 14 = .ok (.isub, 1) := by decide +kernel
theorem dX1_isAt_15 : decode cX1_isAt 15 = .ok (.aload_n 3, 1) := by decide +kernel
theorem dX1_isAt_16 : decode cX1_isAt 16 = .ok (.invokevirtual 26, 3) := by decide +kernel
theorem dX1_isAt_19 : decode cX1_isAt 19 = .ok (.if_icmp .eq 5, 3) := by decide +kernel
theorem dX1_isAt_22 : decode cX1_isAt 22 = .ok (.iconst 0, 1) := by decide +kernel
theorem dX1_isAt_23 : decode cX1_isAt 23 = .ok (.ireturn, 1) := by decide +kernel
theorem dX1_isAt_24 : decode cX1_isAt 24 = .ok (.iconst 0, 1) := by decide +kernel
theorem dX1_isAt_25 : decode cX1_isAt 25 = .ok (.istore 4, 2) := by decide +kernel
theorem dX1_isAt_27 : decode cX1_isAt 27 = .ok (.iload 4, 2) := by decide +kernel
theorem dX1_isAt_29 : decode cX1_isAt 29 = .ok (.aload_n 3, 1) := by decide +kernel
theorem dX1_isAt_30 : decode cX1_isAt 30 = .ok (.invokevirtual 26, 3) := by decide +kernel
theorem dX1_isAt_33 : decode cX1_isAt 33 = .ok (.if_icmp .ge 29, 3) := by decide +kernel
theorem dX1_isAt_36 : decode cX1_isAt 36 = .ok (.aload_n 0, 1) := by decide +kernel
theorem dX1_isAt_37 : decode cX1_isAt 37 = .ok (.getfield 19, 3) := by decide +kernel
theorem dX1_isAt_40 : decode cX1_isAt 40 = .ok (.iload_n 1, 1) := by decide +kernel
theorem dX1_isAt_41 : decode cX1_isAt 41 = .ok (.iload 4, 2) := by decide +kernel
theorem dX1_isAt_43 : decode cX1_isAt 43 = .ok (.iadd, 1) := by decide +kernel
theorem dX1_isAt_44 : decode cX1_isAt 44 = .ok (.baload, 1) := by decide +kernel
theorem dX1_isAt_45 : decode cX1_isAt 45 = .ok (.aload_n 3, 1) := by decide +kernel
theorem dX1_isAt_46 : decode cX1_isAt 46 = .ok (.iload 4, 2) := by decide +kernel
theorem dX1_isAt_48 : decode cX1_isAt 48 = .ok (.invokevirtual 31, 3) := by decide +kernel
theorem dX1_isAt_51 : decode cX1_isAt 51 = .ok (.if_icmp .eq 5, 3) := by decide +kernel
theorem dX1_isAt_54 : decode cX1_isAt 54 = .ok (.iconst 0, 1) := by decide +kernel
theorem dX1_isAt_55 : decode cX1_isAt 55 = .ok (.ireturn, 1) := by decide +kernel
theorem dX1_isAt_56 : decode cX1_isAt 56 = .ok (.iinc 4 1, 3) := by decide +kernel
theorem dX1_isAt_59 : decode cX1_isAt 59 = .ok (.goto (-32), 3) := by decide +kernel
theorem dX1_isAt_62 : decode cX1_isAt 62 = .ok (.iconst 1, 1) := by decide +kernel
theorem dX1_isAt_63 : decode cX1_isAt 63 = .ok (.ireturn, 1) := by decide +kernel
theorem dX1_put_0 : decode cX1_put 0 = .ok (.aload_n 0, 1) := by decide +kernel
theorem dX1_put_1 : decode cX1_put 1 = .ok (.getfield 22, 3) := by decide +kernel
theorem dX1_put_4 : decode cX1_put 4 = .ok (.aload_n 0, 1) := by decide +kernel
theorem dX1_put_5 : decode cX1_put 5 = .ok (.getfield 19, 3) := by decide +kernel
theorem dX1_put_8 : decode cX1_put 8 = .ok (.arraylength, 1) := by decide +kernel
theorem dX1_put_9 : decode cX1_put 9 = .ok (.if_icmp .ge 24, 3) := by decide +kernel
theorem dX1_put_12 : decode cX1_put 12 = .ok (.aload_n 0, 1) := by decide +kernel
theorem dX1_put_13 : decode cX1_put 13 = .ok (.getfield 19, 3) := by decide +kernel
theorem dX1_put_16 : decode cX1_put 16 = .ok (.aload_n 0, 1) := by decide +kernel
theorem dX1_put_17 : decode cX1_put 17 = .ok (.getfield 22, 3) := by decide +kernel
theorem dX1_put_20 : decode cX1_put 20 = .ok (.iload_n 1, 1) := by decide +kernel
theorem dX1_put_21 : decode cX1_put 21 = .ok (.i2b, 1) := by decide +kernel
theorem dX1_put_22 : decode cX1_put 22 = .ok (.bastore, 1) := by decide +kernel
theorem dX1_put_23 : decode cX1_put 23 = .ok (.aload_n 0, 1) := by decide +kernel
theorem dX1_put_24 : decode cX1_put 24 = .ok (.dup, 1) := by decide +kernel
theorem dX1_put_25 : decode cX1_put 25 = .ok (.getfield 22, 3) := by decide +kernel
theorem dX1_put_28 : decode cX1_put 28 = .ok (.iconst 1, 1) := by decide +kernel
theorem dX1_put_29 : decode cX1_put 29 = .ok (.iadd, 1) := by decide +kernel
theorem dX1_put_30 : decode cX1_put 30 = .ok (.putfield 22, 3) := by decide +kernel
theorem dX1_put_33 : decode cX1_put 33 = .ok (.return_, 1) := by decide +kernel
theorem dX1_putInt_0 : decode cX1_putInt 0 = .ok (.aload_n 0, 1) := by decide +kernel
theorem dX1_putInt_1 : decode cX1_putInt 1 = .ok (.iload_n 1, 1) := by decide +kernel
theorem dX1_putInt_2 : decode cX1_putInt 2 = .ok (.bipush 24, 2) := by decide +kernel
theorem dX1_putInt_4 : decode cX1_putInt 4 = .ok (.iushr, 1) := by decide +kernel
theorem dX1_putInt_5 : decode cX1_putInt 5 = .ok (.invokevirtual 35, 3) := by decide +kernel
theorem dX1_putInt_8 : decode cX1_putInt 8 = .ok (.aload_n 0, 1) := by decide +kernel
theorem dX1_putInt_9 : decode cX1_putInt 9 = .ok (.iload_n 1, 1) := by decide +kernel
theorem dX1_putInt_10 : decode cX1_putInt 10 = .ok (.bipush 16, 2) := by decide +kernel
theorem dX1_putInt_12 : decode cX1_putInt 12 = .ok (.iushr, 1) := by decide +kernel
theorem dX1_putInt_13 : decode cX1_putInt 13 = .ok (.invokevirtual 35, 3) := by decide +kernel
theorem dX1_putInt_16 : decode cX1_putInt 16 = .ok (.aload_n 0, 1) := by decide +kernel
theorem dX1_putInt_17 : decode cX1_putInt 17 = .ok (.iload_n 1, 1) := by decide +kernel
theorem dX1_putInt_18 : decode cX1_putInt 18 = .ok (.bipush 8, 2) := by decide +kernel
theorem dX1_putInt_20 : decode cX1_putInt 20 = .ok (.iushr, 1) := by decide +kernel
theorem dX1_putInt_21 : decode cX1_putInt 21 = .ok (.invokevirtual 35, 3) := by decide +kernel
theorem dX1_putInt_24 : decode cX1_putInt 24 = .ok (.aload_n 0, 1) := by decide +kernel
theorem dX1_putInt_25 : decode cX1_putInt 25 = .ok (.iload_n 1, 1) := by decide +kernel
theorem dX1_putInt_26 : decode cX1_putInt 26 = .ok (.invokevirtual 35, 3) := by decide +kernel
theorem dX1_putInt_29 : decode cX1_putInt 29 = .ok (.return_, 1) := by decide +kernel
theorem dX1_putText_0 : decode cX1_putText 0 = .ok (.iconst 0, 1) := by decide +kernel
theorem dX1_putText_1 : decode cX1_putText 1 = .ok (.istore_n 2, 1) := by decide +kernel
theorem dX1_putText_2 : decode cX1_putText 2 = .ok (.iload_n 2, 1) := by decide +kernel
theorem dX1_putText_3 : decode cX1_putText 3 = .ok (.aload_n 1, 1) := by decide +kernel
theorem dX1_putText_4 : decode cX1_putText 4 = .ok (.invokevirtual 26, 3) := by decide +kernel
theorem dX1_putText_7 : decode cX1_putText 7 = .ok (.if_icmp .ge 18, 3) := by decide +kernel
theorem dX1_putText_10 : decode cX1_putText 10 = .ok (.aload_n 0, 1) := by decide +kernel
theorem dX1_putText_11 : decode cX1_putText 11 = .ok (.aload_n 1, 1) := by decide +kernel
theorem dX1_putText_12 : decode cX1_putText 12 = .ok (.iload_n 2, 1) := by decide +kernel
theorem dX1_putText_13 : decode cX1_putText 13 = .ok (.invokevirtual 31, 3) := by decide +kernel
theorem dX1_putText_16 : decode cX1_putText 16 = .ok (.invokevirtual 35, 3) := by decide +kernel
theorem dX1_putText_19 : decode cX1_putText 19 = .ok (.iinc 2 1, 3) := by decide +kernel
theorem dX1_putText_22 : decode cX1_putText 22 = .ok (.goto (-20), 3) := by decide +kernel
theorem dX1_putText_25 : decode cX1_putText 25 = .ok (.return_, 1) := by decide +kernel
theorem dX1_putNumber_0 : decode cX1_putNumber 0 = .ok (.lload_n 1, 1) := by decide +kernel
theorem dX1_putNumber_1 : decode cX1_putNumber 1 = .ok (.lconst 0, 1) := by decide +kernel
theorem dX1_putNumber_2 : decode cX1_putNumber 2 = .ok (.lcmp, 1) := by decide +kernel
theorem dX1_putNumber_3 : decode cX1_putNumber 3 = .ok (.ifCond .ge 9, 3) := by decide +kernel
theorem dX1_putNumber_6 : decode cX1_putNumber 6 = .ok (.aload_n 0, 1) := by decide +kernel
theorem dX1_putNumber_7 : decode cX1_putNumber 7 = .ok (.bipush 45, 2) := by decide +kernel
theorem dX1_putNumber_9 : decode cX1_putNumber 9 = .ok (.invokevirtual 35, 3) := by decide +kernel
theorem dX1_putNumber_12 : decode cX1_putNumber 12 = .ok (.lload_n 1, 1) := by decide +kernel
theorem dX1_putNumber_13 : decode cX1_putNumber 13 = .ok (.lconst 0, 1) := by decide +kernel
theorem dX1_putNumber_14 : decode cX1_putNumber 14 = .ok (.lcmp, 1) := by decide +kernel
theorem dX1_putNumber_15 : decode cX1_putNumber 15 = .ok (.ifCond .ge 8, 3) := by decide +kernel
theorem dX1_putNumber_18 : decode cX1_putNumber 18 = .ok (.lload_n 1, 1) := by decide +kernel
theorem dX1_putNumber_19 : decode cX1_putNumber 19 = .ok (.lneg, 1) := by decide +kernel
theorem dX1_putNumber_20 : decode cX1_putNumber 20 = .ok (.goto 4, 3) := by decide +kernel
theorem dX1_putNumber_23 : decode cX1_putNumber 23 = .ok (.lload_n 1, 1) := by decide +kernel
theorem dX1_putNumber_24 : decode cX1_putNumber 24 = .ok (.lstore_n 3, 1) := by decide +kernel
theorem dX1_putNumber_25 : decode cX1_putNumber 25 = .ok (.iconst 0, 1) := by decide +kernel
theorem dX1_putNumber_26 : decode cX1_putNumber 26 = .ok (.istore 5, 2) := by decide +kernel
theorem dX1_putNumber_28 : decode cX1_putNumber 28 = .ok (.aload_n 0, 1) := by decide +kernel
theorem dX1_putNumber_29 : decode cX1_putNumber 29 = .ok (.getfield 9, 3) := by decide +kernel
theorem dX1_putNumber_32 : decode cX1_putNumber 32 = .ok (.iload 5, 2) := by decide +kernel
theorem dX1_putNumber_34 : decode cX1_putNumber 34 = .ok (.ldc2_w 39, 3) := by decide +kernel
theorem dX1_putNumber_37 : decode cX1_putNumber 37 = .ok (.lload_n 3, 1) := by decide +kernel
theorem dX1_putNumber_38 : decode cX1_putNumber 38 = .ok (.ldc2_w 41, 3) := by decide +kernel
theorem dX1_putNumber_41 : decode cX1_putNumber 41 = .ok (.lrem, 1) := by decide +kernel
theorem dX1_putNumber_42 : decode cX1_putNumber 42 = .ok (.ladd, 1) := by decide +kernel
theorem dX1_putNumber_43 : decode cX1_putNumber 43 = .ok (.l2i, 1) := by decide +kernel
theorem dX1_putNumber_44 : decode cX1_putNumber 44 = .ok (.i2b, 1) := by decide +kernel
theorem dX1_putNumber_45 : decode cX1_putNumber 45 = .ok (.bastore, 1) := by decide +kernel
theorem dX1_putNumber_46 : decode cX1_putNumber 46 = .ok (.lload_n 3, 1) := by decide +kernel
theorem dX1_putNumber_47 : decode cX1_putNumber 47 = .ok (.ldc2_w 41, 3) := by decide +kernel
theorem dX1_putNumber_50 : decode cX1_putNumber 50 = .ok (.ldiv, 1) := by decide +kernel
theorem dX1_putNumber_51 : decode cX1_putNumber 51 = .ok (.lstore_n 3, 1) := by decide +kernel
theorem dX1_putNumber_52 : decode cX1_putNumber 52 = .ok (.iinc 5 1, 3) := by decide +kernel
theorem dX1_putNumber_55 : decode cX1_putNumber 55 = .ok (.lload_n 3, 1) := by decide +kernel
theorem dX1_putNumber_56 : decode cX1_putNumber 56 = .ok (.lconst 0, 1) := by decide +kernel
theorem dX1_putNumber_57 : decode cX1_putNumber 57 = .ok (.lcmp, 1) := by decide +kernel
theorem dX1_putNumber_58 : decode cX1_putNumber 58 = .ok (.ifCond .le 10, 3) := by decide +kernel
theorem dX1_putNumber_61 : decode cX1_putNumber 61 = .ok (.iload 5, 2) := by decide +kernel
theorem dX1_putNumber_63 : decode cX1_putNumber 63 = .ok (.bipush 19, 2) := by decide +kernel
theorem dX1_putNumber_65 : decode cX1_putNumber 65 = .ok (.if_icmp .lt (-37), 3) := by decide +kernel
theorem dX1_putNumber_68 : decode cX1_putNumber 68 = .ok (.iload 5, 2) := by decide +kernel
theorem dX1_putNumber_70 : decode cX1_putNumber 70 = .ok (.iconst 1, 1) := by decide +kernel
theorem dX1_putNumber_71 : decode cX1_putNumber 71 = .ok (.isub, 1) := by decide +kernel
theorem dX1_putNumber_72 : decode cX1_putNumber 72 = .ok (.istore 6, 2) := by decide +kernel
theorem dX1_putNumber_74 : decode cX1_putNumber 74 = .ok (.iload 6, 2) := by decide +kernel
theorem dX1_putNumber_76 : decode cX1_putNumber 76 = .ok (.ifCond .lt 20, 3) := by decide +kernel
theorem dX1_putNumber_79 : decode cX1_putNumber 79 = .ok (.aload_n 0, 1) := by decide +kernel
theorem dX1_putNumber_80 : decode cX1_putNumber 80 = .ok (.aload_n 0, 1) := by decide +kernel
theorem dX1_putNumber_81 : decode cX1_putNumber 81 = .ok (.getfield 9, 3) := by decide +kernel
theorem dX1_putNumber_84 : decode cX1_putNumber 84 = .ok (.iload 6, 2) := by decide +kernel
theorem dX1_putNumber_86 : decode cX1_putNumber 86 = .ok (.baload, 1) := by decide +kernel
theorem dX1_putNumber_87 : decode cX1_putNumber 87 = .ok (.invokevirtual 35, 3) := by decide +kernel
theorem dX1_putNumber_90 : decode cX1_putNumber 90 = .ok (.iinc 6 (-1), 3) := by decide +kernel
theorem dX1_putNumber_93 : decode cX1_putNumber 93 = .ok (.goto (-19), 3) := by decide +kernel
theorem dX1_putNumber_96 : decode cX1_putNumber 96 = .ok (.return_, 1) := by decide +kernel
theorem dX2_init_0 : decode cX2_init 0 = .ok (.aload_n 0, 1) := by decide +kernel
theorem dX2_init_1 : decode cX2_init 1 = .ok (.invokespecial 3, 3) := by decide +kernel
theorem dX2_init_4 : decode cX2_init 4 = .ok (.return_, 1) := by decide +kernel
theorem dX2_copyFrom_0 : decode cX2_copyFrom 0 = .ok (.aload_n 0, 1) := by decide +kernel
theorem dX2_copyFrom_1 : decode cX2_copyFrom 1 = .ok (.aload_n 1, 1) := by decide +kernel
theorem dX2_copyFrom_2 : decode cX2_copyFrom 2 = .ok (.getfield 9, 3) := by decide +kernel
theorem dX2_copyFrom_5 : decode cX2_copyFrom 5 = .ok (.putfield 9, 3) := by decide +kernel
theorem dX2_copyFrom_8 : decode cX2_copyFrom 8 = .ok (.aload_n 0, 1) := by decide +kernel
theorem dX2_copyFrom_9 : decode cX2_copyFrom 9 = .ok (.aload_n 1, 1) := by decide +kernel
theorem dX2_copyFrom_10 : decode cX2_copyFrom 10 = .ok (.getfield 15, 3) := by decide +kernel
theorem dX2_copyFrom_13 : decode cX2_copyFrom 13 = .ok (.putfield 15, 3) := by decide +kernel
theorem dX2_copyFrom_16 : decode cX2_copyFrom 16 = .ok (.aload_n 0, 1) := by decide +kernel
theorem dX2_copyFrom_17 : decode cX2_copyFrom 17 = .ok (.aload_n 1, 1) := by decide +kernel
theorem dX2_copyFrom_18 : decode cX2_copyFrom 18 = .ok (.getfield 18, 3) := by decide +kernel
theorem dX2_copyFrom_21 : decode cX2_copyFrom 21 = .ok (.putfield 18, 3) := by decide +kernel
theorem dX2_copyFrom_24 : decode cX2_copyFrom 24 = .ok (.aload_n 0, 1) := by decide +kernel
theorem dX2_copyFrom_25 : decode cX2_copyFrom 25 = .ok (.aload_n 1, 1) := by decide +kernel
theorem dX2_copyFrom_26 : decode cX2_copyFrom 26 = .ok (.getfield 21, 3) := by decide +kernel
theorem dX2_copyFrom_29 : decode cX2_copyFrom 29 = .ok (.putfield 21, 3) := by decide +kernel
theorem dX2_copyFrom_32 : decode cX2_copyFrom 32 = .ok (.aload_n 0, 1) := by decide +kernel
theorem dX2_copyFrom_33 : decode cX2_copyFrom 33 = .ok (.aload_n 1, 1) := by decide +kernel
theorem dX2_copyFrom_34 : decode cX2_copyFrom 34 = .ok (.getfield 24, 3) := by decide +kernel
theorem dX2_copyFrom_37 : decode cX2_copyFrom 37 = .ok (.putfield 24, 3) := by decide +kernel
theorem dX2_copyFrom_40 : decode cX2_copyFrom 40 = .ok (.aload_n 0, 1) := by decide +kernel
theorem dX2_copyFrom_41 : decode cX2_copyFrom 41 = .ok (.aload_n 1, 1) := by decide +kernel
theorem dX2_copyFrom_42 : decode cX2_copyFrom 42 = .ok (.getfield 28, 3) := by decide +kernel
theorem dX2_copyFrom_45 : decode cX2_copyFrom 45 = .ok (.putfield 28, 3) := by decide +kernel
theorem dX2_copyFrom_48 : decode cX2_copyFrom 48 = .ok (.aload_n 0, 1) := by decide +kernel
theorem dX2_copyFrom_49 : decode cX2_copyFrom 49 = .ok (.aload_n 1, 1) := by decide +kernel
theorem dX2_copyFrom_50 : decode cX2_copyFrom 50 = .ok (.getfield 31, 3) := by decide +kernel
theorem dX2_copyFrom_53 : decode cX2_copyFrom 53 = .ok (.putfield 31, 3) := by decide +kernel
theorem dX2_copyFrom_56 : decode cX2_copyFrom 56 = .ok (.return_, 1) := by decide +kernel
theorem dX2_year_0 : decode cX2_year 0 = .ok (.aload_n 0, 1) := by decide +kernel
theorem dX2_year_1 : decode cX2_year 1 = .ok (.getfield 15, 3) := by decide +kernel
theorem dX2_year_4 : decode cX2_year 4 = .ok (.sipush 360, 3) := by decide +kernel
theorem dX2_year_7 : decode cX2_year 7 = .ok (.idiv, 1) := by decide +kernel
theorem dX2_year_8 : decode cX2_year 8 = .ok (.ireturn, 1) := by decide +kernel
theorem dX2_days_0 : decode cX2_days 0 = .ok (.aload_n 0, 1) := by decide +kernel
theorem dX2_days_1 : decode cX2_days 1 = .ok (.getfield 18, 3) := by decide +kernel
theorem dX2_days_4 : decode cX2_days 4 = .ok (.aload_n 0, 1) := by decide +kernel
theorem dX2_days_5 : decode cX2_days 5 = .ok (.getfield 15, 3) := by decide +kernel
theorem dX2_days_8 : decode cX2_days 8 = .ok (.isub, 1) := by decide +kernel
theorem dX2_days_9 : decode cX2_days 9 = .ok (.iconst 1, 1) := by decide +kernel
theorem dX2_days_10 : decode cX2_days 10 = .ok (.iadd, 1) := by decide +kernel
theorem dX2_days_11 : decode cX2_days 11 = .ok (.ireturn, 1) := by decide +kernel
theorem dX2_contestedDays_0 : decode cX2_contestedDays 0 = .ok (.aload_n 0, 1) := by decide +kernel
theorem dX2_contestedDays_1 : decode cX2_contestedDays 1 = .ok (.getfield 28, 3) := by decide +kernel
theorem dX2_contestedDays_4 : decode cX2_contestedDays 4 = .ok (.aload_n 0, 1) := by decide +kernel
theorem dX2_contestedDays_5 : decode cX2_contestedDays 5 = .ok (.getfield 31, 3) := by decide +kernel
theorem dX2_contestedDays_8 : decode cX2_contestedDays 8 = .ok (.ior, 1) := by decide +kernel
theorem dX2_contestedDays_9 : decode cX2_contestedDays 9 = .ok (.ireturn, 1) := by decide +kernel
theorem dX3_init_0 : decode cX3_init 0 = .ok (.aload_n 0, 1) := by decide +kernel
theorem dX3_init_1 : decode cX3_init 1 = .ok (.invokespecial 3, 3) := by decide +kernel
theorem dX3_init_4 : decode cX3_init 4 = .ok (.aload_n 0, 1) := by decide +kernel
theorem dX3_init_5 : decode cX3_init 5 = .ok (.bipush 6, 2) := by decide +kernel
theorem dX3_init_7 : decode cX3_init 7 = .ok (.anewarray 9, 3) := by decide +kernel
theorem dX3_init_10 : decode cX3_init 10 = .ok (.putfield 11, 3) := by decide +kernel
theorem dX3_init_13 : decode cX3_init 13 = .ok (.iconst 0, 1) := by decide +kernel
theorem dX3_init_14 : decode cX3_init 14 = .ok (.istore_n 1, 1) := by decide +kernel
theorem dX3_init_15 : decode cX3_init 15 = .ok (.iload_n 1, 1) := by decide +kernel
theorem dX3_init_16 : decode cX3_init 16 = .ok (.bipush 6, 2) := by decide +kernel
theorem dX3_init_18 : decode cX3_init 18 = .ok (.if_icmp .ge 22, 3) := by decide +kernel
theorem dX3_init_21 : decode cX3_init 21 = .ok (.aload_n 0, 1) := by decide +kernel
theorem dX3_init_22 : decode cX3_init 22 = .ok (.getfield 11, 3) := by decide +kernel
theorem dX3_init_25 : decode cX3_init 25 = .ok (.iload_n 1, 1) := by decide +kernel
theorem dX3_init_26 : decode cX3_init 26 = .ok (.new 9, 3) := by decide +kernel
theorem dX3_init_29 : decode cX3_init 29 = .ok (.dup, 1) := by decide +kernel
theorem dX3_init_30 : decode cX3_init 30 = .ok (.invokespecial 17, 3) := by decide +kernel
theorem dX3_init_33 : decode cX3_init 33 = .ok (.aastore, 1) := by decide +kernel
theorem dX3_init_34 : decode cX3_init 34 = .ok (.iinc 1 1, 3) := by decide +kernel
theorem dX3_init_37 : decode cX3_init 37 = .ok (.goto (-22), 3) := by decide +kernel
theorem dX3_init_40 : decode cX3_init 40 = .ok (.return_, 1) := by decide +kernel
theorem dX3_save_0 : decode cX3_save 0 = .ok (.aload_n 0, 1) := by decide +kernel
theorem dX3_save_1 : decode cX3_save 1 = .ok (.getfield 11, 3) := by decide +kernel
theorem dX3_save_4 : decode cX3_save 4 = .ok (.aload_n 0, 1) := by decide +kernel
theorem dX3_save_5 : decode cX3_save 5 = .ok (.getfield 18, 3) := by decide +kernel
theorem dX3_save_8 : decode cX3_save 8 = .ok (.aaload, 1) := by decide +kernel
theorem dX3_save_9 : decode cX3_save 9 = .ok (.aload_n 1, 1) := by decide +kernel
theorem dX3_save_10 : decode cX3_save 10 = .ok (.invokevirtual 22, 3) := by decide +kernel
theorem dX3_save_13 : decode cX3_save 13 = .ok (.aload_n 0, 1) := by decide +kernel
theorem dX3_save_14 : decode cX3_save 14 = .ok (.aload_n 0, 1) := by decide +kernel
theorem dX3_save_15 : decode cX3_save 15 = .ok (.getfield 18, 3) := by decide +kernel
theorem dX3_save_18 : decode cX3_save 18 = .ok (.iconst 1, 1) := by decide +kernel
theorem dX3_save_19 : decode cX3_save 19 = .ok (.iadd, 1) := by decide +kernel
theorem dX3_save_20 : decode cX3_save 20 = .ok (.bipush 6, 2) := by decide +kernel
theorem dX3_save_22 : decode cX3_save 22 = .ok (.irem, 1) := by decide +kernel
theorem dX3_save_23 : decode cX3_save 23 = .ok (.putfield 18, 3) := by decide +kernel
theorem dX3_save_26 : decode cX3_save 26 = .ok (.aload_n 0, 1) := by decide +kernel
theorem dX3_save_27 : decode cX3_save 27 = .ok (.aload_n 0, 1) := by decide +kernel
theorem dX3_save_28 : decode cX3_save 28 = .ok (.getfield 26, 3) := by decide +kernel
theorem dX3_save_31 : decode cX3_save 31 = .ok (.iconst 1, 1) := by decide +kernel
theorem dX3_save_32 : decode cX3_save 32 = .ok (.iadd, 1) := by decide +kernel
theorem dX3_save_33 : decode cX3_save 33 = .ok (.bipush 6, 2) := by decide +kernel
theorem dX3_save_35 : decode cX3_save 35 = .ok (.invokestatic 29, 3) := by decide +kernel
theorem dX3_save_38 : decode cX3_save 38 = .ok (.putfield 26, 3) := by decide +kernel
theorem dX3_save_41 : decode cX3_save 41 = .ok (.return_, 1) := by decide +kernel
theorem dX3_takeBack_0 : decode cX3_takeBack 0 = .ok (.aload_n 0, 1) := by decide +kernel
theorem dX3_takeBack_1 : decode cX3_takeBack 1 = .ok (.aload_n 0, 1) := by decide +kernel
theorem dX3_takeBack_2 : decode cX3_takeBack 2 = .ok (.getfield 18, 3) := by decide +kernel
theorem dX3_takeBack_5 : decode cX3_takeBack 5 = .ok (.bipush 6, 2) := by decide +kernel
theorem dX3_takeBack_7 : decode cX3_takeBack 7 = .ok (.iadd, 1) := by decide +kernel
theorem dX3_takeBack_8 : decode cX3_takeBack 8 = .ok (.iconst 1, 1) := by decide +kernel
theorem dX3_takeBack_9 : decode cX3_takeBack 9 = .ok (.isub, 1) := by decide +kernel
theorem dX3_takeBack_10 : decode cX3_takeBack 10 = .ok (.bipush 6, 2) := by decide +kernel
theorem dX3_takeBack_12 : decode cX3_takeBack 12 = .ok (.irem, 1) := by decide +kernel
theorem dX3_takeBack_13 : decode cX3_takeBack 13 = .ok (.putfield 18, 3) := by decide +kernel
theorem dX3_takeBack_16 : decode cX3_takeBack 16 = .ok (.aload_n 0, 1) := by decide +kernel
theorem dX3_takeBack_17 : decode cX3_takeBack 17 = .ok (.dup, 1) := by decide +kernel
theorem dX3_takeBack_18 : decode cX3_takeBack 18 = .ok (.getfield 26, 3) := by decide +kernel
theorem dX3_takeBack_21 : decode cX3_takeBack 21 = .ok (.iconst 1, 1) := by decide +kernel
theorem dX3_takeBack_22 : decode cX3_takeBack 22 = .ok (.isub, 1) := by decide +kernel
theorem dX3_takeBack_23 : decode cX3_takeBack 23 = .ok (.putfield 26, 3) := by decide +kernel
theorem dX3_takeBack_26 : decode cX3_takeBack 26 = .ok (.aload_n 1, 1) := by decide +kernel
theorem dX3_takeBack_27 : decode cX3_takeBack 27 = .ok (.aload_n 0, 1) := by decide +kernel
theorem dX3_takeBack_28 : decode cX3_takeBack 28 = .ok (.getfield 11, 3) := by decide +kernel
theorem dX3_takeBack_31 : decode cX3_takeBack 31 = .ok (.aload_n 0, 1) := by decide +kernel
theorem dX3_takeBack_32 : decode cX3_takeBack 32 = .ok (.getfield 18, 3) := by decide +kernel
theorem dX3_takeBack_35 : decode cX3_takeBack 35 = .ok (.aaload, 1) := by decide +kernel
theorem dX3_takeBack_36 : decode cX3_takeBack 36 = .ok (.invokevirtual 22, 3) := by decide +kernel
theorem dX3_takeBack_39 : decode cX3_takeBack 39 = .ok (.return_, 1) := by decide +kernel
theorem dX4_init_0 : decode cX4_init 0 = .ok (.aload_n 0, 1) := by decide +kernel
theorem dX4_init_1 : decode cX4_init 1 = .ok (.invokespecial 3, 3) := by decide +kernel
theorem dX4_init_4 : decode cX4_init 4 = .ok (.aload_n 0, 1) := by decide +kernel
theorem dX4_init_5 : decode cX4_init 5 = .ok (.iconst 4, 1) := by decide +kernel
theorem dX4_init_6 : decode cX4_init 6 = .ok (.newarray .int, 2) := by decide +kernel
theorem dX4_init_8 : decode cX4_init 8 = .ok (.putfield 9, 3) := by decide +kernel
theorem dX4_init_11 : decode cX4_init 11 = .ok (.return_, 1) := by decide +kernel
theorem dX4_copyFrom_0 : decode cX4_copyFrom 0 = .ok (.aload_n 1, 1) := by decide +kernel
theorem dX4_copyFrom_1 : decode cX4_copyFrom 1 = .ok (.getfield 9, 3) := by decide +kernel
theorem dX4_copyFrom_4 : decode cX4_copyFrom 4 = .ok (.iconst 0, 1) := by decide +kernel
theorem dX4_copyFrom_5 : decode cX4_copyFrom 5 = .ok (.aload_n 0, 1) := by decide +kernel
theorem dX4_copyFrom_6 : decode cX4_copyFrom 6 = .ok (.getfield 9, 3) := by decide +kernel
theorem dX4_copyFrom_9 : decode cX4_copyFrom 9 = .ok (.iconst 0, 1) := by decide +kernel
theorem dX4_copyFrom_10 : decode cX4_copyFrom 10 = .ok (.iconst 4, 1) := by decide +kernel
theorem dX4_copyFrom_11 : decode cX4_copyFrom 11 = .ok (.invokestatic 15, 3) := by decide +kernel
theorem dX4_copyFrom_14 : decode cX4_copyFrom 14 = .ok (.aload_n 0, 1) := by decide +kernel
theorem dX4_copyFrom_15 : decode cX4_copyFrom 15 = .ok (.aload_n 1, 1) := by decide +kernel
theorem dX4_copyFrom_16 : decode cX4_copyFrom 16 = .ok (.getfield 21, 3) := by decide +kernel
theorem dX4_copyFrom_19 : decode cX4_copyFrom 19 = .ok (.putfield 21, 3) := by decide +kernel
theorem dX4_copyFrom_22 : decode cX4_copyFrom 22 = .ok (.aload_n 0, 1) := by decide +kernel
theorem dX4_copyFrom_23 : decode cX4_copyFrom 23 = .ok (.aload_n 1, 1) := by decide +kernel
theorem dX4_copyFrom_24 : decode cX4_copyFrom 24 = .ok (.getfield 25, 3) := by decide +kernel
theorem dX4_copyFrom_27 : decode cX4_copyFrom 27 = .ok (.putfield 25, 3) := by decide +kernel
theorem dX4_copyFrom_30 : decode cX4_copyFrom 30 = .ok (.aload_n 0, 1) := by decide +kernel
theorem dX4_copyFrom_31 : decode cX4_copyFrom 31 = .ok (.aload_n 1, 1) := by decide +kernel
theorem dX4_copyFrom_32 : decode cX4_copyFrom 32 = .ok (.getfield 28, 3) := by decide +kernel
theorem dX4_copyFrom_35 : decode cX4_copyFrom 35 = .ok (.putfield 28, 3) := by decide +kernel
theorem dX4_copyFrom_38 : decode cX4_copyFrom 38 = .ok (.aload_n 0, 1) := by decide +kernel
theorem dX4_copyFrom_39 : decode cX4_copyFrom 39 = .ok (.aload_n 1, 1) := by decide +kernel
theorem dX4_copyFrom_40 : decode cX4_copyFrom 40 = .ok (.getfield 31, 3) := by decide +kernel
theorem dX4_copyFrom_43 : decode cX4_copyFrom 43 = .ok (.putfield 31, 3) := by decide +kernel
theorem dX4_copyFrom_46 : decode cX4_copyFrom 46 = .ok (.aload_n 0, 1) := by decide +kernel
theorem dX4_copyFrom_47 : decode cX4_copyFrom 47 = .ok (.aload_n 1, 1) := by decide +kernel
theorem dX4_copyFrom_48 : decode cX4_copyFrom 48 = .ok (.getfield 34, 3) := by decide +kernel
theorem dX4_copyFrom_51 : decode cX4_copyFrom 51 = .ok (.putfield 34, 3) := by decide +kernel
theorem dX4_copyFrom_54 : decode cX4_copyFrom 54 = .ok (.aload_n 0, 1) := by decide +kernel
theorem dX4_copyFrom_55 : decode cX4_copyFrom 55 = .ok (.aload_n 1, 1) := by decide +kernel
theorem dX4_copyFrom_56 : decode cX4_copyFrom 56 = .ok (.getfield 37, 3) := by decide +kernel
theorem dX4_copyFrom_59 : decode cX4_copyFrom 59 = .ok (.putfield 37, 3) := by decide +kernel
theorem dX4_copyFrom_62 : decode cX4_copyFrom 62 = .ok (.return_, 1) := by decide +kernel
theorem dX4_standing_0 : decode cX4_standing 0 = .ok (.aload_n 0, 1) := by decide +kernel
theorem dX4_standing_1 : decode cX4_standing 1 = .ok (.getfield 31, 3) := by decide +kernel
theorem dX4_standing_4 : decode cX4_standing 4 = .ok (.aload_n 0, 1) := by decide +kernel
theorem dX4_standing_5 : decode cX4_standing 5 = .ok (.getfield 34, 3) := by decide +kernel
theorem dX4_standing_8 : decode cX4_standing 8 = .ok (.iconst (-1), 1) := by decide +kernel
theorem dX4_standing_9 : decode cX4_standing 9 = .ok (.ixor, 1) := by decide +kernel
theorem dX4_standing_10 : decode cX4_standing 10 = .ok (.iand, 1) := by decide +kernel
theorem dX4_standing_11 : decode cX4_standing 11 = .ok (.ireturn, 1) := by decide +kernel
theorem dX4_stands_0 : decode cX4_stands 0 = .ok (.aload_n 0, 1) := by decide +kernel
theorem dX4_stands_1 : decode cX4_stands 1 = .ok (.invokevirtual 40, 3) := by decide +kernel
theorem dX4_stands_4 : decode cX4_stands 4 = .ok (.iload_n 1, 1) := by decide +kernel
theorem dX4_stands_5 : decode cX4_stands 5 = .ok (.invokestatic 44, 3) := by decide +kernel
theorem dX4_stands_8 : decode cX4_stands 8 = .ok (.ireturn, 1) := by decide +kernel
theorem dX4_netAmount_0 : decode cX4_netAmount 0 = .ok (.aload_n 0, 1) := by decide +kernel
theorem dX4_netAmount_1 : decode cX4_netAmount 1 = .ok (.aload_n 0, 1) := by decide +kernel
theorem dX4_netAmount_2 : decode cX4_netAmount 2 = .ok (.invokevirtual 40, 3) := by decide +kernel
theorem dX4_netAmount_5 : decode cX4_netAmount 5 = .ok (.invokevirtual 48, 3) := by decide +kernel
theorem dX4_netAmount_8 : decode cX4_netAmount 8 = .ok (.ireturn, 1) := by decide +kernel
theorem dX4_sumOf_0 : decode cX4_sumOf 0 = .ok (.iconst 0, 1) := by decide +kernel
theorem dX4_sumOf_1 : decode cX4_sumOf 1 = .ok (.istore_n 2, 1) := by decide +kernel
theorem dX4_sumOf_2 : decode cX4_sumOf 2 = .ok (.iconst 0, 1) := by decide +kernel
theorem dX4_sumOf_3 : decode cX4_sumOf 3 = .ok (.istore_n 3, 1) := by decide +kernel
theorem dX4_sumOf_4 : decode cX4_sumOf 4 = .ok (.iload_n 3, 1) := by decide +kernel
theorem dX4_sumOf_5 : decode cX4_sumOf 5 = .ok (.iconst 4, 1) := by decide +kernel
theorem dX4_sumOf_6 : decode cX4_sumOf 6 = .ok (.if_icmp .ge 26, 3) := by decide +kernel
theorem dX4_sumOf_9 : decode cX4_sumOf 9 = .ok (.iload_n 1, 1) := by decide +kernel
theorem dX4_sumOf_10 : decode cX4_sumOf 10 = .ok (.iload_n 3, 1) := by decide +kernel
theorem dX4_sumOf_11 : decode cX4_sumOf 11 = .ok (.invokestatic 44, 3) := by decide +kernel
theorem dX4_sumOf_14 : decode cX4_sumOf 14 = .ok (.ifCond .eq 12, 3) := by decide +kernel
theorem dX4_sumOf_17 : decode cX4_sumOf 17 = .ok (.iload_n 2, 1) := by decide +kernel
theorem dX4_sumOf_18 : decode cX4_sumOf 18 = .ok (.aload_n 0, 1) := by decide +kernel
theorem dX4_sumOf_19 : decode cX4_sumOf 19 = .ok (.getfield 9, 3) := by decide +kernel
theorem dX4_sumOf_22 : decode cX4_sumOf 22 = .ok (.iload_n 3, 1) := by decide +kernel
theorem dX4_sumOf_23 : decode cX4_sumOf 23 = .ok (.iaload, 1) := by decide +kernel
theorem dX4_sumOf_24 : decode cX4_sumOf 24 = .ok (.iadd, 1) := by decide +kernel
theorem dX4_sumOf_25 : decode cX4_sumOf 25 = .ok (.istore_n 2, 1) := by decide +kernel
theorem dX4_sumOf_26 : decode cX4_sumOf 26 = .ok (.iinc 3 1, 3) := by decide +kernel
theorem dX4_sumOf_29 : decode cX4_sumOf 29 = .ok (.goto (-25), 3) := by decide +kernel
theorem dX4_sumOf_32 : decode cX4_sumOf 32 = .ok (.iload_n 2, 1) := by decide +kernel
theorem dX4_sumOf_33 : decode cX4_sumOf 33 = .ok (.ireturn, 1) := by decide +kernel
theorem dX5_init_0 : decode cX5_init 0 = .ok (.aload_n 0, 1) := by decide +kernel
theorem dX5_init_1 : decode cX5_init 1 = .ok (.invokespecial 3, 3) := by decide +kernel
theorem dX5_init_4 : decode cX5_init 4 = .ok (.aload_n 0, 1) := by decide +kernel
theorem dX5_init_5 : decode cX5_init 5 = .ok (.bipush 8, 2) := by decide +kernel
theorem dX5_init_7 : decode cX5_init 7 = .ok (.anewarray 9, 3) := by decide +kernel
theorem dX5_init_10 : decode cX5_init 10 = .ok (.putfield 11, 3) := by decide +kernel
theorem dX5_init_13 : decode cX5_init 13 = .ok (.aload_n 0, 1) := by decide +kernel
theorem dX5_init_14 : decode cX5_init 14 = .ok (.bipush 40, 2) := by decide +kernel
theorem dX5_init_16 : decode cX5_init 16 = .ok (.anewarray 17, 3) := by decide +kernel
theorem dX5_init_19 : decode cX5_init 19 = .ok (.putfield 19, 3) := by decide +kernel
theorem dX5_init_22 : decode cX5_init 22 = .ok (.aload_n 0, 1) := by decide +kernel
theorem dX5_init_23 : decode cX5_init 23 = .ok (.bipush 60, 2) := by decide +kernel
theorem dX5_init_25 : decode cX5_init 25 = .ok (.anewarray 23, 3) := by decide +kernel
theorem dX5_init_28 : decode cX5_init 28 = .ok (.putfield 25, 3) := by decide +kernel
theorem dX5_init_31 : decode cX5_init 31 = .ok (.aload_n 0, 1) := by decide +kernel
theorem dX5_init_32 : decode cX5_init 32 = .ok (.bipush 40, 2) := by decide +kernel
theorem dX5_init_34 : decode cX5_init 34 = .ok (.anewarray 29, 3) := by decide +kernel
theorem dX5_init_37 : decode cX5_init 37 = .ok (.putfield 31, 3) := by decide +kernel
theorem dX5_init_40 : decode cX5_init 40 = .ok (.aload_n 0, 1) := by decide +kernel
theorem dX5_init_41 : decode cX5_init 41 = .ok (.bipush 21, 2) := by decide +kernel
theorem dX5_init_43 : decode cX5_init 43 = .ok (.anewarray 35, 3) := by decide +kernel
theorem dX5_init_46 : decode cX5_init 46 = .ok (.putfield 37, 3) := by decide +kernel
theorem dX5_init_49 : decode cX5_init 49 = .ok (.iconst 0, 1) := by decide +kernel
theorem dX5_init_50 : decode cX5_init 50 = .ok (.istore_n 1, 1) := by decide +kernel
theorem dX5_init_51 : decode cX5_init 51 = .ok (.iload_n 1, 1) := by decide +kernel
theorem dX5_init_52 : decode cX5_init 52 = .ok (.bipush 8, 2) := by decide +kernel
theorem dX5_init_54 : decode cX5_init 54 = .ok (.if_icmp .ge 22, 3) := by decide +kernel
theorem dX5_init_57 : decode cX5_init 57 = .ok (.aload_n 0, 1) := by decide +kernel
theorem dX5_init_58 : decode cX5_init 58 = .ok (.getfield 11, 3) := by decide +kernel
theorem dX5_init_61 : decode cX5_init 61 = .ok (.iload_n 1, 1) := by decide +kernel
theorem dX5_init_62 : decode cX5_init 62 = .ok (.new 9, 3) := by decide +kernel
theorem dX5_init_65 : decode cX5_init 65 = .ok (.dup, 1) := by decide +kernel
theorem dX5_init_66 : decode cX5_init 66 = .ok (.invokespecial 41, 3) := by decide +kernel
theorem dX5_init_69 : decode cX5_init 69 = .ok (.aastore, 1) := by decide +kernel
theorem dX5_init_70 : decode cX5_init 70 = .ok (.iinc 1 1, 3) := by decide +kernel
theorem dX5_init_73 : decode cX5_init 73 = .ok (.goto (-22), 3) := by decide +kernel
theorem dX5_init_76 : decode cX5_init 76 = .ok (.iconst 0, 1) := by decide +kernel
theorem dX5_init_77 : decode cX5_init 77 = .ok (.istore_n 1, 1) := by decide +kernel
theorem dX5_init_78 : decode cX5_init 78 = .ok (.iload_n 1, 1) := by decide +kernel
theorem dX5_init_79 : decode cX5_init 79 = .ok (.bipush 40, 2) := by decide +kernel
theorem dX5_init_81 : decode cX5_init 81 = .ok (.if_icmp .ge 22, 3) := by decide +kernel
theorem dX5_init_84 : decode cX5_init 84 = .ok (.aload_n 0, 1) := by decide +kernel
theorem dX5_init_85 : decode cX5_init 85 = .ok (.getfield 19, 3) := by decide +kernel
theorem dX5_init_88 : decode cX5_init 88 = .ok (.iload_n 1, 1) := by decide +kernel
theorem dX5_init_89 : decode cX5_init 89 = .ok (.new 17, 3) := by decide +kernel
theorem dX5_init_92 : decode cX5_init 92 = .ok (.dup, 1) := by decide +kernel
theorem dX5_init_93 : decode cX5_init 93 = .ok (.invokespecial 42, 3) := by decide +kernel
theorem dX5_init_96 : decode cX5_init 96 = .ok (.aastore, 1) := by decide +kernel
theorem dX5_init_97 : decode cX5_init 97 = .ok (.iinc 1 1, 3) := by decide +kernel
theorem dX5_init_100 : decode cX5_init 100 = .ok (.goto (-22), 3) := by decide +kernel
theorem dX5_init_103 : decode cX5_init 103 = .ok (.iconst 0, 1) := by decide +kernel
theorem dX5_init_104 : decode cX5_init 104 = .ok (.istore_n 1, 1) := by decide +kernel
theorem dX5_init_105 : decode cX5_init 105 = .ok (.iload_n 1, 1) := by decide +kernel
theorem dX5_init_106 : decode cX5_init 106 = .ok (.bipush 60, 2) := by decide +kernel
theorem dX5_init_108 : decode cX5_init 108 = .ok (.if_icmp .ge 22, 3) := by decide +kernel
theorem dX5_init_111 : decode cX5_init 111 = .ok (.aload_n 0, 1) := by decide +kernel
theorem dX5_init_112 : decode cX5_init 112 = .ok (.getfield 25, 3) := by decide +kernel
theorem dX5_init_115 : decode cX5_init 115 = .ok (.iload_n 1, 1) := by decide +kernel
theorem dX5_init_116 : decode cX5_init 116 = .ok (.new 23, 3) := by decide +kernel
theorem dX5_init_119 : decode cX5_init 119 = .ok (.dup, 1) := by decide +kernel
theorem dX5_init_120 : decode cX5_init 120 = .ok (.invokespecial 43, 3) := by decide +kernel
theorem dX5_init_123 : decode cX5_init 123 = .ok (.aastore, 1) := by decide +kernel
theorem dX5_init_124 : decode cX5_init 124 = .ok (.iinc 1 1, 3) := by decide +kernel
theorem dX5_init_127 : decode cX5_init 127 = .ok (.goto (-22), 3) := by decide +kernel
theorem dX5_init_130 : decode cX5_init 130 = .ok (.iconst 0, 1) := by decide +kernel
theorem dX5_init_131 : decode cX5_init 131 = .ok (.istore_n 1, 1) := by decide +kernel
theorem dX5_init_132 : decode cX5_init 132 = .ok (.iload_n 1, 1) := by decide +kernel
theorem dX5_init_133 : decode cX5_init 133 = .ok (.bipush 40, 2) := by decide +kernel
theorem dX5_init_135 : decode cX5_init 135 = .ok (.if_icmp .ge 22, 3) := by decide +kernel
theorem dX5_init_138 : decode cX5_init 138 = .ok (.aload_n 0, 1) := by decide +kernel
theorem dX5_init_139 : decode cX5_init 139 = .ok (.getfield 31, 3) := by decide +kernel
theorem dX5_init_142 : decode cX5_init 142 = .ok (.iload_n 1, 1) := by decide +kernel
theorem dX5_init_143 : decode cX5_init 143 = .ok (.new 29, 3) := by decide +kernel
theorem dX5_init_146 : decode cX5_init 146 = .ok (.dup, 1) := by decide +kernel
theorem dX5_init_147 : decode cX5_init 147 = .ok (.invokespecial 44, 3) := by decide +kernel
theorem dX5_init_150 : decode cX5_init 150 = .ok (.aastore, 1) := by decide +kernel
theorem dX5_init_151 : decode cX5_init 151 = .ok (.iinc 1 1, 3) := by decide +kernel
theorem dX5_init_154 : decode cX5_init 154 = .ok (.goto (-22), 3) := by decide +kernel
theorem dX5_init_157 : decode cX5_init 157 = .ok (.iconst 0, 1) := by decide +kernel
theorem dX5_init_158 : decode cX5_init 158 = .ok (.istore_n 1, 1) := by decide +kernel
theorem dX5_init_159 : decode cX5_init 159 = .ok (.iload_n 1, 1) := by decide +kernel
theorem dX5_init_160 : decode cX5_init 160 = .ok (.bipush 20, 2) := by decide +kernel
theorem dX5_init_162 : decode cX5_init 162 = .ok (.if_icmp .gt 22, 3) := by decide +kernel
theorem dX5_init_165 : decode cX5_init 165 = .ok (.aload_n 0, 1) := by decide +kernel
theorem dX5_init_166 : decode cX5_init 166 = .ok (.getfield 37, 3) := by decide +kernel
theorem dX5_init_169 : decode cX5_init 169 = .ok (.iload_n 1, 1) := by decide +kernel
theorem dX5_init_170 : decode cX5_init 170 = .ok (.new 35, 3) := by decide +kernel
theorem dX5_init_173 : decode cX5_init 173 = .ok (.dup, 1) := by decide +kernel
theorem dX5_init_174 : decode cX5_init 174 = .ok (.invokespecial 45, 3) := by decide +kernel
theorem dX5_init_177 : decode cX5_init 177 = .ok (.aastore, 1) := by decide +kernel
theorem dX5_init_178 : decode cX5_init 178 = .ok (.iinc 1 1, 3) := by decide +kernel
theorem dX5_init_181 : decode cX5_init 181 = .ok (.goto (-22), 3) := by decide +kernel
theorem dX5_init_184 : decode cX5_init 184 = .ok (.return_, 1) := by decide +kernel
theorem dX5_clear_0 : decode cX5_clear 0 = .ok (.aload_n 0, 1) := by decide +kernel
theorem dX5_clear_1 : decode cX5_clear 1 = .ok (.iconst 0, 1) := by decide +kernel
theorem dX5_clear_2 : decode cX5_clear 2 = .ok (.putfield 46, 3) := by decide +kernel
theorem dX5_clear_5 : decode cX5_clear 5 = .ok (.aload_n 0, 1) := by decide +kernel
theorem dX5_clear_6 : decode cX5_clear 6 = .ok (.iconst 0, 1) := by decide +kernel
theorem dX5_clear_7 : decode cX5_clear 7 = .ok (.putfield 50, 3) := by decide +kernel
theorem dX5_clear_10 : decode cX5_clear 10 = .ok (.aload_n 0, 1) := by decide +kernel
theorem dX5_clear_11 : decode cX5_clear 11 = .ok (.iconst 0, 1) := by decide +kernel
theorem dX5_clear_12 : decode cX5_clear 12 = .ok (.putfield 53, 3) := by decide +kernel
theorem dX5_clear_15 : decode cX5_clear 15 = .ok (.aload_n 0, 1) := by decide +kernel
theorem dX5_clear_16 : decode cX5_clear 16 = .ok (.iconst 0, 1) := by decide +kernel
theorem dX5_clear_17 : decode cX5_clear 17 = .ok (.putfield 56, 3) := by decide +kernel
theorem dX5_clear_20 : decode cX5_clear 20 = .ok (.aload_n 0, 1) := by decide +kernel
theorem dX5_clear_21 : decode cX5_clear 21 = .ok (.iconst 0, 1) := by decide +kernel
theorem dX5_clear_22 : decode cX5_clear 22 = .ok (.putfield 59, 3) := by decide +kernel
theorem dX5_clear_25 : decode cX5_clear 25 = .ok (.aload_n 0, 1) := by decide +kernel
theorem dX5_clear_26 : decode cX5_clear 26 = .ok (.iconst 0, 1) := by decide +kernel
theorem dX5_clear_27 : decode cX5_clear 27 = .ok (.putfield 62, 3) := by decide +kernel
theorem dX5_clear_30 : decode cX5_clear 30 = .ok (.aload_n 0, 1) := by decide +kernel
theorem dX5_clear_31 : decode cX5_clear 31 = .ok (.getfield 37, 3) := by decide +kernel
theorem dX5_clear_34 : decode cX5_clear 34 = .ok (.iconst 0, 1) := by decide +kernel
theorem dX5_clear_35 : decode cX5_clear 35 = .ok (.aaload, 1) := by decide +kernel
theorem dX5_clear_36 : decode cX5_clear 36 = .ok (.invokevirtual 65, 3) := by decide +kernel
theorem dX5_clear_39 : decode cX5_clear 39 = .ok (.return_, 1) := by decide +kernel
theorem dX5_copyFrom_0 : decode cX5_copyFrom 0 = .ok (.aload_n 0, 1) := by decide +kernel
theorem dX5_copyFrom_1 : decode cX5_copyFrom 1 = .ok (.aload_n 1, 1) := by decide +kernel
theorem dX5_copyFrom_2 : decode cX5_copyFrom 2 = .ok (.getfield 46, 3) := by decide +kernel
theorem dX5_copyFrom_5 : decode cX5_copyFrom 5 = .ok (.putfield 46, 3) := by decide +kernel
theorem dX5_copyFrom_8 : decode cX5_copyFrom 8 = .ok (.aload_n 0, 1) := by decide +kernel
theorem dX5_copyFrom_9 : decode cX5_copyFrom 9 = .ok (.aload_n 1, 1) := by decide +kernel
theorem dX5_copyFrom_10 : decode cX5_copyFrom 10 = .ok (.getfield 50, 3) := by decide +kernel
theorem dX5_copyFrom_13 : decode cX5_copyFrom 13 = .ok (.putfield 50, 3) := by decide +kernel
theorem dX5_copyFrom_16 : decode cX5_copyFrom 16 = .ok (.aload_n 0, 1) := by decide +kernel
theorem dX5_copyFrom_17 : decode cX5_copyFrom 17 = .ok (.aload_n 1, 1) := by decide +kernel
theorem dX5_copyFrom_18 : decode cX5_copyFrom 18 = .ok (.getfield 53, 3) := by decide +kernel
theorem dX5_copyFrom_21 : decode cX5_copyFrom 21 = .ok (.putfield 53, 3) := by decide +kernel
theorem dX5_copyFrom_24 : decode cX5_copyFrom 24 = .ok (.aload_n 0, 1) := by decide +kernel
theorem dX5_copyFrom_25 : decode cX5_copyFrom 25 = .ok (.aload_n 1, 1) := by decide +kernel
theorem dX5_copyFrom_26 : decode cX5_copyFrom 26 = .ok (.getfield 56, 3) := by decide +kernel
theorem dX5_copyFrom_29 : decode cX5_copyFrom 29 = .ok (.putfield 56, 3) := by decide +kernel
theorem dX5_copyFrom_32 : decode cX5_copyFrom 32 = .ok (.aload_n 0, 1) := by decide +kernel
theorem dX5_copyFrom_33 : decode cX5_copyFrom 33 = .ok (.aload_n 1, 1) := by decide +kernel
theorem dX5_copyFrom_34 : decode cX5_copyFrom 34 = .ok (.getfield 59, 3) := by decide +kernel
theorem dX5_copyFrom_37 : decode cX5_copyFrom 37 = .ok (.putfield 59, 3) := by decide +kernel
theorem dX5_copyFrom_40 : decode cX5_copyFrom 40 = .ok (.aload_n 0, 1) := by decide +kernel
theorem dX5_copyFrom_41 : decode cX5_copyFrom 41 = .ok (.aload_n 1, 1) := by decide +kernel
theorem dX5_copyFrom_42 : decode cX5_copyFrom 42 = .ok (.getfield 62, 3) := by decide +kernel
theorem dX5_copyFrom_45 : decode cX5_copyFrom 45 = .ok (.putfield 62, 3) := by decide +kernel
theorem dX5_copyFrom_48 : decode cX5_copyFrom 48 = .ok (.iconst 0, 1) := by decide +kernel
theorem dX5_copyFrom_49 : decode cX5_copyFrom 49 = .ok (.istore_n 2, 1) := by decide +kernel
theorem dX5_copyFrom_50 : decode cX5_copyFrom 50 = .ok (.iload_n 2, 1) := by decide +kernel
theorem dX5_copyFrom_51 : decode cX5_copyFrom 51 = .ok (.aload_n 0, 1) := by decide +kernel
theorem dX5_copyFrom_52 : decode cX5_copyFrom 52 = .ok (.getfield 46, 3) := by decide +kernel
theorem dX5_copyFrom_55 : decode cX5_copyFrom 55 = .ok (.if_icmp .ge 24, 3) := by decide +kernel
theorem dX5_copyFrom_58 : decode cX5_copyFrom 58 = .ok (.aload_n 0, 1) := by decide +kernel
theorem dX5_copyFrom_59 : decode cX5_copyFrom 59 = .ok (.getfield 11, 3) := by decide +kernel
theorem dX5_copyFrom_62 : decode cX5_copyFrom 62 = .ok (.iload_n 2, 1) := by decide +kernel
theorem dX5_copyFrom_63 : decode cX5_copyFrom 63 = .ok (.aaload, 1) := by decide +kernel
theorem dX5_copyFrom_64 : decode cX5_copyFrom 64 = .ok (.aload_n 1, 1) := by decide +kernel
theorem dX5_copyFrom_65 : decode cX5_copyFrom 65 = .ok (.getfield 11, 3) := by decide +kernel
theorem dX5_copyFrom_68 : decode cX5_copyFrom 68 = .ok (.iload_n 2, 1) := by decide +kernel
theorem dX5_copyFrom_69 : decode cX5_copyFrom 69 = .ok (.aaload, 1) := by decide +kernel
theorem dX5_copyFrom_70 : decode cX5_copyFrom 70 = .ok (.invokevirtual 68, 3) := by decide +kernel
theorem dX5_copyFrom_73 : decode cX5_copyFrom 73 = .ok (.iinc 2 1, 3) := by decide +kernel
theorem dX5_copyFrom_76 : decode cX5_copyFrom 76 = .ok (.goto (-26), 3) := by decide +kernel
theorem dX5_copyFrom_79 : decode cX5_copyFrom 79 = .ok (.iconst 0, 1) := by decide +kernel
theorem dX5_copyFrom_80 : decode cX5_copyFrom 80 = .ok (.istore_n 2, 1) := by decide +kernel
theorem dX5_copyFrom_81 : decode cX5_copyFrom 81 = .ok (.iload_n 2, 1) := by decide +kernel
theorem dX5_copyFrom_82 : decode cX5_copyFrom 82 = .ok (.aload_n 0, 1) := by decide +kernel
theorem dX5_copyFrom_83 : decode cX5_copyFrom 83 = .ok (.getfield 50, 3) := by decide +kernel
theorem dX5_copyFrom_86 : decode cX5_copyFrom 86 = .ok (.if_icmp .ge 24, 3) := by decide +kernel
theorem dX5_copyFrom_89 : decode cX5_copyFrom 89 = .ok (.aload_n 0, 1) := by decide +kernel
theorem dX5_copyFrom_90 : decode cX5_copyFrom 90 = .ok (.getfield 19, 3) := by decide +kernel
theorem dX5_copyFrom_93 : decode cX5_copyFrom 93 = .ok (.iload_n 2, 1) := by decide +kernel
theorem dX5_copyFrom_94 : decode cX5_copyFrom 94 = .ok (.aaload, 1) := by decide +kernel
theorem dX5_copyFrom_95 : decode cX5_copyFrom 95 = .ok (.aload_n 1, 1) := by decide +kernel
theorem dX5_copyFrom_96 : decode cX5_copyFrom 96 = .ok (.getfield 19, 3) := by decide +kernel
theorem dX5_copyFrom_99 : decode cX5_copyFrom 99 = .ok (.iload_n 2, 1) := by decide +kernel
theorem dX5_copyFrom_100 : decode cX5_copyFrom 100 = .ok (.aaload, 1) := by decide +kernel
theorem dX5_copyFrom_101 : decode cX5_copyFrom 101 = .ok (.invokevirtual 72, 3) := by decide +kernel
theorem dX5_copyFrom_104 : decode cX5_copyFrom 104 = .ok (.iinc 2 1, 3) := by decide +kernel
theorem dX5_copyFrom_107 : decode cX5_copyFrom 107 = .ok (.goto (-26), 3) := by decide +kernel
theorem dX5_copyFrom_110 : decode cX5_copyFrom 110 = .ok (.iconst 0, 1) := by decide +kernel
theorem dX5_copyFrom_111 : decode cX5_copyFrom 111 = .ok (.istore_n 2, 1) := by decide +kernel
theorem dX5_copyFrom_112 : decode cX5_copyFrom 112 = .ok (.iload_n 2, 1) := by decide +kernel
theorem dX5_copyFrom_113 : decode cX5_copyFrom 113 = .ok (.aload_n 0, 1) := by decide +kernel
theorem dX5_copyFrom_114 : decode cX5_copyFrom 114 = .ok (.getfield 53, 3) := by decide +kernel
theorem dX5_copyFrom_117 : decode cX5_copyFrom 117 = .ok (.if_icmp .ge 24, 3) := by decide +kernel
theorem dX5_copyFrom_120 : decode cX5_copyFrom 120 = .ok (.aload_n 0, 1) := by decide +kernel
theorem dX5_copyFrom_121 : decode cX5_copyFrom 121 = .ok (.getfield 25, 3) := by decide +kernel
theorem dX5_copyFrom_124 : decode cX5_copyFrom 124 = .ok (.iload_n 2, 1) := by decide +kernel
theorem dX5_copyFrom_125 : decode cX5_copyFrom 125 = .ok (.aaload, 1) := by decide +kernel
theorem dX5_copyFrom_126 : decode cX5_copyFrom 126 = .ok (.aload_n 1, 1) := by decide +kernel
theorem dX5_copyFrom_127 : decode cX5_copyFrom 127 = .ok (.getfield 25, 3) := by decide +kernel
theorem dX5_copyFrom_130 : decode cX5_copyFrom 130 = .ok (.iload_n 2, 1) := by decide +kernel
theorem dX5_copyFrom_131 : decode cX5_copyFrom 131 = .ok (.aaload, 1) := by decide +kernel
theorem dX5_copyFrom_132 : decode cX5_copyFrom 132 = .ok (.invokevirtual 75, 3) := by decide +kernel
theorem dX5_copyFrom_135 : decode cX5_copyFrom 135 = .ok (.iinc 2 1, 3) := by decide +kernel
theorem dX5_copyFrom_138 : decode cX5_copyFrom 138 = .ok (.goto (-26), 3) := by decide +kernel
theorem dX5_copyFrom_141 : decode cX5_copyFrom 141 = .ok (.iconst 0, 1) := by decide +kernel
theorem dX5_copyFrom_142 : decode cX5_copyFrom 142 = .ok (.istore_n 2, 1) := by decide +kernel
theorem dX5_copyFrom_143 : decode cX5_copyFrom 143 = .ok (.iload_n 2, 1) := by decide +kernel
theorem dX5_copyFrom_144 : decode cX5_copyFrom 144 = .ok (.aload_n 0, 1) := by decide +kernel
theorem dX5_copyFrom_145 : decode cX5_copyFrom 145 = .ok (.getfield 56, 3) := by decide +kernel
theorem dX5_copyFrom_148 : decode cX5_copyFrom 148 = .ok (.if_icmp .ge 24, 3) := by decide +kernel
theorem dX5_copyFrom_151 : decode cX5_copyFrom 151 = .ok (.aload_n 0, 1) := by decide +kernel
theorem dX5_copyFrom_152 : decode cX5_copyFrom 152 = .ok (.getfield 31, 3) := by decide +kernel
theorem dX5_copyFrom_155 : decode cX5_copyFrom 155 = .ok (.iload_n 2, 1) := by decide +kernel
theorem dX5_copyFrom_156 : decode cX5_copyFrom 156 = .ok (.aaload, 1) := by decide +kernel
theorem dX5_copyFrom_157 : decode cX5_copyFrom 157 = .ok (.aload_n 1, 1) := by decide +kernel
theorem dX5_copyFrom_158 : decode cX5_copyFrom 158 = .ok (.getfield 31, 3) := by decide +kernel
theorem dX5_copyFrom_161 : decode cX5_copyFrom 161 = .ok (.iload_n 2, 1) := by decide +kernel
theorem dX5_copyFrom_162 : decode cX5_copyFrom 162 = .ok (.aaload, 1) := by decide +kernel
theorem dX5_copyFrom_163 : decode cX5_copyFrom 163 = .ok (.invokevirtual 78, 3) := by decide +kernel
theorem dX5_copyFrom_166 : decode cX5_copyFrom 166 = .ok (.iinc 2 1, 3) := by decide +kernel
theorem dX5_copyFrom_169 : decode cX5_copyFrom 169 = .ok (.goto (-26), 3) := by decide +kernel
theorem dX5_copyFrom_172 : decode cX5_copyFrom 172 = .ok (.iconst 0, 1) := by decide +kernel
theorem dX5_copyFrom_173 : decode cX5_copyFrom 173 = .ok (.istore_n 2, 1) := by decide +kernel
theorem dX5_copyFrom_174 : decode cX5_copyFrom 174 = .ok (.iload_n 2, 1) := by decide +kernel
theorem dX5_copyFrom_175 : decode cX5_copyFrom 175 = .ok (.aload_n 0, 1) := by decide +kernel
theorem dX5_copyFrom_176 : decode cX5_copyFrom 176 = .ok (.getfield 59, 3) := by decide +kernel
theorem dX5_copyFrom_179 : decode cX5_copyFrom 179 = .ok (.if_icmp .gt 24, 3) := by decide +kernel
theorem dX5_copyFrom_182 : decode cX5_copyFrom 182 = .ok (.aload_n 0, 1) := by decide +kernel
theorem dX5_copyFrom_183 : decode cX5_copyFrom 183 = .ok (.getfield 37, 3) := by decide +kernel
theorem dX5_copyFrom_186 : decode cX5_copyFrom 186 = .ok (.iload_n 2, 1) := by decide +kernel
theorem dX5_copyFrom_187 : decode cX5_copyFrom 187 = .ok (.aaload, 1) := by decide +kernel
theorem dX5_copyFrom_188 : decode cX5_copyFrom 188 = .ok (.aload_n 1, 1) := by decide +kernel
theorem dX5_copyFrom_189 : decode cX5_copyFrom 189 = .ok (.getfield 37, 3) := by decide +kernel
theorem dX5_copyFrom_192 : decode cX5_copyFrom 192 = .ok (.iload_n 2, 1) := by decide +kernel
theorem dX5_copyFrom_193 : decode cX5_copyFrom 193 = .ok (.aaload, 1) := by decide +kernel
theorem dX5_copyFrom_194 : decode cX5_copyFrom 194 = .ok (.invokevirtual 81, 3) := by decide +kernel
theorem dX5_copyFrom_197 : decode cX5_copyFrom 197 = .ok (.iinc 2 1, 3) := by decide +kernel
theorem dX5_copyFrom_200 : decode cX5_copyFrom 200 = .ok (.goto (-26), 3) := by decide +kernel
theorem dX5_copyFrom_203 : decode cX5_copyFrom 203 = .ok (.return_, 1) := by decide +kernel
theorem dX5_present_0 : decode cX5_present 0 = .ok (.aload_n 0, 1) := by decide +kernel
theorem dX5_present_1 : decode cX5_present 1 = .ok (.getfield 37, 3) := by decide +kernel
theorem dX5_present_4 : decode cX5_present 4 = .ok (.aload_n 0, 1) := by decide +kernel
theorem dX5_present_5 : decode cX5_present 5 = .ok (.getfield 59, 3) := by decide +kernel
theorem dX5_present_8 : decode cX5_present 8 = .ok (.aaload, 1) := by decide +kernel
theorem dX5_present_9 : decode cX5_present 9 = .ok (.areturn, 1) := by decide +kernel
theorem dX5_newVersion_0 : decode cX5_newVersion 0 = .ok (.aload_n 0, 1) := by decide +kernel
theorem dX5_newVersion_1 : decode cX5_newVersion 1 = .ok (.invokevirtual 84, 3) := by decide +kernel
theorem dX5_newVersion_4 : decode cX5_newVersion 4 = .ok (.astore_n 1, 1) := by decide +kernel
theorem dX5_newVersion_5 : decode cX5_newVersion 5 = .ok (.aload_n 0, 1) := by decide +kernel
theorem dX5_newVersion_6 : decode cX5_newVersion 6 = .ok (.getfield 59, 3) := by decide +kernel
theorem dX5_newVersion_9 : decode cX5_newVersion 9 = .ok (.bipush 20, 2) := by decide +kernel
theorem dX5_newVersion_11 : decode cX5_newVersion 11 = .ok (.if_icmp .ge 13, 3) := by decide +kernel
theorem dX5_newVersion_14 : decode cX5_newVersion 14 = .ok (.aload_n 0, 1) := by decide +kernel
theorem dX5_newVersion_15 : decode cX5_newVersion 15 = .ok (.dup, 1) := by decide +kernel
theorem dX5_newVersion_16 : decode cX5_newVersion 16 = .ok (.getfield 59, 3) := by decide +kernel
theorem dX5_newVersion_19 : decode cX5_newVersion 19 = .ok (.iconst 1, 1) := by decide +kernel
theorem dX5_newVersion_20 : decode cX5_newVersion 20 = .ok (.iadd, 1) := by decide +kernel
theorem dX5_newVersion_21 : decode cX5_newVersion 21 = .ok (.putfield 59, 3) := by decide +kernel
theorem dX5_newVersion_24 : decode cX5_newVersion 24 = .ok (.aload_n 0, 1) := by decide +kernel
theorem dX5_newVersion_25 : decode cX5_newVersion 25 = .ok (.invokevirtual 84, 3) := by decide +kernel
theorem dX5_newVersion_28 : decode cX5_newVersion 28 = .ok (.aload_n 1, 1) := by decide +kernel
theorem dX5_newVersion_29 : decode cX5_newVersion 29 = .ok (.invokevirtual 81, 3) := by decide +kernel
theorem dX5_newVersion_32 : decode cX5_newVersion 32 = .ok (.aload_n 0, 1) := by decide +kernel
theorem dX5_newVersion_33 : decode cX5_newVersion 33 = .ok (.invokevirtual 84, 3) := by decide +kernel
theorem dX5_newVersion_36 : decode cX5_newVersion 36 = .ok (.areturn, 1) := by decide +kernel
theorem dX5_newShip_0 : decode cX5_newShip 0 = .ok (.aload_n 0, 1) := by decide +kernel
theorem dX5_newShip_1 : decode cX5_newShip 1 = .ok (.getfield 11, 3) := by decide +kernel
theorem dX5_newShip_4 : decode cX5_newShip 4 = .ok (.aload_n 0, 1) := by decide +kernel
theorem dX5_newShip_5 : decode cX5_newShip 5 = .ok (.getfield 46, 3) := by decide +kernel
theorem dX5_newShip_8 : decode cX5_newShip 8 = .ok (.aaload, 1) := by decide +kernel
theorem dX5_newShip_9 : decode cX5_newShip 9 = .ok (.astore 5, 2) := by decide +kernel
theorem dX5_newShip_11 : decode cX5_newShip 11 = .ok (.aload 5, 2) := by decide +kernel
theorem dX5_newShip_13 : decode cX5_newShip 13 = .ok (.aload_n 1, 1) := by decide +kernel
theorem dX5_newShip_14 : decode cX5_newShip 14 = .ok (.iload_n 2, 1) := by decide +kernel
theorem dX5_newShip_15 : decode cX5_newShip 15 = .ok (.iload_n 3, 1) := by decide +kernel
theorem dX5_newShip_16 : decode cX5_newShip 16 = .ok (.invokevirtual 88, 3) := by decide +kernel
theorem dX5_newShip_19 : decode cX5_newShip 19 = .ok (.aload 5, 2) := by decide +kernel
theorem dX5_newShip_21 : decode cX5_newShip 21 = .ok (.iload 4, 2) := by decide +kernel
theorem dX5_newShip_23 : decode cX5_newShip 23 = .ok (.putfield 92, 3) := by decide +kernel
theorem dX5_newShip_26 : decode cX5_newShip 26 = .ok (.aload 5, 2) := by decide +kernel
theorem dX5_newShip_28 : decode cX5_newShip 28 = .ok (.lconst 0, 1) := by decide +kernel
theorem dX5_newShip_29 : decode cX5_newShip 29 = .ok (.putfield 95, 3) := by decide +kernel
theorem dX5_newShip_32 : decode cX5_newShip 32 = .ok (.aload_n 0, 1) := by decide +kernel
theorem dX5_newShip_33 : decode cX5_newShip 33 = .ok (.dup, 1) := by decide +kernel
theorem dX5_newShip_34 : decode cX5_newShip 34 = .ok (.getfield 46, 3) := by decide +kernel
theorem dX5_newShip_37 : decode cX5_newShip 37 = .ok (.dup_x1, 1) := by decide +kernel
theorem dX5_newShip_38 : decode cX5_newShip 38 = .ok (.iconst 1, 1) := by decide +kernel
theorem dX5_newShip_39 : decode cX5_newShip 39 = .ok (.iadd, 1) := by decide +kernel
theorem dX5_newShip_40 : decode cX5_newShip 40 = .ok (.putfield 46, 3) := by decide +kernel
theorem dX5_newShip_43 : decode cX5_newShip 43 = .ok (.ireturn, 1) := by decide +kernel
theorem dX5_newCall_0 : decode cX5_newCall 0 = .ok (.aload_n 0, 1) := by decide +kernel
theorem dX5_newCall_1 : decode cX5_newCall 1 = .ok (.getfield 19, 3) := by decide +kernel
theorem dX5_newCall_4 : decode cX5_newCall 4 = .ok (.aload_n 0, 1) := by decide +kernel
theorem dX5_newCall_5 : decode cX5_newCall 5 = .ok (.getfield 50, 3) := by decide +kernel
theorem dX5_newCall_8 : decode cX5_newCall 8 = .ok (.aaload, 1) := by decide +kernel
theorem dX5_newCall_9 : decode cX5_newCall 9 = .ok (.astore 5, 2) := by decide +kernel
theorem dX5_newCall_11 : decode cX5_newCall 11 = .ok (.aload 5, 2) := by decide +kernel
theorem dX5_newCall_13 : decode cX5_newCall 13 = .ok (.iload_n 1, 1) := by decide +kernel
theorem dX5_newCall_14 : decode cX5_newCall 14 = .ok (.putfield 99, 3) := by decide +kernel
theorem dX5_newCall_17 : decode cX5_newCall 17 = .ok (.aload 5, 2) := by decide +kernel
theorem dX5_newCall_19 : decode cX5_newCall 19 = .ok (.iload_n 2, 1) := by decide +kernel
theorem dX5_newCall_20 : decode cX5_newCall 20 = .ok (.putfield 102, 3) := by decide +kernel
theorem dX5_newCall_23 : decode cX5_newCall 23 = .ok (.aload 5, 2) := by decide +kernel
theorem dX5_newCall_25 : decode cX5_newCall 25 = .ok (.iload_n 3, 1) := by decide +kernel
theorem dX5_newCall_26 : decode cX5_newCall 26 = .ok (.putfield 105, 3) := by decide +kernel
theorem dX5_newCall_29 : decode cX5_newCall 29 = .ok (.aload 5, 2) := by decide +kernel
theorem dX5_newCall_31 : decode cX5_newCall 31 = .ok (.iload 4, 2) := by decide +kernel
theorem dX5_newCall_33 : decode cX5_newCall 33 = .ok (.putfield 108, 3) := by decide +kernel
theorem dX5_newCall_36 : decode cX5_newCall 36 = .ok (.aload 5, 2) := by decide +kernel
theorem dX5_newCall_38 : decode cX5_newCall 38 = .ok (.iconst 0, 1) := by decide +kernel
theorem dX5_newCall_39 : decode cX5_newCall 39 = .ok (.putfield 111, 3) := by decide +kernel
theorem dX5_newCall_42 : decode cX5_newCall 42 = .ok (.aload 5, 2) := by decide +kernel
theorem dX5_newCall_44 : decode cX5_newCall 44 = .ok (.iconst 0, 1) := by decide +kernel
theorem dX5_newCall_45 : decode cX5_newCall 45 = .ok (.putfield 115, 3) := by decide +kernel
theorem dX5_newCall_48 : decode cX5_newCall 48 = .ok (.aload 5, 2) := by decide +kernel
theorem dX5_newCall_50 : decode cX5_newCall 50 = .ok (.iconst 0, 1) := by decide +kernel
theorem dX5_newCall_51 : decode cX5_newCall 51 = .ok (.putfield 118, 3) := by decide +kernel
theorem dX5_newCall_54 : decode cX5_newCall 54 = .ok (.aload_n 0, 1) := by decide +kernel
theorem dX5_newCall_55 : decode cX5_newCall 55 = .ok (.dup, 1) := by decide +kernel
theorem dX5_newCall_56 : decode cX5_newCall 56 = .ok (.getfield 50, 3) := by decide +kernel
theorem dX5_newCall_59 : decode cX5_newCall 59 = .ok (.dup_x1, 1) := by decide +kernel
theorem dX5_newCall_60 : decode cX5_newCall 60 = .ok (.iconst 1, 1) := by decide +kernel
theorem dX5_newCall_61 : decode cX5_newCall 61 = .ok (.iadd, 1) := by decide +kernel
theorem dX5_newCall_62 : decode cX5_newCall 62 = .ok (.putfield 50, 3) := by decide +kernel
theorem dX5_newCall_65 : decode cX5_newCall 65 = .ok (.ireturn, 1) := by decide +kernel
theorem dX5_shipNamed_0 : decode cX5_shipNamed 0 = .ok (.iconst 0, 1) := by decide +kernel
theorem dX5_shipNamed_1 : decode cX5_shipNamed 1 = .ok (.istore 4, 2) := by decide +kernel
theorem dX5_shipNamed_3 : decode cX5_shipNamed 3 = .ok (.iload 4, 2) := by decide +kernel
theorem dX5_shipNamed_5 : decode cX5_shipNamed 5 = .ok (.aload_n 0, 1) := by decide +kernel
theorem dX5_shipNamed_6 : decode cX5_shipNamed 6 = .ok (.getfield 46, 3) := by decide +kernel
theorem dX5_shipNamed_9 : decode cX5_shipNamed 9 = .ok (.if_icmp .ge 28, 3) := by decide +kernel
theorem dX5_shipNamed_12 : decode cX5_shipNamed 12 = .ok (.aload_n 0, 1) := by decide +kernel
theorem dX5_shipNamed_13 : decode cX5_shipNamed 13 = .ok (.getfield 11, 3) := by decide +kernel
theorem dX5_shipNamed_16 : decode cX5_shipNamed 16 = .ok (.iload 4, 2) := by decide +kernel
theorem dX5_shipNamed_18 : decode cX5_shipNamed 18 = .ok (.aaload, 1) := by decide +kernel
theorem dX5_shipNamed_19 : decode cX5_shipNamed 19 = .ok (.aload_n 1, 1) := by decide +kernel
theorem dX5_shipNamed_20 : decode cX5_shipNamed 20 = .ok (.iload_n 2, 1) := by decide +kernel
theorem dX5_shipNamed_21 : decode cX5_shipNamed 21 = .ok (.iload_n 3, 1) := by decide +kernel
theorem dX5_shipNamed_22 : decode cX5_shipNamed 22 = .ok (.invokevirtual 121, 3) := by decide +kernel
theorem dX5_shipNamed_25 : decode cX5_shipNamed 25 = .ok (.ifCond .eq 6, 3) := by decide +kernel
theorem dX5_shipNamed_28 : decode cX5_shipNamed 28 = .ok (.iload 4, 2) := by decide +kernel
theorem dX5_shipNamed_30 : decode cX5_shipNamed 30 = .ok (.ireturn, 1) := by decide +kernel
theorem dX5_shipNamed_31 : decode cX5_shipNamed 31 = .ok (.iinc 4 1, 3) := by decide +kernel
theorem dX5_shipNamed_34 : decode cX5_shipNamed 34 = .ok (.goto (-31), 3) := by decide +kernel
theorem dX5_shipNamed_37 : decode cX5_shipNamed 37 = .ok (.iconst (-1), 1) := by decide +kernel
theorem dX5_shipNamed_38 : decode cX5_shipNamed 38 = .ok (.ireturn, 1) := by decide +kernel
theorem dX5_pendingDays_0 : decode cX5_pendingDays 0 = .ok (.iconst 0, 1) := by decide +kernel
theorem dX5_pendingDays_1 : decode cX5_pendingDays 1 = .ok (.istore_n 1, 1) := by decide +kernel
theorem dX5_pendingDays_2 : decode cX5_pendingDays 2 = .ok (.iconst 0, 1) := by decide +kernel
theorem dX5_pendingDays_3 : decode cX5_pendingDays 3 = .ok (.istore_n 2, 1) := by decide +kernel
theorem dX5_pendingDays_4 : decode cX5_pendingDays 4 = .ok (.iload_n 2, 1) := by decide +kernel
theorem dX5_pendingDays_5 : decode cX5_pendingDays 5 = .ok (.aload_n 0, 1) := by decide +kernel
theorem dX5_pendingDays_6 : decode cX5_pendingDays 6 = .ok (.getfield 50, 3) := by decide +kernel
theorem dX5_pendingDays_9 : decode cX5_pendingDays 9 = .ok (.if_icmp .ge 24, 3) := by decide +kernel
theorem dX5_pendingDays_12 : decode cX5_pendingDays 12 = .ok (.iload_n 1, 1) := by decide +kernel
theorem dX5_pendingDays_13 : decode cX5_pendingDays 13 = .ok (.aload_n 0, 1) := by decide +kernel
theorem dX5_pendingDays_14 : decode cX5_pendingDays 14 = .ok (.getfield 19, 3) := by decide +kernel
theorem dX5_pendingDays_17 : decode cX5_pendingDays 17 = .ok (.iload_n 2, 1) := by decide +kernel
theorem dX5_pendingDays_18 : decode cX5_pendingDays 18 = .ok (.aaload, 1) := by decide +kernel
theorem dX5_pendingDays_19 : decode cX5_pendingDays 19 = .ok (.getfield 115, 3) := by decide +kernel
theorem dX5_pendingDays_22 : decode cX5_pendingDays 22 = .ok (.invokestatic 125, 3) := by decide +kernel
theorem dX5_pendingDays_25 : decode cX5_pendingDays 25 = .ok (.iadd, 1) := by decide +kernel
theorem dX5_pendingDays_26 : decode cX5_pendingDays 26 = .ok (.istore_n 1, 1) := by decide +kernel
theorem dX5_pendingDays_27 : decode cX5_pendingDays 27 = .ok (.iinc 2 1, 3) := by decide +kernel
theorem dX5_pendingDays_30 : decode cX5_pendingDays 30 = .ok (.goto (-26), 3) := by decide +kernel
theorem dX5_pendingDays_33 : decode cX5_pendingDays 33 = .ok (.iload_n 1, 1) := by decide +kernel
theorem dX5_pendingDays_34 : decode cX5_pendingDays 34 = .ok (.ireturn, 1) := by decide +kernel
theorem dX5_callsLeft_0 : decode cX5_callsLeft 0 = .ok (.iconst 0, 1) := by decide +kernel
theorem dX5_callsLeft_1 : decode cX5_callsLeft 1 = .ok (.istore_n 2, 1) := by decide +kernel
theorem dX5_callsLeft_2 : decode cX5_callsLeft 2 = .ok (.iconst 0, 1) := by decide +kernel
theorem dX5_callsLeft_3 : decode cX5_callsLeft 3 = .ok (.istore_n 3, 1) := by decide +kernel
theorem dX5_callsLeft_4 : decode cX5_callsLeft 4 = .ok (.iload_n 3, 1) := by decide +kernel
theorem dX5_callsLeft_5 : decode cX5_callsLeft 5 = .ok (.aload_n 0, 1) := by decide +kernel
theorem dX5_callsLeft_6 : decode cX5_callsLeft 6 = .ok (.getfield 50, 3) := by decide +kernel
theorem dX5_callsLeft_9 : decode cX5_callsLeft 9 = .ok (.if_icmp .ge 37, 3) := by decide +kernel
theorem dX5_callsLeft_12 : decode cX5_callsLeft 12 = .ok (.aload_n 0, 1) := by decide +kernel
theorem dX5_callsLeft_13 : decode cX5_callsLeft 13 = .ok (.getfield 19, 3) := by decide +kernel
theorem dX5_callsLeft_16 : decode cX5_callsLeft 16 = .ok (.iload_n 3, 1) := by decide +kernel
theorem dX5_callsLeft_17 : decode cX5_callsLeft 17 = .ok (.aaload, 1) := by decide +kernel
theorem dX5_callsLeft_18 : decode cX5_callsLeft 18 = .ok (.getfield 99, 3) := by decide +kernel
theorem dX5_callsLeft_21 : decode cX5_callsLeft 21 = .ok (.iload_n 1, 1) := by decide +kernel
theorem dX5_callsLeft_22 : decode cX5_callsLeft 22 = .ok (.if_icmp .ne 18, 3) := by decide +kernel
theorem dX5_callsLeft_25 : decode cX5_callsLeft 25 = .ok (.aload_n 0, 1) := by decide +kernel
theorem dX5_callsLeft_26 : decode cX5_callsLeft 26 = .ok (.getfield 19, 3) := by decide +kernel
theorem dX5_callsLeft_29 : decode cX5_callsLeft 29 = .ok (.iload_n 3, 1) := by decide +kernel
theorem dX5_callsLeft_30 : decode cX5_callsLeft 30 = .ok (.aaload, 1) := by decide +kernel
theorem dX5_callsLeft_31 : decode cX5_callsLeft 31 = .ok (.getfield 111, 3) := by decide +kernel
theorem dX5_callsLeft_34 : decode cX5_callsLeft 34 = .ok (.ifCond .ne 6, 3) := by decide +kernel
theorem dX5_callsLeft_37 : decode cX5_callsLeft 37 = .ok (.iinc 2 1, 3) := by decide +kernel
theorem dX5_callsLeft_40 : decode cX5_callsLeft 40 = .ok (.iinc 3 1, 3) := by decide +kernel
theorem dX5_callsLeft_43 : decode cX5_callsLeft 43 = .ok (.goto (-39), 3) := by decide +kernel
theorem dX5_callsLeft_46 : decode cX5_callsLeft 46 = .ok (.iload_n 2, 1) := by decide +kernel
theorem dX5_callsLeft_47 : decode cX5_callsLeft 47 = .ok (.ireturn, 1) := by decide +kernel
theorem dX5_callsInYear_0 : decode cX5_callsInYear 0 = .ok (.iload_n 2, 1) := by decide +kernel
theorem dX5_callsInYear_1 : decode cX5_callsInYear 1 = .ok (.sipush 360, 3) := by decide +kernel
theorem dX5_callsInYear_4 : decode cX5_callsInYear 4 = .ok (.imul, 1) := by decide +kernel
theorem dX5_callsInYear_5 : decode cX5_callsInYear 5 = .ok (.sipush 360, 3) := by decide +kernel
theorem dX5_callsInYear_8 : decode cX5_callsInYear 8 = .ok (.iadd, 1) := by decide +kernel
theorem dX5_callsInYear_9 : decode cX5_callsInYear 9 = .ok (.iconst 1, 1) := by decide +kernel
theorem dX5_callsInYear_10 : decode cX5_callsInYear 10 = .ok (.isub, 1) := by decide +kernel
theorem dX5_callsInYear_11 : decode cX5_callsInYear 11 = .ok (.istore_n 3, 1) := by decide +kernel
theorem dX5_callsInYear_12 : decode cX5_callsInYear 12 = .ok (.aload_n 0, 1) := by decide +kernel
theorem dX5_callsInYear_13 : decode cX5_callsInYear 13 = .ok (.iload_n 1, 1) := by decide +kernel
theorem dX5_callsInYear_14 : decode cX5_callsInYear 14 = .ok (.iload_n 3, 1) := by decide +kernel
theorem dX5_callsInYear_15 : decode cX5_callsInYear 15 = .ok (.bipush 40, 2) := by decide +kernel
theorem dX5_callsInYear_17 : decode cX5_callsInYear 17 = .ok (.invokevirtual 131, 3) := by decide +kernel
theorem dX5_callsInYear_20 : decode cX5_callsInYear 20 = .ok (.ireturn, 1) := by decide +kernel
theorem dX5_callsBefore_0 : decode cX5_callsBefore 0 = .ok (.iload_n 2, 1) := by decide +kernel
theorem dX5_callsBefore_1 : decode cX5_callsBefore 1 = .ok (.sipush 360, 3) := by decide +kernel
theorem dX5_callsBefore_4 : decode cX5_callsBefore 4 = .ok (.idiv, 1) := by decide +kernel
theorem dX5_callsBefore_5 : decode cX5_callsBefore 5 = .ok (.sipush 360, 3) := by decide +kernel
theorem dX5_callsBefore_8 : decode cX5_callsBefore 8 = .ok (.imul, 1) := by decide +kernel
theorem dX5_callsBefore_9 : decode cX5_callsBefore 9 = .ok (.istore 4, 2) := by decide +kernel
theorem dX5_callsBefore_11 : decode cX5_callsBefore 11 = .ok (.iconst 0, 1) := by decide +kernel
theorem dX5_callsBefore_12 : decode cX5_callsBefore 12 = .ok (.istore 5, 2) := by decide +kernel
theorem dX5_callsBefore_14 : decode cX5_callsBefore 14 = .ok (.iconst 0, 1) := by decide +kernel
theorem dX5_callsBefore_15 : decode cX5_callsBefore 15 = .ok (.istore 6, 2) := by decide +kernel
theorem dX5_callsBefore_17 : decode cX5_callsBefore 17 = .ok (.iload 6, 2) := by decide +kernel
theorem dX5_callsBefore_19 : decode cX5_callsBefore 19 = .ok (.aload_n 0, 1) := by decide +kernel
theorem dX5_callsBefore_20 : decode cX5_callsBefore 20 = .ok (.getfield 50, 3) := by decide +kernel
theorem dX5_callsBefore_23 : decode cX5_callsBefore 23 = .ok (.if_icmp .ge 84, 3) := by decide +kernel
theorem dX5_callsBefore_26 : decode cX5_callsBefore 26 = .ok (.aload_n 0, 1) := by decide +kernel
theorem dX5_callsBefore_27 : decode cX5_callsBefore 27 = .ok (.getfield 19, 3) := by decide +kernel
theorem dX5_callsBefore_30 : decode cX5_callsBefore 30 = .ok (.iload 6, 2) := by decide +kernel
theorem dX5_callsBefore_32 : decode cX5_callsBefore 32 = .ok (.aaload, 1) := by decide +kernel
theorem dX5_callsBefore_33 : decode cX5_callsBefore 33 = .ok (.astore 7, 2) := by decide +kernel
theorem dX5_callsBefore_35 : decode cX5_callsBefore 35 = .ok (.aload 7, 2) := by decide +kernel
theorem dX5_callsBefore_37 : decode cX5_callsBefore 37 = .ok (.getfield 102, 3) := by decide +kernel
theorem dX5_callsBefore_40 : decode cX5_callsBefore 40 = .ok (.iload_n 2, 1) := by decide +kernel
theorem dX5_callsBefore_41 : decode cX5_callsBefore 41 = .ok (.if_icmp .lt 18, 3) := by decide +kernel
theorem dX5_callsBefore_44 : decode cX5_callsBefore 44 = .ok (.aload 7, 2) := by decide +kernel
theorem dX5_callsBefore_46 : decode cX5_callsBefore 46 = .ok (.getfield 102, 3) := by decide +kernel
theorem dX5_callsBefore_49 : decode cX5_callsBefore 49 = .ok (.iload_n 2, 1) := by decide +kernel
theorem dX5_callsBefore_50 : decode cX5_callsBefore 50 = .ok (.if_icmp .ne 13, 3) := by decide +kernel
theorem dX5_callsBefore_53 : decode cX5_callsBefore 53 = .ok (.iload 6, 2) := by decide +kernel
theorem dX5_callsBefore_55 : decode cX5_callsBefore 55 = .ok (.iload_n 3, 1) := by decide +kernel
theorem dX5_callsBefore_56 : decode cX5_callsBefore 56 = .ok (.if_icmp .ge 7, 3) := by decide +kernel
theorem dX5_callsBefore_59 : decode cX5_callsBefore 59 = .ok (.iconst 1, 1) := by decide +kernel
theorem dX5_callsBefore_60 : decode cX5_callsBefore 60 = .ok (.goto 4, 3) := by decide +kernel
theorem dX5_callsBefore_63 : decode cX5_callsBefore 63 = .ok (.iconst 0, 1) := by decide +kernel
theorem dX5_callsBefore_64 : decode cX5_callsBefore 64 = .ok (.istore 8, 2) := by decide +kernel
theorem dX5_callsBefore_66 : decode cX5_callsBefore 66 = .ok (.aload 7, 2) := by decide +kernel
theorem dX5_callsBefore_68 : decode cX5_callsBefore 68 = .ok (.getfield 99, 3) := by decide +kernel
theorem dX5_callsBefore_71 : decode cX5_callsBefore 71 = .ok (.iload_n 1, 1) := by decide +kernel
theorem dX5_callsBefore_72 : decode cX5_callsBefore 72 = .ok (.if_icmp .ne 29, 3) := by decide +kernel
theorem dX5_callsBefore_75 : decode cX5_callsBefore 75 = .ok (.aload 7, 2) := by decide +kernel
theorem dX5_callsBefore_77 : decode cX5_callsBefore 77 = .ok (.getfield 111, 3) := by decide +kernel
theorem dX5_callsBefore_80 : decode cX5_callsBefore 80 = .ok (.ifCond .ne 21, 3) := by decide +kernel
theorem dX5_callsBefore_83 : decode cX5_callsBefore 83 = .ok (.iload 8, 2) := by decide +kernel
theorem dX5_callsBefore_85 : decode cX5_callsBefore 85 = .ok (.ifCond .eq 16, 3) := by decide +kernel
theorem dX5_callsBefore_88 : decode cX5_callsBefore 88 = .ok (.aload 7, 2) := by decide +kernel
theorem dX5_callsBefore_90 : decode cX5_callsBefore 90 = .ok (.getfield 102, 3) := by decide +kernel
theorem dX5_callsBefore_93 : decode cX5_callsBefore 93 = .ok (.iload 4, 2) := by decide +kernel
theorem dX5_callsBefore_95 : decode cX5_callsBefore 95 = .ok (.if_icmp .lt 6, 3) := by decide +kernel
theorem dX5_callsBefore_98 : decode cX5_callsBefore 98 = .ok (.iinc 5 1, 3) := by decide +kernel
theorem dX5_callsBefore_101 : decode cX5_callsBefore 101 = .ok (.iinc 6 1, 3) := by decide +kernel
theorem dX5_callsBefore_104 : decode cX5_callsBefore 104 = .ok (.goto (-87), 3) := by decide +kernel
theorem dX5_callsBefore_107 : decode cX5_callsBefore 107 = .ok (.iload 5, 2) := by decide +kernel
theorem dX5_callsBefore_109 : decode cX5_callsBefore 109 = .ok (.ireturn, 1) := by decide +kernel
theorem dX5_rankOf_0 : decode cX5_rankOf 0 = .ok (.aload_n 0, 1) := by decide +kernel
theorem dX5_rankOf_1 : decode cX5_rankOf 1 = .ok (.getfield 19, 3) := by decide +kernel
theorem dX5_rankOf_4 : decode cX5_rankOf 4 = .ok (.iload_n 1, 1) := by decide +kernel
theorem dX5_rankOf_5 : decode cX5_rankOf 5 = .ok (.aaload, 1) := by decide +kernel
theorem dX5_rankOf_6 : decode cX5_rankOf 6 = .ok (.astore_n 2, 1) := by decide +kernel
theorem dX5_rankOf_7 : decode cX5_rankOf 7 = .ok (.aload_n 2, 1) := by decide +kernel
theorem dX5_rankOf_8 : decode cX5_rankOf 8 = .ok (.getfield 111, 3) := by decide +kernel
theorem dX5_rankOf_11 : decode cX5_rankOf 11 = .ok (.ifCond .eq 7, 3) := by decide +kernel
theorem dX5_rankOf_14 : decode cX5_rankOf 14 = .ok (.iconst 0, 1) := by decide +kernel
theorem dX5_rankOf_15 : decode cX5_rankOf 15 = .ok (.goto 18, 3) := by decide +kernel
theorem dX5_rankOf_18 : decode cX5_rankOf 18 = .ok (.iconst 1, 1) := by decide +kernel
theorem dX5_rankOf_19 : decode cX5_rankOf 19 = .ok (.aload_n 0, 1) := by decide +kernel
theorem dX5_rankOf_20 : decode cX5_rankOf 20 = .ok (.aload_n 2, 1) := by decide +kernel
theorem dX5_rankOf_21 : decode cX5_rankOf 21 = .ok (.getfield 99, 3) := by decide +kernel
theorem dX5_rankOf_24 : decode cX5_rankOf 24 = .ok (.aload_n 2, 1) := by decide +kernel
theorem dX5_rankOf_25 : decode cX5_rankOf 25 = .ok (.getfield 102, 3) := by decide +kernel
theorem dX5_rankOf_28 : decode cX5_rankOf 28 = .ok (.iload_n 1, 1) := by decide +kernel
theorem dX5_rankOf_29 : decode cX5_rankOf 29 = .ok (.invokevirtual 131, 3) := by decide +kernel
theorem dX5_rankOf_32 : decode cX5_rankOf 32 = .ok (.iadd, 1) := by decide +kernel
theorem dX5_rankOf_33 : decode cX5_rankOf 33 = .ok (.ireturn, 1) := by decide +kernel
theorem dX5_layDaysOf_0 : decode cX5_layDaysOf 0 = .ok (.aload_n 0, 1) := by decide +kernel
theorem dX5_layDaysOf_1 : decode cX5_layDaysOf 1 = .ok (.invokevirtual 84, 3) := by decide +kernel
theorem dX5_layDaysOf_4 : decode cX5_layDaysOf 4 = .ok (.aload_n 0, 1) := by decide +kernel
theorem dX5_layDaysOf_5 : decode cX5_layDaysOf 5 = .ok (.getfield 19, 3) := by decide +kernel
theorem dX5_layDaysOf_8 : decode cX5_layDaysOf 8 = .ok (.iload_n 1, 1) := by decide +kernel
theorem dX5_layDaysOf_9 : decode cX5_layDaysOf 9 = .ok (.aaload, 1) := by decide +kernel
theorem dX5_layDaysOf_10 : decode cX5_layDaysOf 10 = .ok (.invokevirtual 135, 3) := by decide +kernel
theorem dX5_layDaysOf_13 : decode cX5_layDaysOf 13 = .ok (.invokevirtual 139, 3) := by decide +kernel
theorem dX5_layDaysOf_16 : decode cX5_layDaysOf 16 = .ok (.ireturn, 1) := by decide +kernel
theorem dX5_lineAtRank_0 : decode cX5_lineAtRank 0 = .ok (.aload_n 0, 1) := by decide +kernel
theorem dX5_lineAtRank_1 : decode cX5_lineAtRank 1 = .ok (.getfield 19, 3) := by decide +kernel
theorem dX5_lineAtRank_4 : decode cX5_lineAtRank 4 = .ok (.iload_n 1, 1) := by decide +kernel
theorem dX5_lineAtRank_5 : decode cX5_lineAtRank 5 = .ok (.aaload, 1) := by decide +kernel
theorem dX5_lineAtRank_6 : decode cX5_lineAtRank 6 = .ok (.astore 5, 2) := by decide +kernel
theorem dX5_lineAtRank_8 : decode cX5_lineAtRank 8 = .ok (.aload_n 0, 1) := by decide +kernel
theorem dX5_lineAtRank_9 : decode cX5_lineAtRank 9 = .ok (.getfield 11, 3) := by decide +kernel
theorem dX5_lineAtRank_12 : decode cX5_lineAtRank 12 = .ok (.aload 5, 2) := by decide +kernel
theorem dX5_lineAtRank_14 : decode cX5_lineAtRank 14 = .ok (.getfield 99, 3) := by decide +kernel
theorem dX5_lineAtRank_17 : decode cX5_lineAtRank 17 = .ok (.aaload, 1) := by decide +kernel
theorem dX5_lineAtRank_18 : decode cX5_lineAtRank 18 = .ok (.getfield 92, 3) := by decide +kernel
theorem dX5_lineAtRank_21 : decode cX5_lineAtRank 21 = .ok (.istore 6, 2) := by decide +kernel
theorem dX5_lineAtRank_23 : decode cX5_lineAtRank 23 = .ok (.iload_n 2, 1) := by decide +kernel
theorem dX5_lineAtRank_24 : decode cX5_lineAtRank 24 = .ok (.tableswitch 54 0 2 #[28, 35, 44], 28) := by decide +kernel
theorem dX5_lineAtRank_52 : decode cX5_lineAtRank 52 = .ok (.aload_n 3, 1) := by decide +kernel
theorem dX5_lineAtRank_53 : decode cX5_lineAtRank 53 = .ok (.iload 6, 2) := by decide +kernel
theorem dX5_lineAtRank_55 : decode cX5_lineAtRank 55 = .ok (.invokevirtual 142, 3) := by decide +kernel
theorem dX5_lineAtRank_58 : decode cX5_lineAtRank 58 = .ok (.ireturn, 1) := by decide +kernel
theorem dX5_lineAtRank_59 : decode cX5_lineAtRank 59 = .ok (.aload_n 3, 1) := by decide +kernel
theorem dX5_lineAtRank_60 : decode cX5_lineAtRank 60 = .ok (.iload 6, 2) := by decide +kernel
theorem dX5_lineAtRank_62 : decode cX5_lineAtRank 62 = .ok (.iload 4, 2) := by decide +kernel
theorem dX5_lineAtRank_64 : decode cX5_lineAtRank 64 = .ok (.invokevirtual 145, 3) := by decide +kernel
theorem dX5_lineAtRank_67 : decode cX5_lineAtRank 67 = .ok (.ireturn, 1) := by decide +kernel
theorem dX5_lineAtRank_68 : decode cX5_lineAtRank 68 = .ok (.aload_n 3, 1) := by decide +kernel
theorem dX5_lineAtRank_69 : decode cX5_lineAtRank 69 = .ok (.aload 5, 2) := by decide +kernel
theorem dX5_lineAtRank_71 : decode cX5_lineAtRank 71 = .ok (.getfield 108, 3) := by decide +kernel
theorem dX5_lineAtRank_74 : decode cX5_lineAtRank 74 = .ok (.invokevirtual 149, 3) := by decide +kernel
theorem dX5_lineAtRank_77 : decode cX5_lineAtRank 77 = .ok (.ireturn, 1) := by decide +kernel
theorem dX5_lineAtRank_78 : decode cX5_lineAtRank 78 = .ok (.aload_n 3, 1) := by decide +kernel
theorem dX5_lineAtRank_79 : decode cX5_lineAtRank 79 = .ok (.getfield 152, 3) := by decide +kernel
theorem dX5_lineAtRank_82 : decode cX5_lineAtRank 82 = .ok (.aload_n 3, 1) := by decide +kernel
theorem dX5_lineAtRank_83 : decode cX5_lineAtRank 83 = .ok (.aload 5, 2) := by decide +kernel
theorem dX5_lineAtRank_85 : decode cX5_lineAtRank 85 = .ok (.invokevirtual 135, 3) := by decide +kernel
theorem dX5_lineAtRank_88 : decode cX5_lineAtRank 88 = .ok (.invokevirtual 139, 3) := by decide +kernel
theorem dX5_lineAtRank_91 : decode cX5_lineAtRank 91 = .ok (.aload 5, 2) := by decide +kernel
theorem dX5_lineAtRank_93 : decode cX5_lineAtRank 93 = .ok (.invokevirtual 155, 3) := by decide +kernel
theorem dX5_lineAtRank_96 : decode cX5_lineAtRank 96 = .ok (.iconst (-1), 1) := by decide +kernel
theorem dX5_lineAtRank_97 : decode cX5_lineAtRank 97 = .ok (.ixor, 1) := by decide +kernel
theorem dX5_lineAtRank_98 : decode cX5_lineAtRank 98 = .ok (.iand, 1) := by decide +kernel
theorem dX5_lineAtRank_99 : decode cX5_lineAtRank 99 = .ok (.invokestatic 125, 3) := by decide +kernel
theorem dX5_lineAtRank_102 : decode cX5_lineAtRank 102 = .ok (.imul, 1) := by decide +kernel
theorem dX5_lineAtRank_103 : decode cX5_lineAtRank 103 = .ok (.ireturn, 1) := by decide +kernel
theorem dX5_totalAtRank_0 : decode cX5_totalAtRank 0 = .ok (.iconst 0, 1) := by decide +kernel
theorem dX5_totalAtRank_1 : decode cX5_totalAtRank 1 = .ok (.istore_n 3, 1) := by decide +kernel
theorem dX5_totalAtRank_2 : decode cX5_totalAtRank 2 = .ok (.iconst 0, 1) := by decide +kernel
theorem dX5_totalAtRank_3 : decode cX5_totalAtRank 3 = .ok (.istore 4, 2) := by decide +kernel
theorem dX5_totalAtRank_5 : decode cX5_totalAtRank 5 = .ok (.iload 4, 2) := by decide +kernel
theorem dX5_totalAtRank_7 : decode cX5_totalAtRank 7 = .ok (.iconst 4, 1) := by decide +kernel
theorem dX5_totalAtRank_8 : decode cX5_totalAtRank 8 = .ok (.if_icmp .ge 24, 3) := by decide +kernel
theorem dX5_totalAtRank_11 : decode cX5_totalAtRank 11 = .ok (.iload_n 3, 1) := by decide +kernel
theorem dX5_totalAtRank_12 : decode cX5_totalAtRank 12 = .ok (.aload_n 0, 1) := by decide +kernel
theorem dX5_totalAtRank_13 : decode cX5_totalAtRank 13 = .ok (.iload_n 1, 1) := by decide +kernel
theorem dX5_totalAtRank_14 : decode cX5_totalAtRank 14 = .ok (.iload 4, 2) := by decide +kernel
theorem dX5_totalAtRank_16 : decode cX5_totalAtRank 16 = .ok (.aload_n 0, 1) := by decide +kernel
theorem dX5_totalAtRank_17 : decode cX5_totalAtRank 17 = .ok (.invokevirtual 84, 3) := by decide +kernel
theorem dX5_totalAtRank_20 : decode cX5_totalAtRank 20 = .ok (.iload_n 2, 1) := by decide +kernel
theorem dX5_totalAtRank_21 : decode cX5_totalAtRank 21 = .ok (.invokevirtual 158, 3) := by decide +kernel
theorem dX5_totalAtRank_24 : decode cX5_totalAtRank 24 = .ok (.iadd, 1) := by decide +kernel
theorem dX5_totalAtRank_25 : decode cX5_totalAtRank 25 = .ok (.istore_n 3, 1) := by decide +kernel
theorem dX5_totalAtRank_26 : decode cX5_totalAtRank 26 = .ok (.iinc 4 1, 3) := by decide +kernel
theorem dX5_totalAtRank_29 : decode cX5_totalAtRank 29 = .ok (.goto (-24), 3) := by decide +kernel
theorem dX5_totalAtRank_32 : decode cX5_totalAtRank 32 = .ok (.iload_n 3, 1) := by decide +kernel
theorem dX5_totalAtRank_33 : decode cX5_totalAtRank 33 = .ok (.ireturn, 1) := by decide +kernel
theorem dX6_init_0 : decode cX6_init 0 = .ok (.aload_n 0, 1) := by decide +kernel
theorem dX6_init_1 : decode cX6_init 1 = .ok (.invokespecial 1, 3) := by decide +kernel
theorem dX6_init_4 : decode cX6_init 4 = .ok (.return_, 1) := by decide +kernel
theorem dX6_copyFrom_0 : decode cX6_copyFrom 0 = .ok (.aload_n 0, 1) := by decide +kernel
theorem dX6_copyFrom_1 : decode cX6_copyFrom 1 = .ok (.aload_n 1, 1) := by decide +kernel
theorem dX6_copyFrom_2 : decode cX6_copyFrom 2 = .ok (.getfield 7, 3) := by decide +kernel
theorem dX6_copyFrom_5 : decode cX6_copyFrom 5 = .ok (.putfield 7, 3) := by decide +kernel
theorem dX6_copyFrom_8 : decode cX6_copyFrom 8 = .ok (.aload_n 0, 1) := by decide +kernel
theorem dX6_copyFrom_9 : decode cX6_copyFrom 9 = .ok (.aload_n 1, 1) := by decide +kernel
theorem dX6_copyFrom_10 : decode cX6_copyFrom 10 = .ok (.getfield 13, 3) := by decide +kernel
theorem dX6_copyFrom_13 : decode cX6_copyFrom 13 = .ok (.putfield 13, 3) := by decide +kernel
theorem dX6_copyFrom_16 : decode cX6_copyFrom 16 = .ok (.aload_n 0, 1) := by decide +kernel
theorem dX6_copyFrom_17 : decode cX6_copyFrom 17 = .ok (.aload_n 1, 1) := by decide +kernel
theorem dX6_copyFrom_18 : decode cX6_copyFrom 18 = .ok (.getfield 16, 3) := by decide +kernel
theorem dX6_copyFrom_21 : decode cX6_copyFrom 21 = .ok (.putfield 16, 3) := by decide +kernel
theorem dX6_copyFrom_24 : decode cX6_copyFrom 24 = .ok (.aload_n 0, 1) := by decide +kernel
theorem dX6_copyFrom_25 : decode cX6_copyFrom 25 = .ok (.aload_n 1, 1) := by decide +kernel
theorem dX6_copyFrom_26 : decode cX6_copyFrom 26 = .ok (.getfield 19, 3) := by decide +kernel
theorem dX6_copyFrom_29 : decode cX6_copyFrom 29 = .ok (.putfield 19, 3) := by decide +kernel
theorem dX6_copyFrom_32 : decode cX6_copyFrom 32 = .ok (.return_, 1) := by decide +kernel
theorem dX7_init_0 : decode cX7_init 0 = .ok (.aload_n 0, 1) := by decide +kernel
theorem dX7_init_1 : decode cX7_init 1 = .ok (.invokespecial 3, 3) := by decide +kernel
theorem dX7_init_4 : decode cX7_init 4 = .ok (.aload_n 0, 1) := by decide +kernel
theorem dX7_init_5 : decode cX7_init 5 = .ok (.iconst (-1), 1) := by decide +kernel
theorem dX7_init_6 : decode cX7_init 6 = .ok (.putfield 9, 3) := by decide +kernel
theorem dX7_init_9 : decode cX7_init 9 = .ok (.aload_n 0, 1) := by decide +kernel
theorem dX7_init_10 : decode cX7_init 10 = .ok (.aload_n 1, 1) := by decide +kernel
theorem dX7_init_11 : decode cX7_init 11 = .ok (.putfield 15, 3) := by decide +kernel
theorem dX7_init_14 : decode cX7_init 14 = .ok (.aload_n 0, 1) := by decide +kernel
theorem dX7_init_15 : decode cX7_init 15 = .ok (.aload_n 2, 1) := by decide +kernel
theorem dX7_init_16 : decode cX7_init 16 = .ok (.putfield 19, 3) := by decide +kernel
theorem dX7_init_19 : decode cX7_init 19 = .ok (.return_, 1) := by decide +kernel
theorem dX7_parseText_0 : decode cX7_parseText 0 = .ok (.aload_n 0, 1) := by decide +kernel
theorem dX7_parseText_1 : decode cX7_parseText 1 = .ok (.getfield 19, 3) := by decide +kernel
theorem dX7_parseText_4 : decode cX7_parseText 4 = .ok (.invokevirtual 23, 3) := by decide +kernel
theorem dX7_parseText_7 : decode cX7_parseText 7 = .ok (.aload_n 0, 1) := by decide +kernel
theorem dX7_parseText_8 : decode cX7_parseText 8 = .ok (.iconst 0, 1) := by decide +kernel
theorem dX7_parseText_9 : decode cX7_parseText 9 = .ok (.putfield 28, 3) := by decide +kernel
theorem dX7_parseText_12 : decode cX7_parseText 12 = .ok (.aload_n 0, 1) := by decide +kernel
theorem dX7_parseText_13 : decode cX7_parseText 13 = .ok (.iconst 0, 1) := by decide +kernel
theorem dX7_parseText_14 : decode cX7_parseText 14 = .ok (.putfield 32, 3) := by decide +kernel
theorem dX7_parseText_17 : decode cX7_parseText 17 = .ok (.aload_n 0, 1) := by decide +kernel
theorem dX7_parseText_18 : decode cX7_parseText 18 = .ok (.iconst 0, 1) := by decide +kernel
theorem dX7_parseText_19 : decode cX7_parseText 19 = .ok (.putfield 35, 3) := by decide +kernel
theorem dX7_parseText_22 : decode cX7_parseText 22 = .ok (.aload_n 0, 1) := by decide +kernel
theorem dX7_parseText_23 : decode cX7_parseText 23 = .ok (.iconst 0, 1) := by decide +kernel
theorem dX7_parseText_24 : decode cX7_parseText 24 = .ok (.putfield 38, 3) := by decide +kernel
theorem dX7_parseText_27 : decode cX7_parseText 27 = .ok (.aload_n 0, 1) := by decide +kernel
theorem dX7_parseText_28 : decode cX7_parseText 28 = .ok (.iconst (-1), 1) := by decide +kernel
theorem dX7_parseText_29 : decode cX7_parseText 29 = .ok (.putfield 9, 3) := by decide +kernel
theorem dX7_parseText_32 : decode cX7_parseText 32 = .ok (.aload_n 0, 1) := by decide +kernel
theorem dX7_parseText_33 : decode cX7_parseText 33 = .ok (.iconst 0, 1) := by decide +kernel
theorem dX7_parseText_34 : decode cX7_parseText 34 = .ok (.putfield 41, 3) := by decide +kernel
theorem dX7_parseText_37 : decode cX7_parseText 37 = .ok (.aload_n 0, 1) := by decide +kernel
theorem dX7_parseText_38 : decode cX7_parseText 38 = .ok (.invokevirtual 44, 3) := by decide +kernel
theorem dX7_parseText_41 : decode cX7_parseText 41 = .ok (.aload_n 0, 1) := by decide +kernel
theorem dX7_parseText_42 : decode cX7_parseText 42 = .ok (.getfield 47, 3) := by decide +kernel
theorem dX7_parseText_45 : decode cX7_parseText 45 = .ok (.ifCond .ne 9, 3) := by decide +kernel
theorem dX7_parseText_48 : decode cX7_parseText 48 = .ok (.aload_n 0, 1) := by decide +kernel
theorem dX7_parseText_49 : decode cX7_parseText 49 = .ok (.iconst 1, 1) := by decide +kernel
theorem dX7_parseText_50 : decode cX7_parseText 50 = .ok (.invokevirtual 50, 3) := by decide +kernel
theorem dX7_parseText_53 : decode cX7_parseText 53 = .ok (.ireturn, 1) := by decide +kernel
theorem dX7_parseText_54 : decode cX7_parseText 54 = .ok (.iconst 0, 1) := by decide +kernel
theorem dX7_parseText_55 : decode cX7_parseText 55 = .ok (.istore_n 1, 1) := by decide +kernel
theorem dX7_parseText_56 : decode cX7_parseText 56 = .ok (.iload_n 1, 1) := by decide +kernel
theorem dX7_parseText_57 : decode cX7_parseText 57 = .ok (.sipush 800, 3) := by decide +kernel
theorem dX7_parseText_60 : decode cX7_parseText 60 = .ok (.if_icmp .ge 34, 3) := by decide +kernel
theorem dX7_parseText_63 : decode cX7_parseText 63 = .ok (.aload_n 0, 1) := by decide +kernel
theorem dX7_parseText_64 : decode cX7_parseText 64 = .ok (.getfield 47, 3) := by decide +kernel
theorem dX7_parseText_67 : decode cX7_parseText 67 = .ok (.ifCond .eq 27, 3) := by decide +kernel
theorem dX7_parseText_70 : decode cX7_parseText 70 = .ok (.aload_n 0, 1) := by decide +kernel
theorem dX7_parseText_71 : decode cX7_parseText 71 = .ok (.invokevirtual 54, 3) := by decide +kernel
theorem dX7_parseText_74 : decode cX7_parseText 74 = .ok (.ifCond .eq 12, 3) := by decide +kernel
theorem dX7_parseText_77 : decode cX7_parseText 77 = .ok (.aload_n 0, 1) := by decide +kernel
theorem dX7_parseText_78 : decode cX7_parseText 78 = .ok (.bipush 59, 2) := by decide +kernel
theorem dX7_parseText_80 : decode cX7_parseText 80 = .ok (.invokevirtual 58, 3) := by decide +kernel
theorem dX7_parseText_83 : decode cX7_parseText 83 = .ok (.ifCond .ne 5, 3) := by decide +kernel
theorem dX7_parseText_86 : decode cX7_parseText 86 = .ok (.iconst 0, 1) := by decide +kernel
theorem dX7_parseText_87 : decode cX7_parseText 87 = .ok (.ireturn, 1) := by decide +kernel
theorem dX7_parseText_88 : decode cX7_parseText 88 = .ok (.iinc 1 1, 3) := by decide +kernel
theorem dX7_parseText_91 : decode cX7_parseText 91 = .ok (.goto (-35), 3) := by decide +kernel
theorem dX7_parseText_94 : decode cX7_parseText 94 = .ok (.iconst 1, 1) := by decide +kernel
theorem dX7_parseText_95 : decode cX7_parseText 95 = .ok (.ireturn, 1) := by decide +kernel
theorem dX7_statement_0 : decode cX7_statement 0 = .ok (.aload_n 0, 1) := by decide +kernel
theorem dX7_statement_1 : decode cX7_statement 1 = .ok (.ldc 62, 2) := by decide +kernel
theorem dX7_statement_3 : decode cX7_statement 3 = .ok (.invokevirtual 64, 3) := by decide +kernel
theorem dX7_statement_6 : decode cX7_statement 6 = .ok (.ifCond .eq 9, 3) := by decide +kernel
theorem dX7_statement_9 : decode cX7_statement 9 = .ok (.aload_n 0, 1) := by decide +kernel
theorem dX7_statement_10 : decode cX7_statement 10 = .ok (.iconst 0, 1) := by decide +kernel
theorem dX7_statement_11 : decode cX7_statement 11 = .ok (.invokevirtual 68, 3) := by decide +kernel
theorem dX7_statement_14 : decode cX7_statement 14 = .ok (.ireturn, 1) := by decide +kernel
theorem dX7_statement_15 : decode cX7_statement 15 = .ok (.aload_n 0, 1) := by decide +kernel
theorem dX7_statement_16 : decode cX7_statement 16 = .ok (.ldc 72, 2) := by decide +kernel
theorem dX7_statement_18 : decode cX7_statement 18 = .ok (.invokevirtual 64, 3) := by decide +kernel
theorem dX7_statement_21 : decode cX7_statement 21 = .ok (.ifCond .eq 9, 3) := by decide +kernel
theorem dX7_statement_24 : decode cX7_statement 24 = .ok (.aload_n 0, 1) := by decide +kernel
theorem dX7_statement_25 : decode cX7_statement 25 = .ok (.iconst 1, 1) := by decide +kernel
theorem dX7_statement_26 : decode cX7_statement 26 = .ok (.invokevirtual 68, 3) := by decide +kernel
theorem dX7_statement_29 : decode cX7_statement 29 = .ok (.ireturn, 1) := by decide +kernel
theorem dX7_statement_30 : decode cX7_statement 30 = .ok (.aload_n 0, 1) := by decide +kernel
theorem dX7_statement_31 : decode cX7_statement 31 = .ok (.ldc 74, 2) := by decide +kernel
theorem dX7_statement_33 : decode cX7_statement 33 = .ok (.invokevirtual 64, 3) := by decide +kernel
theorem dX7_statement_36 : decode cX7_statement 36 = .ok (.ifCond .eq 15, 3) := by decide +kernel
theorem dX7_statement_39 : decode cX7_statement 39 = .ok (.aload_n 0, 1) := by decide +kernel
theorem dX7_statement_40 : decode cX7_statement 40 = .ok (.aload_n 0, 1) := by decide +kernel
theorem dX7_statement_41 : decode cX7_statement 41 = .ok (.getfield 19, 3) := by decide +kernel
theorem dX7_statement_44 : decode cX7_statement 44 = .ok (.invokevirtual 76, 3) := by decide +kernel
theorem dX7_statement_47 : decode cX7_statement 47 = .ok (.invokevirtual 80, 3) := by decide +kernel
theorem dX7_statement_50 : decode cX7_statement 50 = .ok (.ireturn, 1) := by decide +kernel
theorem dX7_statement_51 : decode cX7_statement 51 = .ok (.aload_n 0, 1) := by decide +kernel
theorem dX7_statement_52 : decode cX7_statement 52 = .ok (.ldc 84, 2) := by decide +kernel
theorem dX7_statement_54 : decode cX7_statement 54 = .ok (.invokevirtual 64, 3) := by decide +kernel
theorem dX7_statement_57 : decode cX7_statement 57 = .ok (.ifCond .eq 15, 3) := by decide +kernel
theorem dX7_statement_60 : decode cX7_statement 60 = .ok (.aload_n 0, 1) := by decide +kernel
theorem dX7_statement_61 : decode cX7_statement 61 = .ok (.aload_n 0, 1) := by decide +kernel
theorem dX7_statement_62 : decode cX7_statement 62 = .ok (.getfield 19, 3) := by decide +kernel
theorem dX7_statement_65 : decode cX7_statement 65 = .ok (.invokevirtual 76, 3) := by decide +kernel
theorem dX7_statement_68 : decode cX7_statement 68 = .ok (.invokevirtual 86, 3) := by decide +kernel
theorem dX7_statement_71 : decode cX7_statement 71 = .ok (.ireturn, 1) := by decide +kernel
theorem dX7_statement_72 : decode cX7_statement 72 = .ok (.aload_n 0, 1) := by decide +kernel
theorem dX7_statement_73 : decode cX7_statement 73 = .ok (.ldc 89, 2) := by decide +kernel
theorem dX7_statement_75 : decode cX7_statement 75 = .ok (.invokevirtual 64, 3) := by decide +kernel
theorem dX7_statement_78 : decode cX7_statement 78 = .ok (.ifCond .eq 15, 3) := by decide +kernel
theorem dX7_statement_81 : decode cX7_statement 81 = .ok (.aload_n 0, 1) := by decide +kernel
theorem dX7_statement_82 : decode cX7_statement 82 = .ok (.aload_n 0, 1) := by decide +kernel
theorem dX7_statement_83 : decode cX7_statement 83 = .ok (.getfield 19, 3) := by decide +kernel
theorem dX7_statement_86 : decode cX7_statement 86 = .ok (.invokevirtual 76, 3) := by decide +kernel
theorem dX7_statement_89 : decode cX7_statement 89 = .ok (.invokevirtual 91, 3) := by decide +kernel
theorem dX7_statement_92 : decode cX7_statement 92 = .ok (.ireturn, 1) := by decide +kernel
theorem dX7_statement_93 : decode cX7_statement 93 = .ok (.aload_n 0, 1) := by decide +kernel
theorem dX7_statement_94 : decode cX7_statement 94 = .ok (.ldc 94, 2) := by decide +kernel
theorem dX7_statement_96 : decode cX7_statement 96 = .ok (.invokevirtual 64, 3) := by decide +kernel
theorem dX7_statement_99 : decode cX7_statement 99 = .ok (.ifCond .eq 15, 3) := by decide +kernel
theorem dX7_statement_102 : decode cX7_statement 102 = .ok (.aload_n 0, 1) := by decide +kernel
theorem dX7_statement_103 : decode cX7_statement 103 = .ok (.aload_n 0, 1) := by decide +kernel
theorem dX7_statement_104 : decode cX7_statement 104 = .ok (.getfield 19, 3) := by decide +kernel
theorem dX7_statement_107 : decode cX7_statement 107 = .ok (.invokevirtual 76, 3) := by decide +kernel
theorem dX7_statement_110 : decode cX7_statement 110 = .ok (.invokevirtual 96, 3) := by decide +kernel
theorem dX7_statement_113 : decode cX7_statement 113 = .ok (.ireturn, 1) := by decide +kernel
theorem dX7_statement_114 : decode cX7_statement 114 = .ok (.aload_n 0, 1) := by decide +kernel
theorem dX7_statement_115 : decode cX7_statement 115 = .ok (.ldc 99, 2) := by decide +kernel
theorem dX7_statement_117 : decode cX7_statement 117 = .ok (.invokevirtual 64, 3) := by decide +kernel
theorem dX7_statement_120 : decode cX7_statement 120 = .ok (.ifCond .eq 8, 3) := by decide +kernel
theorem dX7_statement_123 : decode cX7_statement 123 = .ok (.aload_n 0, 1) := by decide +kernel
theorem dX7_statement_124 : decode cX7_statement 124 = .ok (.invokevirtual 101, 3) := by decide +kernel
theorem dX7_statement_127 : decode cX7_statement 127 = .ok (.ireturn, 1) := by decide +kernel
theorem dX7_statement_128 : decode cX7_statement 128 = .ok (.aload_n 0, 1) := by decide +kernel
theorem dX7_statement_129 : decode cX7_statement 129 = .ok (.ldc 104, 2) := by decide +kernel
theorem dX7_statement_131 : decode cX7_statement 131 = .ok (.invokevirtual 64, 3) := by decide +kernel
theorem dX7_statement_134 : decode cX7_statement 134 = .ok (.ifCond .eq 8, 3) := by decide +kernel
theorem dX7_statement_137 : decode cX7_statement 137 = .ok (.aload_n 0, 1) := by decide +kernel
theorem dX7_statement_138 : decode cX7_statement 138 = .ok (.invokevirtual 106, 3) := by decide +kernel
theorem dX7_statement_141 : decode cX7_statement 141 = .ok (.ireturn, 1) := by decide +kernel
theorem dX7_statement_142 : decode cX7_statement 142 = .ok (.aload_n 0, 1) := by decide +kernel
theorem dX7_statement_143 : decode cX7_statement 143 = .ok (.iconst 1, 1) := by decide +kernel
theorem dX7_statement_144 : decode cX7_statement 144 = .ok (.invokevirtual 50, 3) := by decide +kernel
theorem dX7_statement_147 : decode cX7_statement 147 = .ok (.ireturn, 1) := by decide +kernel
theorem dX7_modeStatement_0 : decode cX7_modeStatement 0 = .ok (.aload_n 0, 1) := by decide +kernel
theorem dX7_modeStatement_1 : decode cX7_modeStatement 1 = .ok (.getfield 28, 3) := by decide +kernel
theorem dX7_modeStatement_4 : decode cX7_modeStatement 4 = .ok (.ifCond .eq 9, 3) := by decide +kernel
theorem dX7_modeStatement_7 : decode cX7_modeStatement 7 = .ok (.aload_n 0, 1) := by decide +kernel
theorem dX7_modeStatement_8 : decode cX7_modeStatement 8 = .ok (.iconst 3, 1) := by decide +kernel
theorem dX7_modeStatement_9 : decode cX7_modeStatement 9 = .ok (.invokevirtual 50, 3) := by decide +kernel
theorem dX7_modeStatement_12 : decode cX7_modeStatement 12 = .ok (.ireturn, 1) := by decide +kernel
theorem dX7_modeStatement_13 : decode cX7_modeStatement 13 = .ok (.aload_n 0, 1) := by decide +kernel
theorem dX7_modeStatement_14 : decode cX7_modeStatement 14 = .ok (.iconst 1, 1) := by decide +kernel
theorem dX7_modeStatement_15 : decode cX7_modeStatement 15 = .ok (.putfield 28, 3) := by decide +kernel
theorem dX7_modeStatement_18 : decode cX7_modeStatement 18 = .ok (.aload_n 0, 1) := by decide +kernel
theorem dX7_modeStatement_19 : decode cX7_modeStatement 19 = .ok (.getfield 19, 3) := by decide +kernel
theorem dX7_modeStatement_22 : decode cX7_modeStatement 22 = .ok (.invokevirtual 76, 3) := by decide +kernel
theorem dX7_modeStatement_25 : decode cX7_modeStatement 25 = .ok (.iload_n 1, 1) := by decide +kernel
theorem dX7_modeStatement_26 : decode cX7_modeStatement 26 = .ok (.putfield 109, 3) := by decide +kernel
theorem dX7_modeStatement_29 : decode cX7_modeStatement 29 = .ok (.aload_n 0, 1) := by decide +kernel
theorem dX7_modeStatement_30 : decode cX7_modeStatement 30 = .ok (.invokevirtual 44, 3) := by decide +kernel
theorem dX7_modeStatement_33 : decode cX7_modeStatement 33 = .ok (.iconst 1, 1) := by decide +kernel
theorem dX7_modeStatement_34 : decode cX7_modeStatement 34 = .ok (.ireturn, 1) := by decide +kernel
theorem dX7_bandStatement_0 : decode cX7_bandStatement 0 = .ok (.aload_n 1, 1) := by decide +kernel
theorem dX7_bandStatement_1 : decode cX7_bandStatement 1 = .ok (.getfield 113, 3) := by decide +kernel
theorem dX7_bandStatement_4 : decode cX7_bandStatement 4 = .ok (.istore_n 2, 1) := by decide +kernel
theorem dX7_bandStatement_5 : decode cX7_bandStatement 5 = .ok (.iload_n 2, 1) := by decide +kernel
theorem dX7_bandStatement_6 : decode cX7_bandStatement 6 = .ok (.bipush 6, 2) := by decide +kernel
theorem dX7_bandStatement_8 : decode cX7_bandStatement 8 = .ok (.if_icmp .lt 9, 3) := by decide +kernel
theorem dX7_bandStatement_11 : decode cX7_bandStatement 11 = .ok (.aload_n 0, 1) := by decide +kernel
theorem dX7_bandStatement_12 : decode cX7_bandStatement 12 = .ok (.iconst 4, 1) := by decide +kernel
theorem dX7_bandStatement_13 : decode cX7_bandStatement 13 = .ok (.invokevirtual 50, 3) := by decide +kernel
theorem dX7_bandStatement_16 : decode cX7_bandStatement 16 = .ok (.ireturn, 1) := by decide +kernel
theorem dX7_bandStatement_17 : decode cX7_bandStatement 17 = .ok (.iload_n 2, 1) := by decide +kernel
theorem dX7_bandStatement_18 : decode cX7_bandStatement 18 = .ok (.ifCond .ne 7, 3) := by decide +kernel
theorem dX7_bandStatement_21 : decode cX7_bandStatement 21 = .ok (.iconst 0, 1) := by decide +kernel
theorem dX7_bandStatement_22 : decode cX7_bandStatement 22 = .ok (.goto 13, 3) := by decide +kernel
theorem dX7_bandStatement_25 : decode cX7_bandStatement 25 = .ok (.aload_n 1, 1) := by decide +kernel
theorem dX7_bandStatement_26 : decode cX7_bandStatement 26 = .ok (.getfield 116, 3) := by decide +kernel
theorem dX7_bandStatement_29 : decode cX7_bandStatement 29 = .ok (.iload_n 2, 1) := by decide +kernel
theorem dX7_bandStatement_30 : decode cX7_bandStatement 30 = .ok (.iconst 1, 1) := by decide +kernel
theorem dX7_bandStatement_31 : decode cX7_bandStatement 31 = .ok (.isub, 1) := by decide +kernel
theorem dX7_bandStatement_32 : decode cX7_bandStatement 32 = .ok (.iaload, 1) := by decide +kernel
theorem dX7_bandStatement_33 : decode cX7_bandStatement 33 = .ok (.iconst 1, 1) := by decide +kernel
theorem dX7_bandStatement_34 : decode cX7_bandStatement 34 = .ok (.iadd, 1) := by decide +kernel
theorem dX7_bandStatement_35 : decode cX7_bandStatement 35 = .ok (.istore_n 3, 1) := by decide +kernel
theorem dX7_bandStatement_36 : decode cX7_bandStatement 36 = .ok (.aload_n 0, 1) := by decide +kernel
theorem dX7_bandStatement_37 : decode cX7_bandStatement 37 = .ok (.invokevirtual 44, 3) := by decide +kernel
theorem dX7_bandStatement_40 : decode cX7_bandStatement 40 = .ok (.aload_n 0, 1) := by decide +kernel
theorem dX7_bandStatement_41 : decode cX7_bandStatement 41 = .ok (.iload_n 3, 1) := by decide +kernel
theorem dX7_bandStatement_42 : decode cX7_bandStatement 42 = .ok (.iload_n 2, 1) := by decide +kernel
theorem dX7_bandStatement_43 : decode cX7_bandStatement 43 = .ok (.ifCond .ne 7, 3) := by decide +kernel
theorem dX7_bandStatement_46 : decode cX7_bandStatement 46 = .ok (.iconst 0, 1) := by decide +kernel
theorem dX7_bandStatement_47 : decode cX7_bandStatement 47 = .ok (.goto 6, 3) := by decide +kernel
theorem dX7_bandStatement_50 : decode cX7_bandStatement 50 = .ok (.sipush 9999, 3) := by decide +kernel
theorem dX7_bandStatement_53 : decode cX7_bandStatement 53 = .ok (.invokevirtual 120, 3) := by decide +kernel
theorem dX7_bandStatement_56 : decode cX7_bandStatement 56 = .ok (.ifCond .ne 5, 3) := by decide +kernel
theorem dX7_bandStatement_59 : decode cX7_bandStatement 59 = .ok (.iconst 0, 1) := by decide +kernel
theorem dX7_bandStatement_60 : decode cX7_bandStatement 60 = .ok (.ireturn, 1) := by decide +kernel
theorem dX7_bandStatement_61 : decode cX7_bandStatement 61 = .ok (.aload_n 1, 1) := by decide +kernel
theorem dX7_bandStatement_62 : decode cX7_bandStatement 62 = .ok (.getfield 116, 3) := by decide +kernel
theorem dX7_bandStatement_65 : decode cX7_bandStatement 65 = .ok (.iload_n 2, 1) := by decide +kernel
theorem dX7_bandStatement_66 : decode cX7_bandStatement 66 = .ok (.aload_n 0, 1) := by decide +kernel
theorem dX7_bandStatement_67 : decode cX7_bandStatement 67 = .ok (.getfield 124, 3) := by decide +kernel
theorem dX7_bandStatement_70 : decode cX7_bandStatement 70 = .ok (.iastore, 1) := by decide +kernel
theorem dX7_bandStatement_71 : decode cX7_bandStatement 71 = .ok (.aload_n 0, 1) := by decide +kernel
theorem dX7_bandStatement_72 : decode cX7_bandStatement 72 = .ok (.ldc 127, 2) := by decide +kernel
theorem dX7_bandStatement_74 : decode cX7_bandStatement 74 = .ok (.invokevirtual 129, 3) := by decide +kernel
theorem dX7_bandStatement_77 : decode cX7_bandStatement 77 = .ok (.ifCond .eq 14, 3) := by decide +kernel
theorem dX7_bandStatement_80 : decode cX7_bandStatement 80 = .ok (.aload_n 0, 1) := by decide +kernel
theorem dX7_bandStatement_81 : decode cX7_bandStatement 81 = .ok (.iconst 0, 1) := by decide +kernel
theorem dX7_bandStatement_82 : decode cX7_bandStatement 82 = .ok (.sipush 999, 3) := by decide +kernel
theorem dX7_bandStatement_85 : decode cX7_bandStatement 85 = .ok (.invokevirtual 120, 3) := by decide +kernel
theorem dX7_bandStatement_88 : decode cX7_bandStatement 88 = .ok (.ifCond .ne 5, 3) := by decide +kernel
theorem dX7_bandStatement_91 : decode cX7_bandStatement 91 = .ok (.iconst 0, 1) := by decide +kernel
theorem dX7_bandStatement_92 : decode cX7_bandStatement 92 = .ok (.ireturn, 1) := by decide +kernel
theorem dX7_bandStatement_93 : decode cX7_bandStatement 93 = .ok (.aload_n 1, 1) := by decide +kernel
theorem dX7_bandStatement_94 : decode cX7_bandStatement 94 = .ok (.getfield 132, 3) := by decide +kernel
theorem dX7_bandStatement_97 : decode cX7_bandStatement 97 = .ok (.iload_n 2, 1) := by decide +kernel
theorem dX7_bandStatement_98 : decode cX7_bandStatement 98 = .ok (.aload_n 0, 1) := by decide +kernel
theorem dX7_bandStatement_99 : decode cX7_bandStatement 99 = .ok (.getfield 124, 3) := by decide +kernel
theorem dX7_bandStatement_102 : decode cX7_bandStatement 102 = .ok (.iastore, 1) := by decide +kernel
theorem dX7_bandStatement_103 : decode cX7_bandStatement 103 = .ok (.aload_n 1, 1) := by decide +kernel
theorem dX7_bandStatement_104 : decode cX7_bandStatement 104 = .ok (.dup, 1) := by decide +kernel
theorem dX7_bandStatement_105 : decode cX7_bandStatement 105 = .ok (.getfield 113, 3) := by decide +kernel
theorem dX7_bandStatement_108 : decode cX7_bandStatement 108 = .ok (.iconst 1, 1) := by decide +kernel
theorem dX7_bandStatement_109 : decode cX7_bandStatement 109 = .ok (.iadd, 1) := by decide +kernel
theorem dX7_bandStatement_110 : decode cX7_bandStatement 110 = .ok (.putfield 113, 3) := by decide +kernel
theorem dX7_bandStatement_113 : decode cX7_bandStatement 113 = .ok (.iconst 1, 1) := by decide +kernel
theorem dX7_bandStatement_114 : decode cX7_bandStatement 114 = .ok (.ireturn, 1) := by decide +kernel
theorem dX7_rebateStatement_0 : decode cX7_rebateStatement 0 = .ok (.aload_n 1, 1) := by decide +kernel
theorem dX7_rebateStatement_1 : decode cX7_rebateStatement 1 = .ok (.getfield 135, 3) := by decide +kernel
theorem dX7_rebateStatement_4 : decode cX7_rebateStatement 4 = .ok (.istore_n 2, 1) := by decide +kernel
theorem dX7_rebateStatement_5 : decode cX7_rebateStatement 5 = .ok (.iload_n 2, 1) := by decide +kernel
theorem dX7_rebateStatement_6 : decode cX7_rebateStatement 6 = .ok (.iconst 4, 1) := by decide +kernel
theorem dX7_rebateStatement_7 : decode cX7_rebateStatement 7 = .ok (.if_icmp .lt 9, 3) := by decide +kernel
theorem dX7_rebateStatement_10 : decode cX7_rebateStatement 10 = .ok (.aload_n 0, 1) := by decide +kernel
theorem dX7_rebateStatement_11 : decode cX7_rebateStatement 11 = .ok (.iconst 4, 1) := by decide +kernel
theorem dX7_rebateStatement_12 : decode cX7_rebateStatement 12 = .ok (.invokevirtual 50, 3) := by decide +kernel
theorem dX7_rebateStatement_15 : decode cX7_rebateStatement 15 = .ok (.ireturn, 1) := by decide +kernel
theorem dX7_rebateStatement_16 : decode cX7_rebateStatement 16 = .ok (.iload_n 2, 1) := by decide +kernel
theorem dX7_rebateStatement_17 : decode cX7_rebateStatement 17 = .ok (.ifCond .ne 7, 3) := by decide +kernel
theorem dX7_rebateStatement_20 : decode cX7_rebateStatement 20 = .ok (.iconst 2, 1) := by decide +kernel
theorem dX7_rebateStatement_21 : decode cX7_rebateStatement 21 = .ok (.goto 13, 3) := by decide +kernel
theorem dX7_rebateStatement_24 : decode cX7_rebateStatement 24 = .ok (.aload_n 1, 1) := by decide +kernel
theorem dX7_rebateStatement_25 : decode cX7_rebateStatement 25 = .ok (.getfield 138, 3) := by decide +kernel
theorem dX7_rebateStatement_28 : decode cX7_rebateStatement 28 = .ok (.iload_n 2, 1) := by decide +kernel
theorem dX7_rebateStatement_29 : decode cX7_rebateStatement 29 = .ok (.iconst 1, 1) := by decide +kernel
theorem dX7_rebateStatement_30 : decode cX7_rebateStatement 30 = .ok (.isub, 1) := by decide +kernel
theorem dX7_rebateStatement_31 : decode cX7_rebateStatement 31 = .ok (.iaload, 1) := by decide +kernel
theorem dX7_rebateStatement_32 : decode cX7_rebateStatement 32 = .ok (.iconst 1, 1) := by decide +kernel
theorem dX7_rebateStatement_33 : decode cX7_rebateStatement 33 = .ok (.iadd, 1) := by decide +kernel
theorem dX7_rebateStatement_34 : decode cX7_rebateStatement 34 = .ok (.istore_n 3, 1) := by decide +kernel
theorem dX7_rebateStatement_35 : decode cX7_rebateStatement 35 = .ok (.aload_n 0, 1) := by decide +kernel
theorem dX7_rebateStatement_36 : decode cX7_rebateStatement 36 = .ok (.invokevirtual 44, 3) := by decide +kernel
theorem dX7_rebateStatement_39 : decode cX7_rebateStatement 39 = .ok (.aload_n 0, 1) := by decide +kernel
theorem dX7_rebateStatement_40 : decode cX7_rebateStatement 40 = .ok (.iload_n 3, 1) := by decide +kernel
theorem dX7_rebateStatement_41 : decode cX7_rebateStatement 41 = .ok (.bipush 99, 2) := by decide +kernel
theorem dX7_rebateStatement_43 : decode cX7_rebateStatement 43 = .ok (.invokevirtual 120, 3) := by decide +kernel
theorem dX7_rebateStatement_46 : decode cX7_rebateStatement 46 = .ok (.ifCond .ne 5, 3) := by decide +kernel
theorem dX7_rebateStatement_49 : decode cX7_rebateStatement 49 = .ok (.iconst 0, 1) := by decide +kernel
theorem dX7_rebateStatement_50 : decode cX7_rebateStatement 50 = .ok (.ireturn, 1) := by decide +kernel
theorem dX7_rebateStatement_51 : decode cX7_rebateStatement 51 = .ok (.aload_n 1, 1) := by decide +kernel
theorem dX7_rebateStatement_52 : decode cX7_rebateStatement 52 = .ok (.getfield 138, 3) := by decide +kernel
theorem dX7_rebateStatement_55 : decode cX7_rebateStatement 55 = .ok (.iload_n 2, 1) := by decide +kernel
theorem dX7_rebateStatement_56 : decode cX7_rebateStatement 56 = .ok (.aload_n 0, 1) := by decide +kernel
theorem dX7_rebateStatement_57 : decode cX7_rebateStatement 57 = .ok (.getfield 124, 3) := by decide +kernel
theorem dX7_rebateStatement_60 : decode cX7_rebateStatement 60 = .ok (.iastore, 1) := by decide +kernel
theorem dX7_rebateStatement_61 : decode cX7_rebateStatement 61 = .ok (.aload_n 0, 1) := by decide +kernel
theorem dX7_rebateStatement_62 : decode cX7_rebateStatement 62 = .ok (.ldc 141, 2) := by decide +kernel
theorem dX7_rebateStatement_64 : decode cX7_rebateStatement 64 = .ok (.invokevirtual 129, 3) := by decide +kernel
theorem dX7_rebateStatement_67 : decode cX7_rebateStatement 67 = .ok (.ifCond .eq 13, 3) := by decide +kernel
theorem dX7_rebateStatement_70 : decode cX7_rebateStatement 70 = .ok (.aload_n 0, 1) := by decide +kernel
theorem dX7_rebateStatement_71 : decode cX7_rebateStatement 71 = .ok (.iconst 0, 1) := by decide +kernel
theorem dX7_rebateStatement_72 : decode cX7_rebateStatement 72 = .ok (.bipush 100, 2) := by decide +kernel
theorem dX7_rebateStatement_74 : decode cX7_rebateStatement 74 = .ok (.invokevirtual 120, 3) := by decide +kernel
theorem dX7_rebateStatement_77 : decode cX7_rebateStatement 77 = .ok (.ifCond .ne 5, 3) := by decide +kernel
theorem dX7_rebateStatement_80 : decode cX7_rebateStatement 80 = .ok (.iconst 0, 1) := by decide +kernel
theorem dX7_rebateStatement_81 : decode cX7_rebateStatement 81 = .ok (.ireturn, 1) := by decide +kernel
theorem dX7_rebateStatement_82 : decode cX7_rebateStatement 82 = .ok (.aload_n 1, 1) := by decide +kernel
theorem dX7_rebateStatement_83 : decode cX7_rebateStatement 83 = .ok (.getfield 143, 3) := by decide +kernel
theorem dX7_rebateStatement_86 : decode cX7_rebateStatement 86 = .ok (.iload_n 2, 1) := by decide +kernel
theorem dX7_rebateStatement_87 : decode cX7_rebateStatement 87 = .ok (.aload_n 0, 1) := by decide +kernel
theorem dX7_rebateStatement_88 : decode cX7_rebateStatement 88 = .ok (.getfield 124, 3) := by decide +kernel
theorem dX7_rebateStatement_91 : decode cX7_rebateStatement 91 = .ok (.iastore, 1) := by decide +kernel
theorem dX7_rebateStatement_92 : decode cX7_rebateStatement 92 = .ok (.aload_n 1, 1) := by decide +kernel
theorem dX7_rebateStatement_93 : decode cX7_rebateStatement 93 = .ok (.dup, 1) := by decide +kernel
theorem dX7_rebateStatement_94 : decode cX7_rebateStatement 94 = .ok (.getfield 135, 3) := by decide +kernel
theorem dX7_rebateStatement_97 : decode cX7_rebateStatement 97 = .ok (.iconst 1, 1) := by decide +kernel
theorem dX7_rebateStatement_98 : decode cX7_rebateStatement 98 = .ok (.iadd, 1) := by decide +kernel
theorem dX7_rebateStatement_99 : decode cX7_rebateStatement 99 = .ok (.putfield 135, 3) := by decide +kernel
theorem dX7_rebateStatement_102 : decode cX7_rebateStatement 102 = .ok (.iconst 1, 1) := by decide +kernel
theorem dX7_rebateStatement_103 : decode cX7_rebateStatement 103 = .ok (.ireturn, 1) := by decide +kernel
theorem dX7_wasteStatement_0 : decode cX7_wasteStatement 0 = .ok (.aload_n 0, 1) := by decide +kernel
theorem dX7_wasteStatement_1 : decode cX7_wasteStatement 1 = .ok (.getfield 32, 3) := by decide +kernel
theorem dX7_wasteStatement_4 : decode cX7_wasteStatement 4 = .ok (.ifCond .eq 9, 3) := by decide +kernel
theorem dX7_wasteStatement_7 : decode cX7_wasteStatement 7 = .ok (.aload_n 0, 1) := by decide +kernel
theorem dX7_wasteStatement_8 : decode cX7_wasteStatement 8 = .ok (.iconst 3, 1) := by decide +kernel
theorem dX7_wasteStatement_9 : decode cX7_wasteStatement 9 = .ok (.invokevirtual 50, 3) := by decide +kernel
theorem dX7_wasteStatement_12 : decode cX7_wasteStatement 12 = .ok (.ireturn, 1) := by decide +kernel
theorem dX7_wasteStatement_13 : decode cX7_wasteStatement 13 = .ok (.aload_n 0, 1) := by decide +kernel
theorem dX7_wasteStatement_14 : decode cX7_wasteStatement 14 = .ok (.iconst 1, 1) := by decide +kernel
theorem dX7_wasteStatement_15 : decode cX7_wasteStatement 15 = .ok (.putfield 32, 3) := by decide +kernel
theorem dX7_wasteStatement_18 : decode cX7_wasteStatement 18 = .ok (.aload_n 0, 1) := by decide +kernel
theorem dX7_wasteStatement_19 : decode cX7_wasteStatement 19 = .ok (.invokevirtual 44, 3) := by decide +kernel
theorem dX7_wasteStatement_22 : decode cX7_wasteStatement 22 = .ok (.aload_n 0, 1) := by decide +kernel
theorem dX7_wasteStatement_23 : decode cX7_wasteStatement 23 = .ok (.ldc 146, 2) := by decide +kernel
theorem dX7_wasteStatement_25 : decode cX7_wasteStatement 25 = .ok (.invokevirtual 129, 3) := by decide +kernel
theorem dX7_wasteStatement_28 : decode cX7_wasteStatement 28 = .ok (.ifCond .eq 14, 3) := by decide +kernel
theorem dX7_wasteStatement_31 : decode cX7_wasteStatement 31 = .ok (.aload_n 0, 1) := by decide +kernel
theorem dX7_wasteStatement_32 : decode cX7_wasteStatement 32 = .ok (.iconst 0, 1) := by decide +kernel
theorem dX7_wasteStatement_33 : decode cX7_wasteStatement 33 = .ok (.sipush 9999, 3) := by decide +kernel
theorem dX7_wasteStatement_36 : decode cX7_wasteStatement 36 = .ok (.invokevirtual 120, 3) := by decide +kernel
theorem dX7_wasteStatement_39 : decode cX7_wasteStatement 39 = .ok (.ifCond .ne 5, 3) := by decide +kernel
theorem dX7_wasteStatement_42 : decode cX7_wasteStatement 42 = .ok (.iconst 0, 1) := by decide +kernel
theorem dX7_wasteStatement_43 : decode cX7_wasteStatement 43 = .ok (.ireturn, 1) := by decide +kernel
theorem dX7_wasteStatement_44 : decode cX7_wasteStatement 44 = .ok (.aload_n 1, 1) := by decide +kernel
theorem dX7_wasteStatement_45 : decode cX7_wasteStatement 45 = .ok (.aload_n 0, 1) := by decide +kernel
theorem dX7_wasteStatement_46 : decode cX7_wasteStatement 46 = .ok (.getfield 124, 3) := by decide +kernel
theorem dX7_wasteStatement_49 : decode cX7_wasteStatement 49 = .ok (.putfield 148, 3) := by decide +kernel
theorem dX7_wasteStatement_52 : decode cX7_wasteStatement 52 = .ok (.aload_n 0, 1) := by decide +kernel
theorem dX7_wasteStatement_53 : decode cX7_wasteStatement 53 = .ok (.ldc 151, 2) := by decide +kernel
theorem dX7_wasteStatement_55 : decode cX7_wasteStatement 55 = .ok (.invokevirtual 129, 3) := by decide +kernel
theorem dX7_wasteStatement_58 : decode cX7_wasteStatement 58 = .ok (.ifCond .eq 14, 3) := by decide +kernel
theorem dX7_wasteStatement_61 : decode cX7_wasteStatement 61 = .ok (.aload_n 0, 1) := by decide +kernel
theorem dX7_wasteStatement_62 : decode cX7_wasteStatement 62 = .ok (.iconst 0, 1) := by decide +kernel
theorem dX7_wasteStatement_63 : decode cX7_wasteStatement 63 = .ok (.sipush 999, 3) := by decide +kernel
theorem dX7_wasteStatement_66 : decode cX7_wasteStatement 66 = .ok (.invokevirtual 120, 3) := by decide +kernel
theorem dX7_wasteStatement_69 : decode cX7_wasteStatement 69 = .ok (.ifCond .ne 5, 3) := by decide +kernel
theorem dX7_wasteStatement_72 : decode cX7_wasteStatement 72 = .ok (.iconst 0, 1) := by decide +kernel
theorem dX7_wasteStatement_73 : decode cX7_wasteStatement 73 = .ok (.ireturn, 1) := by decide +kernel
theorem dX7_wasteStatement_74 : decode cX7_wasteStatement 74 = .ok (.aload_n 1, 1) := by decide +kernel
theorem dX7_wasteStatement_75 : decode cX7_wasteStatement 75 = .ok (.aload_n 0, 1) := by decide +kernel
theorem dX7_wasteStatement_76 : decode cX7_wasteStatement 76 = .ok (.getfield 124, 3) := by decide +kernel
theorem dX7_wasteStatement_79 : decode cX7_wasteStatement 79 = .ok (.putfield 153, 3) := by decide +kernel
theorem dX7_wasteStatement_82 : decode cX7_wasteStatement 82 = .ok (.aload_n 0, 1) := by decide +kernel
theorem dX7_wasteStatement_83 : decode cX7_wasteStatement 83 = .ok (.ldc 156, 2) := by decide +kernel
theorem dX7_wasteStatement_85 : decode cX7_wasteStatement 85 = .ok (.invokevirtual 129, 3) := by decide +kernel
theorem dX7_wasteStatement_88 : decode cX7_wasteStatement 88 = .ok (.ifCond .eq 14, 3) := by decide +kernel
theorem dX7_wasteStatement_91 : decode cX7_wasteStatement 91 = .ok (.aload_n 0, 1) := by decide +kernel
theorem dX7_wasteStatement_92 : decode cX7_wasteStatement 92 = .ok (.iconst 0, 1) := by decide +kernel
theorem dX7_wasteStatement_93 : decode cX7_wasteStatement 93 = .ok (.sipush 999, 3) := by decide +kernel
theorem dX7_wasteStatement_96 : decode cX7_wasteStatement 96 = .ok (.invokevirtual 120, 3) := by decide +kernel
theorem dX7_wasteStatement_99 : decode cX7_wasteStatement 99 = .ok (.ifCond .ne 5, 3) := by decide +kernel
theorem dX7_wasteStatement_102 : decode cX7_wasteStatement 102 = .ok (.iconst 0, 1) := by decide +kernel
theorem dX7_wasteStatement_103 : decode cX7_wasteStatement 103 = .ok (.ireturn, 1) := by decide +kernel
theorem dX7_wasteStatement_104 : decode cX7_wasteStatement 104 = .ok (.aload_n 1, 1) := by decide +kernel
theorem dX7_wasteStatement_105 : decode cX7_wasteStatement 105 = .ok (.aload_n 0, 1) := by decide +kernel
theorem dX7_wasteStatement_106 : decode cX7_wasteStatement 106 = .ok (.getfield 124, 3) := by decide +kernel
theorem dX7_wasteStatement_109 : decode cX7_wasteStatement 109 = .ok (.putfield 158, 3) := by decide +kernel
theorem dX7_wasteStatement_112 : decode cX7_wasteStatement 112 = .ok (.iconst 1, 1) := by decide +kernel
theorem dX7_wasteStatement_113 : decode cX7_wasteStatement 113 = .ok (.ireturn, 1) := by decide +kernel
theorem dX7_layStatement_0 : decode cX7_layStatement 0 = .ok (.aload_n 0, 1) := by decide +kernel
theorem dX7_layStatement_1 : decode cX7_layStatement 1 = .ok (.getfield 35, 3) := by decide +kernel
theorem dX7_layStatement_4 : decode cX7_layStatement 4 = .ok (.ifCond .eq 9, 3) := by decide +kernel
theorem dX7_layStatement_7 : decode cX7_layStatement 7 = .ok (.aload_n 0, 1) := by decide +kernel
theorem dX7_layStatement_8 : decode cX7_layStatement 8 = .ok (.iconst 3, 1) := by decide +kernel
theorem dX7_layStatement_9 : decode cX7_layStatement 9 = .ok (.invokevirtual 50, 3) := by decide +kernel
theorem dX7_layStatement_12 : decode cX7_layStatement 12 = .ok (.ireturn, 1) := by decide +kernel
theorem dX7_layStatement_13 : decode cX7_layStatement 13 = .ok (.aload_n 0, 1) := by decide +kernel
theorem dX7_layStatement_14 : decode cX7_layStatement 14 = .ok (.iconst 1, 1) := by decide +kernel
theorem dX7_layStatement_15 : decode cX7_layStatement 15 = .ok (.putfield 35, 3) := by decide +kernel
theorem dX7_layStatement_18 : decode cX7_layStatement 18 = .ok (.aload_n 0, 1) := by decide +kernel
theorem dX7_layStatement_19 : decode cX7_layStatement 19 = .ok (.invokevirtual 44, 3) := by decide +kernel
theorem dX7_layStatement_22 : decode cX7_layStatement 22 = .ok (.aload_n 0, 1) := by decide +kernel
theorem dX7_layStatement_23 : decode cX7_layStatement 23 = .ok (.ldc 151, 2) := by decide +kernel
theorem dX7_layStatement_25 : decode cX7_layStatement 25 = .ok (.invokevirtual 129, 3) := by decide +kernel
theorem dX7_layStatement_28 : decode cX7_layStatement 28 = .ok (.ifCond .eq 13, 3) := by decide +kernel
theorem dX7_layStatement_31 : decode cX7_layStatement 31 = .ok (.aload_n 0, 1) := by decide +kernel
theorem dX7_layStatement_32 : decode cX7_layStatement 32 = .ok (.iconst 0, 1) := by decide +kernel
theorem dX7_layStatement_33 : decode cX7_layStatement 33 = .ok (.bipush 30, 2) := by decide +kernel
theorem dX7_layStatement_35 : decode cX7_layStatement 35 = .ok (.invokevirtual 120, 3) := by decide +kernel
theorem dX7_layStatement_38 : decode cX7_layStatement 38 = .ok (.ifCond .ne 5, 3) := by decide +kernel
theorem dX7_layStatement_41 : decode cX7_layStatement 41 = .ok (.iconst 0, 1) := by decide +kernel
theorem dX7_layStatement_42 : decode cX7_layStatement 42 = .ok (.ireturn, 1) := by decide +kernel
theorem dX7_layStatement_43 : decode cX7_layStatement 43 = .ok (.aload_n 1, 1) := by decide +kernel
theorem dX7_layStatement_44 : decode cX7_layStatement 44 = .ok (.aload_n 0, 1) := by decide +kernel
theorem dX7_layStatement_45 : decode cX7_layStatement 45 = .ok (.getfield 124, 3) := by decide +kernel
theorem dX7_layStatement_48 : decode cX7_layStatement 48 = .ok (.putfield 161, 3) := by decide +kernel
theorem dX7_layStatement_51 : decode cX7_layStatement 51 = .ok (.aload_n 0, 1) := by decide +kernel
theorem dX7_layStatement_52 : decode cX7_layStatement 52 = .ok (.ldc 127, 2) := by decide +kernel
theorem dX7_layStatement_54 : decode cX7_layStatement 54 = .ok (.invokevirtual 129, 3) := by decide +kernel
theorem dX7_layStatement_57 : decode cX7_layStatement 57 = .ok (.ifCond .eq 14, 3) := by decide +kernel
theorem dX7_layStatement_60 : decode cX7_layStatement 60 = .ok (.aload_n 0, 1) := by decide +kernel
theorem dX7_layStatement_61 : decode cX7_layStatement 61 = .ok (.iconst 0, 1) := by decide +kernel
theorem dX7_layStatement_62 : decode cX7_layStatement 62 = .ok (.sipush 9999, 3) := by decide +kernel
theorem dX7_layStatement_65 : decode cX7_layStatement 65 = .ok (.invokevirtual 120, 3) := by decide +kernel
theorem dX7_layStatement_68 : decode cX7_layStatement 68 = .ok (.ifCond .ne 5, 3) := by decide +kernel
theorem dX7_layStatement_71 : decode cX7_layStatement 71 = .ok (.iconst 0, 1) := by decide +kernel
theorem dX7_layStatement_72 : decode cX7_layStatement 72 = .ok (.ireturn, 1) := by decide +kernel
theorem dX7_layStatement_73 : decode cX7_layStatement 73 = .ok (.aload_n 1, 1) := by decide +kernel
theorem dX7_layStatement_74 : decode cX7_layStatement 74 = .ok (.aload_n 0, 1) := by decide +kernel
theorem dX7_layStatement_75 : decode cX7_layStatement 75 = .ok (.getfield 124, 3) := by decide +kernel
theorem dX7_layStatement_78 : decode cX7_layStatement 78 = .ok (.putfield 164, 3) := by decide +kernel
theorem dX7_layStatement_81 : decode cX7_layStatement 81 = .ok (.iconst 1, 1) := by decide +kernel
theorem dX7_layStatement_82 : decode cX7_layStatement 82 = .ok (.ireturn, 1) := by decide +kernel
theorem dX7_shipStatement_0 : decode cX7_shipStatement 0 = .ok (.aload_n 0, 1) := by decide +kernel
theorem dX7_shipStatement_1 : decode cX7_shipStatement 1 = .ok (.getfield 19, 3) := by decide +kernel
theorem dX7_shipStatement_4 : decode cX7_shipStatement 4 = .ok (.getfield 167, 3) := by decide +kernel
theorem dX7_shipStatement_7 : decode cX7_shipStatement 7 = .ok (.bipush 8, 2) := by decide +kernel
theorem dX7_shipStatement_9 : decode cX7_shipStatement 9 = .ok (.if_icmp .lt 9, 3) := by decide +kernel
theorem dX7_shipStatement_12 : decode cX7_shipStatement 12 = .ok (.aload_n 0, 1) := by decide +kernel
theorem dX7_shipStatement_13 : decode cX7_shipStatement 13 = .ok (.iconst 4, 1) := by decide +kernel
theorem dX7_shipStatement_14 : decode cX7_shipStatement 14 = .ok (.invokevirtual 50, 3) := by decide +kernel
theorem dX7_shipStatement_17 : decode cX7_shipStatement 17 = .ok (.ireturn, 1) := by decide +kernel
theorem dX7_shipStatement_18 : decode cX7_shipStatement 18 = .ok (.aload_n 0, 1) := by decide +kernel
theorem dX7_shipStatement_19 : decode cX7_shipStatement 19 = .ok (.invokevirtual 44, 3) := by decide +kernel
theorem dX7_shipStatement_22 : decode cX7_shipStatement 22 = .ok (.aload_n 0, 1) := by decide +kernel
theorem dX7_shipStatement_23 : decode cX7_shipStatement 23 = .ok (.invokevirtual 170, 3) := by decide +kernel
theorem dX7_shipStatement_26 : decode cX7_shipStatement 26 = .ok (.ifCond .ne 9, 3) := by decide +kernel
theorem dX7_shipStatement_29 : decode cX7_shipStatement 29 = .ok (.aload_n 0, 1) := by decide +kernel
theorem dX7_shipStatement_30 : decode cX7_shipStatement 30 = .ok (.iconst 1, 1) := by decide +kernel
theorem dX7_shipStatement_31 : decode cX7_shipStatement 31 = .ok (.invokevirtual 50, 3) := by decide +kernel
theorem dX7_shipStatement_34 : decode cX7_shipStatement 34 = .ok (.ireturn, 1) := by decide +kernel
theorem dX7_shipStatement_35 : decode cX7_shipStatement 35 = .ok (.aload_n 0, 1) := by decide +kernel
theorem dX7_shipStatement_36 : decode cX7_shipStatement 36 = .ok (.getfield 19, 3) := by decide +kernel
theorem dX7_shipStatement_39 : decode cX7_shipStatement 39 = .ok (.aload_n 0, 1) := by decide +kernel
theorem dX7_shipStatement_40 : decode cX7_shipStatement 40 = .ok (.getfield 15, 3) := by decide +kernel
theorem dX7_shipStatement_43 : decode cX7_shipStatement 43 = .ok (.aload_n 0, 1) := by decide +kernel
theorem dX7_shipStatement_44 : decode cX7_shipStatement 44 = .ok (.getfield 173, 3) := by decide +kernel
theorem dX7_shipStatement_47 : decode cX7_shipStatement 47 = .ok (.aload_n 0, 1) := by decide +kernel
theorem dX7_shipStatement_48 : decode cX7_shipStatement 48 = .ok (.getfield 41, 3) := by decide +kernel
theorem dX7_shipStatement_51 : decode cX7_shipStatement 51 = .ok (.invokevirtual 176, 3) := by decide +kernel
theorem dX7_shipStatement_54 : decode cX7_shipStatement 54 = .ok (.iconst (-1), 1) := by decide +kernel
theorem dX7_shipStatement_55 : decode cX7_shipStatement 55 = .ok (.if_icmp .eq 9, 3) := by decide +kernel
theorem dX7_shipStatement_58 : decode cX7_shipStatement 58 = .ok (.aload_n 0, 1) := by decide +kernel
theorem dX7_shipStatement_59 : decode cX7_shipStatement 59 = .ok (.iconst 3, 1) := by decide +kernel
theorem dX7_shipStatement_60 : decode cX7_shipStatement 60 = .ok (.invokevirtual 50, 3) := by decide +kernel
theorem dX7_shipStatement_63 : decode cX7_shipStatement 63 = .ok (.ireturn, 1) := by decide +kernel
theorem dX7_shipStatement_64 : decode cX7_shipStatement 64 = .ok (.aload_n 0, 1) := by decide +kernel
theorem dX7_shipStatement_65 : decode cX7_shipStatement 65 = .ok (.getfield 173, 3) := by decide +kernel
theorem dX7_shipStatement_68 : decode cX7_shipStatement 68 = .ok (.istore_n 1, 1) := by decide +kernel
theorem dX7_shipStatement_69 : decode cX7_shipStatement 69 = .ok (.aload_n 0, 1) := by decide +kernel
theorem dX7_shipStatement_70 : decode cX7_shipStatement 70 = .ok (.getfield 41, 3) := by decide +kernel
theorem dX7_shipStatement_73 : decode cX7_shipStatement 73 = .ok (.istore_n 2, 1) := by decide +kernel
theorem dX7_shipStatement_74 : decode cX7_shipStatement 74 = .ok (.aload_n 0, 1) := by decide +kernel
theorem dX7_shipStatement_75 : decode cX7_shipStatement 75 = .ok (.invokevirtual 44, 3) := by decide +kernel
theorem dX7_shipStatement_78 : decode cX7_shipStatement 78 = .ok (.aload_n 0, 1) := by decide +kernel
theorem dX7_shipStatement_79 : decode cX7_shipStatement 79 = .ok (.ldc 180, 2) := by decide +kernel
theorem dX7_shipStatement_81 : decode cX7_shipStatement 81 = .ok (.invokevirtual 129, 3) := by decide +kernel
theorem dX7_shipStatement_84 : decode cX7_shipStatement 84 = .ok (.ifCond .eq 14, 3) := by decide +kernel
theorem dX7_shipStatement_87 : decode cX7_shipStatement 87 = .ok (.aload_n 0, 1) := by decide +kernel
theorem dX7_shipStatement_88 : decode cX7_shipStatement 88 = .ok (.iconst 1, 1) := by decide +kernel
theorem dX7_shipStatement_89 : decode cX7_shipStatement 89 = .ok (.sipush 9999, 3) := by decide +kernel
theorem dX7_shipStatement_92 : decode cX7_shipStatement 92 = .ok (.invokevirtual 120, 3) := by decide +kernel
theorem dX7_shipStatement_95 : decode cX7_shipStatement 95 = .ok (.ifCond .ne 5, 3) := by decide +kernel
theorem dX7_shipStatement_98 : decode cX7_shipStatement 98 = .ok (.iconst 0, 1) := by decide +kernel
theorem dX7_shipStatement_99 : decode cX7_shipStatement 99 = .ok (.ireturn, 1) := by decide +kernel
theorem dX7_shipStatement_100 : decode cX7_shipStatement 100 = .ok (.aload_n 0, 1) := by decide +kernel
theorem dX7_shipStatement_101 : decode cX7_shipStatement 101 = .ok (.getfield 19, 3) := by decide +kernel
theorem dX7_shipStatement_104 : decode cX7_shipStatement 104 = .ok (.aload_n 0, 1) := by decide +kernel
theorem dX7_shipStatement_105 : decode cX7_shipStatement 105 = .ok (.getfield 15, 3) := by decide +kernel
theorem dX7_shipStatement_108 : decode cX7_shipStatement 108 = .ok (.iload_n 1, 1) := by decide +kernel
theorem dX7_shipStatement_109 : decode cX7_shipStatement 109 = .ok (.iload_n 2, 1) := by decide +kernel
theorem dX7_shipStatement_110 : decode cX7_shipStatement 110 = .ok (.aload_n 0, 1) := by decide +kernel
theorem dX7_shipStatement_111 : decode cX7_shipStatement 111 = .ok (.getfield 124, 3) := by decide +kernel
theorem dX7_shipStatement_114 : decode cX7_shipStatement 114 = .ok (.invokevirtual 182, 3) := by decide +kernel
theorem dX7_shipStatement_117 : decode cX7_shipStatement 117 = .ok (.pop, 1) := by decide +kernel
theorem dX7_shipStatement_118 : decode cX7_shipStatement 118 = .ok (.iconst 1, 1) := by decide +kernel
theorem dX7_shipStatement_119 : decode cX7_shipStatement 119 = .ok (.ireturn, 1) := by decide +kernel
theorem dX7_callStatement_0 : decode cX7_callStatement 0 = .ok (.aload_n 0, 1) := by decide +kernel
theorem dX7_callStatement_1 : decode cX7_callStatement 1 = .ok (.getfield 19, 3) := by decide +kernel
theorem dX7_callStatement_4 : decode cX7_callStatement 4 = .ok (.getfield 186, 3) := by decide +kernel
theorem dX7_callStatement_7 : decode cX7_callStatement 7 = .ok (.bipush 20, 2) := by decide +kernel
theorem dX7_callStatement_9 : decode cX7_callStatement 9 = .ok (.if_icmp .lt 9, 3) := by decide +kernel
theorem dX7_callStatement_12 : decode cX7_callStatement 12 = .ok (.aload_n 0, 1) := by decide +kernel
theorem dX7_callStatement_13 : decode cX7_callStatement 13 = .ok (.iconst 4, 1) := by decide +kernel
theorem dX7_callStatement_14 : decode cX7_callStatement 14 = .ok (.invokevirtual 50, 3) := by decide +kernel
theorem dX7_callStatement_17 : decode cX7_callStatement 17 = .ok (.ireturn, 1) := by decide +kernel
theorem dX7_callStatement_18 : decode cX7_callStatement 18 = .ok (.aload_n 0, 1) := by decide +kernel
theorem dX7_callStatement_19 : decode cX7_callStatement 19 = .ok (.invokevirtual 44, 3) := by decide +kernel
theorem dX7_callStatement_22 : decode cX7_callStatement 22 = .ok (.aload_n 0, 1) := by decide +kernel
theorem dX7_callStatement_23 : decode cX7_callStatement 23 = .ok (.invokevirtual 170, 3) := by decide +kernel
theorem dX7_callStatement_26 : decode cX7_callStatement 26 = .ok (.ifCond .ne 9, 3) := by decide +kernel
theorem dX7_callStatement_29 : decode cX7_callStatement 29 = .ok (.aload_n 0, 1) := by decide +kernel
theorem dX7_callStatement_30 : decode cX7_callStatement 30 = .ok (.iconst 1, 1) := by decide +kernel
theorem dX7_callStatement_31 : decode cX7_callStatement 31 = .ok (.invokevirtual 50, 3) := by decide +kernel
theorem dX7_callStatement_34 : decode cX7_callStatement 34 = .ok (.ireturn, 1) := by decide +kernel
theorem dX7_callStatement_35 : decode cX7_callStatement 35 = .ok (.aload_n 0, 1) := by decide +kernel
theorem dX7_callStatement_36 : decode cX7_callStatement 36 = .ok (.getfield 19, 3) := by decide +kernel
theorem dX7_callStatement_39 : decode cX7_callStatement 39 = .ok (.aload_n 0, 1) := by decide +kernel
theorem dX7_callStatement_40 : decode cX7_callStatement 40 = .ok (.getfield 15, 3) := by decide +kernel
theorem dX7_callStatement_43 : decode cX7_callStatement 43 = .ok (.aload_n 0, 1) := by decide +kernel
theorem dX7_callStatement_44 : decode cX7_callStatement 44 = .ok (.getfield 173, 3) := by decide +kernel
theorem dX7_callStatement_47 : decode cX7_callStatement 47 = .ok (.aload_n 0, 1) := by decide +kernel
theorem dX7_callStatement_48 : decode cX7_callStatement 48 = .ok (.getfield 41, 3) := by decide +kernel
theorem dX7_callStatement_51 : decode cX7_callStatement 51 = .ok (.invokevirtual 176, 3) := by decide +kernel
theorem dX7_callStatement_54 : decode cX7_callStatement 54 = .ok (.istore_n 1, 1) := by decide +kernel
theorem dX7_callStatement_55 : decode cX7_callStatement 55 = .ok (.iload_n 1, 1) := by decide +kernel
theorem dX7_callStatement_56 : decode cX7_callStatement 56 = .ok (.iconst (-1), 1) := by decide +kernel
theorem dX7_callStatement_57 : decode cX7_callStatement 57 = .ok (.if_icmp .ne 9, 3) := by decide +kernel
theorem dX7_callStatement_60 : decode cX7_callStatement 60 = .ok (.aload_n 0, 1) := by decide +kernel
theorem dX7_callStatement_61 : decode cX7_callStatement 61 = .ok (.iconst 3, 1) := by decide +kernel
theorem dX7_callStatement_62 : decode cX7_callStatement 62 = .ok (.invokevirtual 50, 3) := by decide +kernel
theorem dX7_callStatement_65 : decode cX7_callStatement 65 = .ok (.ireturn, 1) := by decide +kernel
theorem dX7_callStatement_66 : decode cX7_callStatement 66 = .ok (.aload_n 0, 1) := by decide +kernel
theorem dX7_callStatement_67 : decode cX7_callStatement 67 = .ok (.invokevirtual 44, 3) := by decide +kernel
theorem dX7_callStatement_70 : decode cX7_callStatement 70 = .ok (.aload_n 0, 1) := by decide +kernel
theorem dX7_callStatement_71 : decode cX7_callStatement 71 = .ok (.iconst 0, 1) := by decide +kernel
theorem dX7_callStatement_72 : decode cX7_callStatement 72 = .ok (.sipush 3599, 3) := by decide +kernel
theorem dX7_callStatement_75 : decode cX7_callStatement 75 = .ok (.invokevirtual 120, 3) := by decide +kernel
theorem dX7_callStatement_78 : decode cX7_callStatement 78 = .ok (.ifCond .ne 5, 3) := by decide +kernel
theorem dX7_callStatement_81 : decode cX7_callStatement 81 = .ok (.iconst 0, 1) := by decide +kernel
theorem dX7_callStatement_82 : decode cX7_callStatement 82 = .ok (.ireturn, 1) := by decide +kernel
theorem dX7_callStatement_83 : decode cX7_callStatement 83 = .ok (.aload_n 0, 1) := by decide +kernel
theorem dX7_callStatement_84 : decode cX7_callStatement 84 = .ok (.getfield 124, 3) := by decide +kernel
theorem dX7_callStatement_87 : decode cX7_callStatement 87 = .ok (.istore_n 2, 1) := by decide +kernel
theorem dX7_callStatement_88 : decode cX7_callStatement 88 = .ok (.aload_n 0, 1) := by decide +kernel
theorem dX7_callStatement_89 : decode cX7_callStatement 89 = .ok (.ldc 189, 2) := by decide +kernel
theorem dX7_callStatement_91 : decode cX7_callStatement 91 = .ok (.invokevirtual 129, 3) := by decide +kernel
theorem dX7_callStatement_94 : decode cX7_callStatement 94 = .ok (.ifCond .eq 17, 3) := by decide +kernel
theorem dX7_callStatement_97 : decode cX7_callStatement 97 = .ok (.aload_n 0, 1) := by decide +kernel
theorem dX7_callStatement_98 : decode cX7_callStatement 98 = .ok (.iload_n 2, 1) := by decide +kernel
theorem dX7_callStatement_99 : decode cX7_callStatement 99 = .ok (.iload_n 2, 1) := by decide +kernel
theorem dX7_callStatement_100 : decode cX7_callStatement 100 = .ok (.bipush 30, 2) := by decide +kernel
theorem dX7_callStatement_102 : decode cX7_callStatement 102 = .ok (.iadd, 1) := by decide +kernel
theorem dX7_callStatement_103 : decode cX7_callStatement 103 = .ok (.iconst 1, 1) := by decide +kernel
theorem dX7_callStatement_104 : decode cX7_callStatement 104 = .ok (.isub, 1) := by decide +kernel
theorem dX7_callStatement_105 : decode cX7_callStatement 105 = .ok (.invokevirtual 120, 3) := by decide +kernel
theorem dX7_callStatement_108 : decode cX7_callStatement 108 = .ok (.ifCond .ne 5, 3) := by decide +kernel
theorem dX7_callStatement_111 : decode cX7_callStatement 111 = .ok (.iconst 0, 1) := by decide +kernel
theorem dX7_callStatement_112 : decode cX7_callStatement 112 = .ok (.ireturn, 1) := by decide +kernel
theorem dX7_callStatement_113 : decode cX7_callStatement 113 = .ok (.aload_n 0, 1) := by decide +kernel
theorem dX7_callStatement_114 : decode cX7_callStatement 114 = .ok (.getfield 124, 3) := by decide +kernel
theorem dX7_callStatement_117 : decode cX7_callStatement 117 = .ok (.istore_n 3, 1) := by decide +kernel
theorem dX7_callStatement_118 : decode cX7_callStatement 118 = .ok (.aload_n 0, 1) := by decide +kernel
theorem dX7_callStatement_119 : decode cX7_callStatement 119 = .ok (.ldc 89, 2) := by decide +kernel
theorem dX7_callStatement_121 : decode cX7_callStatement 121 = .ok (.invokevirtual 129, 3) := by decide +kernel
theorem dX7_callStatement_124 : decode cX7_callStatement 124 = .ok (.ifCond .eq 14, 3) := by decide +kernel
theorem dX7_callStatement_127 : decode cX7_callStatement 127 = .ok (.aload_n 0, 1) := by decide +kernel
theorem dX7_callStatement_128 : decode cX7_callStatement 128 = .ok (.iconst 0, 1) := by decide +kernel
theorem dX7_callStatement_129 : decode cX7_callStatement 129 = .ok (.sipush 999, 3) := by decide +kernel
theorem dX7_callStatement_132 : decode cX7_callStatement 132 = .ok (.invokevirtual 120, 3) := by decide +kernel
theorem dX7_callStatement_135 : decode cX7_callStatement 135 = .ok (.ifCond .ne 5, 3) := by decide +kernel
theorem dX7_callStatement_138 : decode cX7_callStatement 138 = .ok (.iconst 0, 1) := by decide +kernel
theorem dX7_callStatement_139 : decode cX7_callStatement 139 = .ok (.ireturn, 1) := by decide +kernel
theorem dX7_callStatement_140 : decode cX7_callStatement 140 = .ok (.aload_n 0, 1) := by decide +kernel
theorem dX7_callStatement_141 : decode cX7_callStatement 141 = .ok (.getfield 19, 3) := by decide +kernel
theorem dX7_callStatement_144 : decode cX7_callStatement 144 = .ok (.iload_n 1, 1) := by decide +kernel
theorem dX7_callStatement_145 : decode cX7_callStatement 145 = .ok (.iload_n 2, 1) := by decide +kernel
theorem dX7_callStatement_146 : decode cX7_callStatement 146 = .ok (.iload_n 3, 1) := by decide +kernel
theorem dX7_callStatement_147 : decode cX7_callStatement 147 = .ok (.aload_n 0, 1) := by decide +kernel
theorem dX7_callStatement_148 : decode cX7_callStatement 148 = .ok (.getfield 124, 3) := by decide +kernel
theorem dX7_callStatement_151 : decode cX7_callStatement 151 = .ok (.invokevirtual 191, 3) := by decide +kernel
theorem dX7_callStatement_154 : decode cX7_callStatement 154 = .ok (.pop, 1) := by decide +kernel
theorem dX7_callStatement_155 : decode cX7_callStatement 155 = .ok (.iconst 1, 1) := by decide +kernel
theorem dX7_callStatement_156 : decode cX7_callStatement 156 = .ok (.ireturn, 1) := by decide +kernel
theorem dX7_fail_0 : decode cX7_fail 0 = .ok (.aload_n 0, 1) := by decide +kernel
theorem dX7_fail_1 : decode cX7_fail 1 = .ok (.iload_n 1, 1) := by decide +kernel
theorem dX7_fail_2 : decode cX7_fail 2 = .ok (.putfield 38, 3) := by decide +kernel
theorem dX7_fail_5 : decode cX7_fail 5 = .ok (.aload_n 0, 1) := by decide +kernel
theorem dX7_fail_6 : decode cX7_fail 6 = .ok (.aload_n 0, 1) := by decide +kernel
theorem dX7_fail_7 : decode cX7_fail 7 = .ok (.getfield 173, 3) := by decide +kernel
theorem dX7_fail_10 : decode cX7_fail 10 = .ok (.putfield 9, 3) := by decide +kernel
theorem dX7_fail_13 : decode cX7_fail 13 = .ok (.iconst 0, 1) := by decide +kernel
theorem dX7_fail_14 : decode cX7_fail 14 = .ok (.ireturn, 1) := by decide +kernel
theorem dX7_word_0 : decode cX7_word 0 = .ok (.aload_n 0, 1) := by decide +kernel
theorem dX7_word_1 : decode cX7_word 1 = .ok (.aload_n 1, 1) := by decide +kernel
theorem dX7_word_2 : decode cX7_word 2 = .ok (.invokevirtual 64, 3) := by decide +kernel
theorem dX7_word_5 : decode cX7_word 5 = .ok (.ifCond .ne 9, 3) := by decide +kernel
theorem dX7_word_8 : decode cX7_word 8 = .ok (.aload_n 0, 1) := by decide +kernel
theorem dX7_word_9 : decode cX7_word 9 = .ok (.iconst 1, 1) := by decide +kernel
theorem dX7_word_10 : decode cX7_word 10 = .ok (.invokevirtual 50, 3) := by decide +kernel
theorem dX7_word_13 : decode cX7_word 13 = .ok (.ireturn, 1) := by decide +kernel
theorem dX7_word_14 : decode cX7_word 14 = .ok (.aload_n 0, 1) := by decide +kernel
theorem dX7_word_15 : decode cX7_word 15 = .ok (.invokevirtual 44, 3) := by decide +kernel
theorem dX7_word_18 : decode cX7_word 18 = .ok (.iconst 1, 1) := by decide +kernel
theorem dX7_word_19 : decode cX7_word 19 = .ok (.ireturn, 1) := by decide +kernel
theorem dX7_symbol_0 : decode cX7_symbol 0 = .ok (.aload_n 0, 1) := by decide +kernel
theorem dX7_symbol_1 : decode cX7_symbol 1 = .ok (.getfield 47, 3) := by decide +kernel
theorem dX7_symbol_4 : decode cX7_symbol 4 = .ok (.iconst 3, 1) := by decide +kernel
theorem dX7_symbol_5 : decode cX7_symbol 5 = .ok (.if_icmp .ne 18, 3) := by decide +kernel
theorem dX7_symbol_8 : decode cX7_symbol 8 = .ok (.aload_n 0, 1) := by decide +kernel
theorem dX7_symbol_9 : decode cX7_symbol 9 = .ok (.getfield 15, 3) := by decide +kernel
theorem dX7_symbol_12 : decode cX7_symbol 12 = .ok (.aload_n 0, 1) := by decide +kernel
theorem dX7_symbol_13 : decode cX7_symbol 13 = .ok (.getfield 173, 3) := by decide +kernel
theorem dX7_symbol_16 : decode cX7_symbol 16 = .ok (.invokevirtual 195, 3) := by decide +kernel
theorem dX7_symbol_19 : decode cX7_symbol 19 = .ok (.iload_n 1, 1) := by decide +kernel
theorem dX7_symbol_20 : decode cX7_symbol 20 = .ok (.if_icmp .eq 9, 3) := by decide +kernel
theorem dX7_symbol_23 : decode cX7_symbol 23 = .ok (.aload_n 0, 1) := by decide +kernel
theorem dX7_symbol_24 : decode cX7_symbol 24 = .ok (.iconst 1, 1) := by decide +kernel
theorem dX7_symbol_25 : decode cX7_symbol 25 = .ok (.invokevirtual 50, 3) := by decide +kernel
theorem dX7_symbol_28 : decode cX7_symbol 28 = .ok (.ireturn, 1) := by decide +kernel
theorem dX7_symbol_29 : decode cX7_symbol 29 = .ok (.aload_n 0, 1) := by decide +kernel
theorem dX7_symbol_30 : decode cX7_symbol 30 = .ok (.invokevirtual 44, 3) := by decide +kernel
theorem dX7_symbol_33 : decode cX7_symbol 33 = .ok (.iconst 1, 1) := by decide +kernel
theorem dX7_symbol_34 : decode cX7_symbol 34 = .ok (.ireturn, 1) := by decide +kernel
theorem dX7_number_0 : decode cX7_number 0 = .ok (.aload_n 0, 1) := by decide +kernel
theorem dX7_number_1 : decode cX7_number 1 = .ok (.getfield 47, 3) := by decide +kernel
theorem dX7_number_4 : decode cX7_number 4 = .ok (.iconst 2, 1) := by decide +kernel
theorem dX7_number_5 : decode cX7_number 5 = .ok (.if_icmp .eq 9, 3) := by decide +kernel
theorem dX7_number_8 : decode cX7_number 8 = .ok (.aload_n 0, 1) := by decide +kernel
theorem dX7_number_9 : decode cX7_number 9 = .ok (.iconst 1, 1) := by decide +kernel
theorem dX7_number_10 : decode cX7_number 10 = .ok (.invokevirtual 50, 3) := by decide +kernel
theorem dX7_number_13 : decode cX7_number 13 = .ok (.ireturn, 1) := by decide +kernel
theorem dX7_number_14 : decode cX7_number 14 = .ok (.aload_n 0, 1) := by decide +kernel
theorem dX7_number_15 : decode cX7_number 15 = .ok (.iconst 0, 1) := by decide +kernel
theorem dX7_number_16 : decode cX7_number 16 = .ok (.putfield 124, 3) := by decide +kernel
theorem dX7_number_19 : decode cX7_number 19 = .ok (.aload_n 0, 1) := by decide +kernel
theorem dX7_number_20 : decode cX7_number 20 = .ok (.getfield 173, 3) := by decide +kernel
theorem dX7_number_23 : decode cX7_number 23 = .ok (.istore_n 3, 1) := by decide +kernel
theorem dX7_number_24 : decode cX7_number 24 = .ok (.iload_n 3, 1) := by decide +kernel
theorem dX7_number_25 : decode cX7_number 25 = .ok (.aload_n 0, 1) := by decide +kernel
theorem dX7_number_26 : decode cX7_number 26 = .ok (.getfield 41, 3) := by decide +kernel
theorem dX7_number_29 : decode cX7_number 29 = .ok (.if_icmp .ge 37, 3) := by decide +kernel
theorem dX7_number_32 : decode cX7_number 32 = .ok (.aload_n 0, 1) := by decide +kernel
theorem dX7_number_33 : decode cX7_number 33 = .ok (.aload_n 0, 1) := by decide +kernel
theorem dX7_number_34 : decode cX7_number 34 = .ok (.getfield 124, 3) := by decide +kernel
theorem dX7_number_37 : decode cX7_number 37 = .ok (.bipush 10, 2) := by decide +kernel
theorem dX7_number_39 : decode cX7_number 39 = .ok (.imul, 1) := by decide +kernel
theorem dX7_number_40 : decode cX7_number 40 = .ok (.aload_n 0, 1) := by decide +kernel
theorem dX7_number_41 : decode cX7_number 41 = .ok (.getfield 15, 3) := by decide +kernel
theorem dX7_number_44 : decode cX7_number 44 = .ok (.iload_n 3, 1) := by decide +kernel
theorem dX7_number_45 : decode cX7_number 45 = .ok (.invokevirtual 195, 3) := by decide +kernel
theorem dX7_number_48 : decode cX7_number 48 = .ok (.iadd, 1) := by decide +kernel
theorem dX7_number_49 : decode cX7_number 49 = .ok (.bipush 48, 2) := by decide +kernel
theorem dX7_number_51 : decode cX7_number 51 = .ok (.isub, 1) := by decide +kernel
theorem dX7_number_52 : decode cX7_number 52 = .ok (.ldc 201, 2) := by decide +kernel
theorem dX7_number_54 : decode cX7_number 54 = .ok (.invokestatic 202, 3) := by decide +kernel
theorem dX7_number_57 : decode cX7_number 57 = .ok (.putfield 124, 3) := by decide +kernel
theorem dX7_number_60 : decode cX7_number 60 = .ok (.iinc 3 1, 3) := by decide +kernel
theorem dX7_number_63 : decode cX7_number 63 = .ok (.goto (-39), 3) := by decide +kernel
theorem dX7_number_66 : decode cX7_number 66 = .ok (.aload_n 0, 1) := by decide +kernel
theorem dX7_number_67 : decode cX7_number 67 = .ok (.getfield 124, 3) := by decide +kernel
theorem dX7_number_70 : decode cX7_number 70 = .ok (.iload_n 1, 1) := by decide +kernel
theorem dX7_number_71 : decode cX7_number 71 = .ok (.if_icmp .lt 11, 3) := by decide +kernel
theorem dX7_number_74 : decode cX7_number 74 = .ok (.aload_n 0, 1) := by decide +kernel
theorem dX7_number_75 : decode cX7_number 75 = .ok (.getfield 124, 3) := by decide +kernel
theorem dX7_number_78 : decode cX7_number 78 = .ok (.iload_n 2, 1) := by decide +kernel
theorem dX7_number_79 : decode cX7_number 79 = .ok (.if_icmp .le 9, 3) := by decide +kernel
theorem dX7_number_82 : decode cX7_number 82 = .ok (.aload_n 0, 1) := by decide +kernel
theorem dX7_number_83 : decode cX7_number 83 = .ok (.iconst 2, 1) := by decide +kernel
theorem dX7_number_84 : decode cX7_number 84 = .ok (.invokevirtual 50, 3) := by decide +kernel
theorem dX7_number_87 : decode cX7_number 87 = .ok (.ireturn, 1) := by decide +kernel
theorem dX7_number_88 : decode cX7_number 88 = .ok (.aload_n 0, 1) := by decide +kernel
theorem dX7_number_89 : decode cX7_number 89 = .ok (.invokevirtual 44, 3) := by decide +kernel
theorem dX7_number_92 : decode cX7_number 92 = .ok (.iconst 1, 1) := by decide +kernel
theorem dX7_number_93 : decode cX7_number 93 = .ok (.ireturn, 1) := by decide +kernel
theorem dX7_tokenIs_0 : decode cX7_tokenIs 0 = .ok (.aload_n 0, 1) := by decide +kernel
theorem dX7_tokenIs_1 : decode cX7_tokenIs 1 = .ok (.getfield 47, 3) := by decide +kernel
theorem dX7_tokenIs_4 : decode cX7_tokenIs 4 = .ok (.iconst 1, 1) := by decide +kernel
theorem dX7_tokenIs_5 : decode cX7_tokenIs 5 = .ok (.if_icmp .ne 26, 3) := by decide +kernel
theorem dX7_tokenIs_8 : decode cX7_tokenIs 8 = .ok (.aload_n 0, 1) := by decide +kernel
theorem dX7_tokenIs_9 : decode cX7_tokenIs 9 = .ok (.getfield 15, 3) := by decide +kernel
theorem dX7_tokenIs_12 : decode cX7_tokenIs 12 = .ok (.aload_n 0, 1) := by decide +kernel
theorem dX7_tokenIs_13 : decode cX7_tokenIs 13 = .ok (.getfield 173, 3) := by decide +kernel
theorem dX7_tokenIs_16 : decode cX7_tokenIs 16 = .ok (.aload_n 0, 1) := by decide +kernel
theorem dX7_tokenIs_17 : decode cX7_tokenIs 17 = .ok (.getfield 41, 3) := by decide +kernel
theorem dX7_tokenIs_20 : decode cX7_tokenIs 20 = .ok (.aload_n 1, 1) := by decide +kernel
theorem dX7_tokenIs_21 : decode cX7_tokenIs 21 = .ok (.invokevirtual 208, 3) := by decide +kernel
theorem dX7_tokenIs_24 : decode cX7_tokenIs 24 = .ok (.ifCond .eq 7, 3) := by decide +kernel
theorem dX7_tokenIs_27 : decode cX7_tokenIs 27 = .ok (.iconst 1, 1) := by decide +kernel
theorem dX7_tokenIs_28 : decode cX7_tokenIs 28 = .ok (.goto 4, 3) := by decide +kernel
theorem dX7_tokenIs_31 : decode cX7_tokenIs 31 = .ok (.iconst 0, 1) := by decide +kernel
theorem dX7_tokenIs_32 : decode cX7_tokenIs 32 = .ok (.ireturn, 1) := by decide +kernel
theorem dX7_tokenIsName_0 : decode cX7_tokenIsName 0 = .ok (.aload_n 0, 1) := by decide +kernel
theorem dX7_tokenIsName_1 : decode cX7_tokenIsName 1 = .ok (.getfield 47, 3) := by decide +kernel
theorem dX7_tokenIsName_4 : decode cX7_tokenIsName 4 = .ok (.iconst 1, 1) := by decide +kernel
theorem dX7_tokenIsName_5 : decode cX7_tokenIsName 5 = .ok (.if_icmp .ne 17, 3) := by decide +kernel
theorem dX7_tokenIsName_8 : decode cX7_tokenIsName 8 = .ok (.aload_n 0, 1) := by decide +kernel
theorem dX7_tokenIsName_9 : decode cX7_tokenIsName 9 = .ok (.getfield 41, 3) := by decide +kernel
theorem dX7_tokenIsName_12 : decode cX7_tokenIsName 12 = .ok (.aload_n 0, 1) := by decide +kernel
theorem dX7_tokenIsName_13 : decode cX7_tokenIsName 13 = .ok (.getfield 173, 3) := by decide +kernel
theorem dX7_tokenIsName_16 : decode cX7_tokenIsName 16 = .ok (.isub, 1) := by decide +kernel
theorem dX7_tokenIsName_17 : decode cX7_tokenIsName 17 = .ok (.bipush 6, 2) := by decide +kernel
theorem dX7_tokenIsName_19 : decode cX7_tokenIsName 19 = .ok (.if_icmp .le 5, 3) := by decide +kernel
theorem dX7_tokenIsName_22 : decode cX7_tokenIsName 22 = .ok (.iconst 0, 1) := by decide +kernel
theorem dX7_tokenIsName_23 : decode cX7_tokenIsName 23 = .ok (.ireturn, 1) := by decide +kernel
theorem dX7_tokenIsName_24 : decode cX7_tokenIsName 24 = .ok (.aload_n 0, 1) := by decide +kernel
theorem dX7_tokenIsName_25 : decode cX7_tokenIsName 25 = .ok (.ldc 62, 2) := by decide +kernel
theorem dX7_tokenIsName_27 : decode cX7_tokenIsName 27 = .ok (.invokevirtual 64, 3) := by decide +kernel
theorem dX7_tokenIsName_30 : decode cX7_tokenIsName 30 = .ok (.ifCond .ne 129, 3) := by decide +kernel
theorem dX7_tokenIsName_33 : decode cX7_tokenIsName 33 = .ok (.aload_n 0, 1) := by decide +kernel
theorem dX7_tokenIsName_34 : decode cX7_tokenIsName 34 = .ok (.ldc 72, 2) := by decide +kernel
theorem dX7_tokenIsName_36 : decode cX7_tokenIsName 36 = .ok (.invokevirtual 64, 3) := by decide +kernel
theorem dX7_tokenIsName_39 : decode cX7_tokenIsName 39 = .ok (.ifCond .ne 120, 3) := by decide +kernel
theorem dX7_tokenIsName_42 : decode cX7_tokenIsName 42 = .ok (.aload_n 0, 1) := by decide +kernel
theorem dX7_tokenIsName_43 : decode cX7_tokenIsName 43 = .ok (.ldc 74, 2) := by decide +kernel
theorem dX7_tokenIsName_45 : decode cX7_tokenIsName 45 = .ok (.invokevirtual 64, 3) := by decide +kernel
theorem dX7_tokenIsName_48 : decode cX7_tokenIsName 48 = .ok (.ifCond .ne 111, 3) := by decide +kernel
theorem dX7_tokenIsName_51 : decode cX7_tokenIsName 51 = .ok (.aload_n 0, 1) := by decide +kernel
theorem dX7_tokenIsName_52 : decode cX7_tokenIsName 52 = .ok (.ldc 127, 2) := by decide +kernel
theorem dX7_tokenIsName_54 : decode cX7_tokenIsName 54 = .ok (.invokevirtual 64, 3) := by decide +kernel
theorem dX7_tokenIsName_57 : decode cX7_tokenIsName 57 = .ok (.ifCond .ne 102, 3) := by decide +kernel
theorem dX7_tokenIsName_60 : decode cX7_tokenIsName 60 = .ok (.aload_n 0, 1) := by decide +kernel
theorem dX7_tokenIsName_61 : decode cX7_tokenIsName 61 = .ok (.ldc 84, 2) := by decide +kernel
theorem dX7_tokenIsName_63 : decode cX7_tokenIsName 63 = .ok (.invokevirtual 64, 3) := by decide +kernel
theorem dX7_tokenIsName_66 : decode cX7_tokenIsName 66 = .ok (.ifCond .ne 93, 3) := by decide +kernel
theorem dX7_tokenIsName_69 : decode cX7_tokenIsName 69 = .ok (.aload_n 0, 1) := by decide +kernel
theorem dX7_tokenIsName_70 : decode cX7_tokenIsName 70 = .ok (.ldc 141, 2) := by decide +kernel
theorem dX7_tokenIsName_72 : decode cX7_tokenIsName 72 = .ok (.invokevirtual 64, 3) := by decide +kernel
theorem dX7_tokenIsName_75 : decode cX7_tokenIsName 75 = .ok (.ifCond .ne 84, 3) := by decide +kernel
theorem dX7_tokenIsName_78 : decode cX7_tokenIsName 78 = .ok (.aload_n 0, 1) := by decide +kernel
theorem dX7_tokenIsName_79 : decode cX7_tokenIsName 79 = .ok (.ldc 89, 2) := by decide +kernel
theorem dX7_tokenIsName_81 : decode cX7_tokenIsName 81 = .ok (.invokevirtual 64, 3) := by decide +kernel
theorem dX7_tokenIsName_84 : decode cX7_tokenIsName 84 = .ok (.ifCond .ne 75, 3) := by decide +kernel
theorem dX7_tokenIsName_87 : decode cX7_tokenIsName 87 = .ok (.aload_n 0, 1) := by decide +kernel
theorem dX7_tokenIsName_88 : decode cX7_tokenIsName 88 = .ok (.ldc 146, 2) := by decide +kernel
theorem dX7_tokenIsName_90 : decode cX7_tokenIsName 90 = .ok (.invokevirtual 64, 3) := by decide +kernel
theorem dX7_tokenIsName_93 : decode cX7_tokenIsName 93 = .ok (.ifCond .ne 66, 3) := by decide +kernel
theorem dX7_tokenIsName_96 : decode cX7_tokenIsName 96 = .ok (.aload_n 0, 1) := by decide +kernel
theorem dX7_tokenIsName_97 : decode cX7_tokenIsName 97 = .ok (.ldc 151, 2) := by decide +kernel
theorem dX7_tokenIsName_99 : decode cX7_tokenIsName 99 = .ok (.invokevirtual 64, 3) := by decide +kernel
theorem dX7_tokenIsName_102 : decode cX7_tokenIsName 102 = .ok (.ifCond .ne 57, 3) := by decide +kernel
theorem dX7_tokenIsName_105 : decode cX7_tokenIsName 105 = .ok (.aload_n 0, 1) := by decide +kernel
theorem dX7_tokenIsName_106 : decode cX7_tokenIsName 106 = .ok (.ldc 156, 2) := by decide +kernel
theorem dX7_tokenIsName_108 : decode cX7_tokenIsName 108 = .ok (.invokevirtual 64, 3) := by decide +kernel
theorem dX7_tokenIsName_111 : decode cX7_tokenIsName 111 = .ok (.ifCond .ne 48, 3) := by decide +kernel
theorem dX7_tokenIsName_114 : decode cX7_tokenIsName 114 = .ok (.aload_n 0, 1) := by decide +kernel
theorem dX7_tokenIsName_115 : decode cX7_tokenIsName 115 = .ok (.ldc 94, 2) := by decide +kernel
theorem dX7_tokenIsName_117 : decode cX7_tokenIsName 117 = .ok (.invokevirtual 64, 3) := by decide +kernel
theorem dX7_tokenIsName_120 : decode cX7_tokenIsName 120 = .ok (.ifCond .ne 39, 3) := by decide +kernel
theorem dX7_tokenIsName_123 : decode cX7_tokenIsName 123 = .ok (.aload_n 0, 1) := by decide +kernel
theorem dX7_tokenIsName_124 : decode cX7_tokenIsName 124 = .ok (.ldc 99, 2) := by decide +kernel
theorem dX7_tokenIsName_126 : decode cX7_tokenIsName 126 = .ok (.invokevirtual 64, 3) := by decide +kernel
theorem dX7_tokenIsName_129 : decode cX7_tokenIsName 129 = .ok (.ifCond .ne 30, 3) := by decide +kernel
theorem dX7_tokenIsName_132 : decode cX7_tokenIsName 132 = .ok (.aload_n 0, 1) := by decide +kernel
theorem dX7_tokenIsName_133 : decode cX7_tokenIsName 133 = .ok (.ldc 180, 2) := by decide +kernel
theorem dX7_tokenIsName_135 : decode cX7_tokenIsName 135 = .ok (.invokevirtual 64, 3) := by decide +kernel
theorem dX7_tokenIsName_138 : decode cX7_tokenIsName 138 = .ok (.ifCond .ne 21, 3) := by decide +kernel
theorem dX7_tokenIsName_141 : decode cX7_tokenIsName 141 = .ok (.aload_n 0, 1) := by decide +kernel
theorem dX7_tokenIsName_142 : decode cX7_tokenIsName 142 = .ok (.ldc 104, 2) := by decide +kernel
theorem dX7_tokenIsName_144 : decode cX7_tokenIsName 144 = .ok (.invokevirtual 64, 3) := by decide +kernel
theorem dX7_tokenIsName_147 : decode cX7_tokenIsName 147 = .ok (.ifCond .ne 12, 3) := by decide +kernel
theorem dX7_tokenIsName_150 : decode cX7_tokenIsName 150 = .ok (.aload_n 0, 1) := by decide +kernel
theorem dX7_tokenIsName_151 : decode cX7_tokenIsName 151 = .ok (.ldc 189, 2) := by decide +kernel
theorem dX7_tokenIsName_153 : decode cX7_tokenIsName 153 = .ok (.invokevirtual 64, 3) := by decide +kernel
theorem dX7_tokenIsName_156 : decode cX7_tokenIsName 156 = .ok (.ifCond .eq 7, 3) := by decide +kernel
theorem dX7_tokenIsName_159 : decode cX7_tokenIsName 159 = .ok (.iconst 1, 1) := by decide +kernel
theorem dX7_tokenIsName_160 : decode cX7_tokenIsName 160 = .ok (.goto 4, 3) := by decide +kernel
theorem dX7_tokenIsName_163 : decode cX7_tokenIsName 163 = .ok (.iconst 0, 1) := by decide +kernel
theorem dX7_tokenIsName_164 : decode cX7_tokenIsName 164 = .ok (.istore_n 1, 1) := by decide +kernel
theorem dX7_tokenIsName_165 : decode cX7_tokenIsName 165 = .ok (.iload_n 1, 1) := by decide +kernel
theorem dX7_tokenIsName_166 : decode cX7_tokenIsName 166 = .ok (.ifCond .ne 7, 3) := by decide +kernel
theorem dX7_tokenIsName_169 : decode cX7_tokenIsName 169 = .ok (.iconst 1, 1) := by decide +kernel
theorem dX7_tokenIsName_170 : decode cX7_tokenIsName 170 = .ok (.goto 4, 3) := by decide +kernel
theorem dX7_tokenIsName_173 : decode cX7_tokenIsName 173 = .ok (.iconst 0, 1) := by decide +kernel
theorem dX7_tokenIsName_174 : decode cX7_tokenIsName 174 = .ok (.ireturn, 1) := by decide +kernel
theorem dX7_readToken_0 : decode cX7_readToken 0 = .ok (.aload_n 0, 1) := by decide +kernel
theorem dX7_readToken_1 : decode cX7_readToken 1 = .ok (.aload_n 0, 1) := by decide +kernel
theorem dX7_readToken_2 : decode cX7_readToken 2 = .ok (.getfield 41, 3) := by decide +kernel
theorem dX7_readToken_5 : decode cX7_readToken 5 = .ok (.putfield 173, 3) := by decide +kernel
theorem dX7_readToken_8 : decode cX7_readToken 8 = .ok (.aload_n 0, 1) := by decide +kernel
theorem dX7_readToken_9 : decode cX7_readToken 9 = .ok (.getfield 173, 3) := by decide +kernel
theorem dX7_readToken_12 : decode cX7_readToken 12 = .ok (.aload_n 0, 1) := by decide +kernel
theorem dX7_readToken_13 : decode cX7_readToken 13 = .ok (.getfield 15, 3) := by decide +kernel
theorem dX7_readToken_16 : decode cX7_readToken 16 = .ok (.getfield 212, 3) := by decide +kernel
theorem dX7_readToken_19 : decode cX7_readToken 19 = .ok (.if_icmp .ge 27, 3) := by decide +kernel
theorem dX7_readToken_22 : decode cX7_readToken 22 = .ok (.aload_n 0, 1) := by decide +kernel
theorem dX7_readToken_23 : decode cX7_readToken 23 = .ok (.aload_n 0, 1) := by decide +kernel
theorem dX7_readToken_24 : decode cX7_readToken 24 = .ok (.getfield 173, 3) := by decide +kernel
theorem dX7_readToken_27 : decode cX7_readToken 27 = .ok (.invokevirtual 215, 3) := by decide +kernel
theorem dX7_readToken_30 : decode cX7_readToken 30 = .ok (.ifCond .ne 16, 3) := by decide +kernel
theorem dX7_readToken_33 : decode cX7_readToken 33 = .ok (.aload_n 0, 1) := by decide +kernel
theorem dX7_readToken_34 : decode cX7_readToken 34 = .ok (.dup, 1) := by decide +kernel
theorem dX7_readToken_35 : decode cX7_readToken 35 = .ok (.getfield 173, 3) := by decide +kernel
theorem dX7_readToken_38 : decode cX7_readToken 38 = .ok (.iconst 1, 1) := by decide +kernel
theorem dX7_readToken_39 : decode cX7_readToken 39 = .ok (.iadd, 1) := by decide +kernel
theorem dX7_readToken_40 : decode cX7_readToken 40 = .ok (.putfield 173, 3) := by decide +kernel
theorem dX7_readToken_43 : decode cX7_readToken 43 = .ok (.goto (-35), 3) := by decide +kernel
theorem dX7_readToken_46 : decode cX7_readToken 46 = .ok (.aload_n 0, 1) := by decide +kernel
theorem dX7_readToken_47 : decode cX7_readToken 47 = .ok (.aload_n 0, 1) := by decide +kernel
theorem dX7_readToken_48 : decode cX7_readToken 48 = .ok (.aload_n 0, 1) := by decide +kernel
theorem dX7_readToken_49 : decode cX7_readToken 49 = .ok (.getfield 173, 3) := by decide +kernel
theorem dX7_readToken_52 : decode cX7_readToken 52 = .ok (.invokevirtual 215, 3) := by decide +kernel
theorem dX7_readToken_55 : decode cX7_readToken 55 = .ok (.putfield 47, 3) := by decide +kernel
theorem dX7_readToken_58 : decode cX7_readToken 58 = .ok (.aload_n 0, 1) := by decide +kernel
theorem dX7_readToken_59 : decode cX7_readToken 59 = .ok (.aload_n 0, 1) := by decide +kernel
theorem dX7_readToken_60 : decode cX7_readToken 60 = .ok (.getfield 173, 3) := by decide +kernel
theorem dX7_readToken_63 : decode cX7_readToken 63 = .ok (.iconst 1, 1) := by decide +kernel
theorem dX7_readToken_64 : decode cX7_readToken 64 = .ok (.iadd, 1) := by decide +kernel
theorem dX7_readToken_65 : decode cX7_readToken 65 = .ok (.aload_n 0, 1) := by decide +kernel
theorem dX7_readToken_66 : decode cX7_readToken 66 = .ok (.getfield 15, 3) := by decide +kernel
theorem dX7_readToken_69 : decode cX7_readToken 69 = .ok (.getfield 212, 3) := by decide +kernel
theorem dX7_readToken_72 : decode cX7_readToken 72 = .ok (.invokestatic 202, 3) := by decide +kernel
theorem dX7_readToken_75 : decode cX7_readToken 75 = .ok (.putfield 41, 3) := by decide +kernel
theorem dX7_readToken_78 : decode cX7_readToken 78 = .ok (.aload_n 0, 1) := by decide +kernel
theorem dX7_readToken_79 : decode cX7_readToken 79 = .ok (.getfield 47, 3) := by decide +kernel
theorem dX7_readToken_82 : decode cX7_readToken 82 = .ok (.iconst 1, 1) := by decide +kernel
theorem dX7_readToken_83 : decode cX7_readToken 83 = .ok (.if_icmp .eq 11, 3) := by decide +kernel
theorem dX7_readToken_86 : decode cX7_readToken 86 = .ok (.aload_n 0, 1) := by decide +kernel
theorem dX7_readToken_87 : decode cX7_readToken 87 = .ok (.getfield 47, 3) := by decide +kernel
theorem dX7_readToken_90 : decode cX7_readToken 90 = .ok (.iconst 2, 1) := by decide +kernel
theorem dX7_readToken_91 : decode cX7_readToken 91 = .ok (.if_icmp .ne 45, 3) := by decide +kernel
theorem dX7_readToken_94 : decode cX7_readToken 94 = .ok (.aload_n 0, 1) := by decide +kernel
theorem dX7_readToken_95 : decode cX7_readToken 95 = .ok (.getfield 41, 3) := by decide +kernel
theorem dX7_readToken_98 : decode cX7_readToken 98 = .ok (.aload_n 0, 1) := by decide +kernel
theorem dX7_readToken_99 : decode cX7_readToken 99 = .ok (.getfield 15, 3) := by decide +kernel
theorem dX7_readToken_102 : decode cX7_readToken 102 = .ok (.getfield 212, 3) := by decide +kernel
theorem dX7_readToken_105 : decode cX7_readToken 105 = .ok (.if_icmp .ge 31, 3) := by decide +kernel
theorem dX7_readToken_108 : decode cX7_readToken 108 = .ok (.aload_n 0, 1) := by decide +kernel
theorem dX7_readToken_109 : decode cX7_readToken 109 = .ok (.aload_n 0, 1) := by decide +kernel
theorem dX7_readToken_110 : decode cX7_readToken 110 = .ok (.getfield 41, 3) := by decide +kernel
theorem dX7_readToken_113 : decode cX7_readToken 113 = .ok (.invokevirtual 215, 3) := by decide +kernel
theorem dX7_readToken_116 : decode cX7_readToken 116 = .ok (.aload_n 0, 1) := by decide +kernel
theorem dX7_readToken_117 : decode cX7_readToken 117 = .ok (.getfield 47, 3) := by decide +kernel
theorem dX7_readToken_120 : decode cX7_readToken 120 = .ok (.if_icmp .ne 16, 3) := by decide +kernel
theorem dX7_readToken_123 : decode cX7_readToken 123 = .ok (.aload_n 0, 1) := by decide +kernel
theorem dX7_readToken_124 : decode cX7_readToken 124 = .ok (.dup, 1) := by decide +kernel
theorem dX7_readToken_125 : decode cX7_readToken 125 = .ok (.getfield 41, 3) := by decide +kernel
theorem dX7_readToken_128 : decode cX7_readToken 128 = .ok (.iconst 1, 1) := by decide +kernel
theorem dX7_readToken_129 : decode cX7_readToken 129 = .ok (.iadd, 1) := by decide +kernel
theorem dX7_readToken_130 : decode cX7_readToken 130 = .ok (.putfield 41, 3) := by decide +kernel
theorem dX7_readToken_133 : decode cX7_readToken 133 = .ok (.goto (-39), 3) := by decide +kernel
theorem dX7_readToken_136 : decode cX7_readToken 136 = .ok (.return_, 1) := by decide +kernel
theorem dX7_kindAt_0 : decode cX7_kindAt 0 = .ok (.iload_n 1, 1) := by decide +kernel
theorem dX7_kindAt_1 : decode cX7_kindAt 1 = .ok (.aload_n 0, 1) := by decide +kernel
theorem dX7_kindAt_2 : decode cX7_kindAt 2 = .ok (.getfield 15, 3) := by decide +kernel
theorem dX7_kindAt_5 : decode cX7_kindAt 5 = .ok (.getfield 212, 3) := by decide +kernel
theorem dX7_kindAt_8 : decode cX7_kindAt 8 = .ok (.if_icmp .lt 5, 3) := by decide +kernel
theorem dX7_kindAt_11 : decode cX7_kindAt 11 = .ok (.iconst 0, 1) := by decide +kernel
theorem dX7_kindAt_12 : decode cX7_kindAt 12 = .ok (.ireturn, 1) := by decide +kernel
theorem dX7_kindAt_13 : decode cX7_kindAt 13 = .ok (.aload_n 0, 1) := by decide +kernel
theorem dX7_kindAt_14 : decode cX7_kindAt 14 = .ok (.getfield 15, 3) := by decide +kernel
theorem dX7_kindAt_17 : decode cX7_kindAt 17 = .ok (.iload_n 1, 1) := by decide +kernel
theorem dX7_kindAt_18 : decode cX7_kindAt 18 = .ok (.invokevirtual 195, 3) := by decide +kernel
theorem dX7_kindAt_21 : decode cX7_kindAt 21 = .ok (.istore_n 2, 1) := by decide +kernel
theorem dX7_kindAt_22 : decode cX7_kindAt 22 = .ok (.iload_n 2, 1) := by decide +kernel
theorem dX7_kindAt_23 : decode cX7_kindAt 23 = .ok (.bipush 97, 2) := by decide +kernel
theorem dX7_kindAt_25 : decode cX7_kindAt 25 = .ok (.if_icmp .lt 11, 3) := by decide +kernel
theorem dX7_kindAt_28 : decode cX7_kindAt 28 = .ok (.iload_n 2, 1) := by decide +kernel
theorem dX7_kindAt_29 : decode cX7_kindAt 29 = .ok (.bipush 122, 2) := by decide +kernel
theorem dX7_kindAt_31 : decode cX7_kindAt 31 = .ok (.if_icmp .gt 5, 3) := by decide +kernel
theorem dX7_kindAt_34 : decode cX7_kindAt 34 = .ok (.iconst 1, 1) := by decide +kernel
theorem dX7_kindAt_35 : decode cX7_kindAt 35 = .ok (.ireturn, 1) := by decide +kernel
theorem dX7_kindAt_36 : decode cX7_kindAt 36 = .ok (.iload_n 2, 1) := by decide +kernel
theorem dX7_kindAt_37 : decode cX7_kindAt 37 = .ok (.bipush 48, 2) := by decide +kernel
theorem dX7_kindAt_39 : decode cX7_kindAt 39 = .ok (.if_icmp .lt 11, 3) := by decide +kernel
theorem dX7_kindAt_42 : decode cX7_kindAt 42 = .ok (.iload_n 2, 1) := by decide +kernel
theorem dX7_kindAt_43 : decode cX7_kindAt 43 = .ok (.bipush 57, 2) := by decide +kernel
theorem dX7_kindAt_45 : decode cX7_kindAt 45 = .ok (.if_icmp .gt 5, 3) := by decide +kernel
theorem dX7_kindAt_48 : decode cX7_kindAt 48 = .ok (.iconst 2, 1) := by decide +kernel
theorem dX7_kindAt_49 : decode cX7_kindAt 49 = .ok (.ireturn, 1) := by decide +kernel
theorem dX7_kindAt_50 : decode cX7_kindAt 50 = .ok (.iload_n 2, 1) := by decide +kernel
theorem dX7_kindAt_51 : decode cX7_kindAt 51 = .ok (.bipush 32, 2) := by decide +kernel
theorem dX7_kindAt_53 : decode cX7_kindAt 53 = .ok (.if_icmp .eq 9, 3) := by decide +kernel
theorem dX7_kindAt_56 : decode cX7_kindAt 56 = .ok (.iload_n 2, 1) := by decide +kernel
theorem dX7_kindAt_57 : decode cX7_kindAt 57 = .ok (.bipush 10, 2) := by decide +kernel
theorem dX7_kindAt_59 : decode cX7_kindAt 59 = .ok (.if_icmp .ne 7, 3) := by decide +kernel
theorem dX7_kindAt_62 : decode cX7_kindAt 62 = .ok (.iconst 0, 1) := by decide +kernel
theorem dX7_kindAt_63 : decode cX7_kindAt 63 = .ok (.goto 4, 3) := by decide +kernel
theorem dX7_kindAt_66 : decode cX7_kindAt 66 = .ok (.iconst 3, 1) := by decide +kernel
theorem dX7_kindAt_67 : decode cX7_kindAt 67 = .ok (.ireturn, 1) := by decide +kernel
theorem dX8_init_0 : decode cX8_init 0 = .ok (.aload_n 0, 1) := by decide +kernel
theorem dX8_init_1 : decode cX8_init 1 = .ok (.invokespecial 3, 3) := by decide +kernel
theorem dX8_init_4 : decode cX8_init 4 = .ok (.aload_n 0, 1) := by decide +kernel
theorem dX8_init_5 : decode cX8_init 5 = .ok (.aload_n 1, 1) := by decide +kernel
theorem dX8_init_6 : decode cX8_init 6 = .ok (.putfield 9, 3) := by decide +kernel
theorem dX8_init_9 : decode cX8_init 9 = .ok (.aload_n 0, 1) := by decide +kernel
theorem dX8_init_10 : decode cX8_init 10 = .ok (.aload_n 2, 1) := by decide +kernel
theorem dX8_init_11 : decode cX8_init 11 = .ok (.putfield 15, 3) := by decide +kernel
theorem dX8_init_14 : decode cX8_init 14 = .ok (.aload_n 0, 1) := by decide +kernel
theorem dX8_init_15 : decode cX8_init 15 = .ok (.aload_n 3, 1) := by decide +kernel
theorem dX8_init_16 : decode cX8_init 16 = .ok (.putfield 19, 3) := by decide +kernel
theorem dX8_init_19 : decode cX8_init 19 = .ok (.return_, 1) := by decide +kernel
theorem dX8_statement_0 : decode cX8_statement 0 = .ok (.aload_n 0, 1) := by decide +kernel
theorem dX8_statement_1 : decode cX8_statement 1 = .ok (.getfield 19, 3) := by decide +kernel
theorem dX8_statement_4 : decode cX8_statement 4 = .ok (.iconst 0, 1) := by decide +kernel
theorem dX8_statement_5 : decode cX8_statement 5 = .ok (.putfield 23, 3) := by decide +kernel
theorem dX8_statement_8 : decode cX8_statement 8 = .ok (.aload_n 0, 1) := by decide +kernel
theorem dX8_statement_9 : decode cX8_statement 9 = .ok (.aload_n 0, 1) := by decide +kernel
theorem dX8_statement_10 : decode cX8_statement 10 = .ok (.getfield 9, 3) := by decide +kernel
theorem dX8_statement_13 : decode cX8_statement 13 = .ok (.getfield 29, 3) := by decide +kernel
theorem dX8_statement_16 : decode cX8_statement 16 = .ok (.iload_n 1, 1) := by decide +kernel
theorem dX8_statement_17 : decode cX8_statement 17 = .ok (.aaload, 1) := by decide +kernel
theorem dX8_statement_18 : decode cX8_statement 18 = .ok (.invokevirtual 35, 3) := by decide +kernel
theorem dX8_statement_21 : decode cX8_statement 21 = .ok (.aload_n 0, 1) := by decide +kernel
theorem dX8_statement_22 : decode cX8_statement 22 = .ok (.getfield 19, 3) := by decide +kernel
theorem dX8_statement_25 : decode cX8_statement 25 = .ok (.bipush 10, 2) := by decide +kernel
theorem dX8_statement_27 : decode cX8_statement 27 = .ok (.invokevirtual 39, 3) := by decide +kernel
theorem dX8_statement_30 : decode cX8_statement 30 = .ok (.iconst 0, 1) := by decide +kernel
theorem dX8_statement_31 : decode cX8_statement 31 = .ok (.istore_n 2, 1) := by decide +kernel
theorem dX8_statement_32 : decode cX8_statement 32 = .ok (.iload_n 2, 1) := by decide +kernel
theorem dX8_statement_33 : decode cX8_statement 33 = .ok (.aload_n 0, 1) := by decide +kernel
theorem dX8_statement_34 : decode cX8_statement 34 = .ok (.getfield 9, 3) := by decide +kernel
theorem dX8_statement_37 : decode cX8_statement 37 = .ok (.getfield 43, 3) := by decide +kernel
theorem dX8_statement_40 : decode cX8_statement 40 = .ok (.if_icmp .ge 73, 3) := by decide +kernel
theorem dX8_statement_43 : decode cX8_statement 43 = .ok (.aload_n 0, 1) := by decide +kernel
theorem dX8_statement_44 : decode cX8_statement 44 = .ok (.getfield 15, 3) := by decide +kernel
theorem dX8_statement_47 : decode cX8_statement 47 = .ok (.iload_n 2, 1) := by decide +kernel
theorem dX8_statement_48 : decode cX8_statement 48 = .ok (.invokevirtual 46, 3) := by decide +kernel
theorem dX8_statement_51 : decode cX8_statement 51 = .ok (.iload_n 1, 1) := by decide +kernel
theorem dX8_statement_52 : decode cX8_statement 52 = .ok (.if_icmp .ne 55, 3) := by decide +kernel
theorem dX8_statement_55 : decode cX8_statement 55 = .ok (.aload_n 0, 1) := by decide +kernel
theorem dX8_statement_56 : decode cX8_statement 56 = .ok (.getfield 19, 3) := by decide +kernel
theorem dX8_statement_59 : decode cX8_statement 59 = .ok (.iload_n 2, 1) := by decide +kernel
theorem dX8_statement_60 : decode cX8_statement 60 = .ok (.i2l, 1) := by decide +kernel
theorem dX8_statement_61 : decode cX8_statement 61 = .ok (.invokevirtual 52, 3) := by decide +kernel
theorem dX8_statement_64 : decode cX8_statement 64 = .ok (.aload_n 0, 1) := by decide +kernel
theorem dX8_statement_65 : decode cX8_statement 65 = .ok (.ldc 56, 2) := by decide +kernel
theorem dX8_statement_67 : decode cX8_statement 67 = .ok (.aload_n 0, 1) := by decide +kernel
theorem dX8_statement_68 : decode cX8_statement 68 = .ok (.getfield 9, 3) := by decide +kernel
theorem dX8_statement_71 : decode cX8_statement 71 = .ok (.getfield 58, 3) := by decide +kernel
theorem dX8_statement_74 : decode cX8_statement 74 = .ok (.iload_n 2, 1) := by decide +kernel
theorem dX8_statement_75 : decode cX8_statement 75 = .ok (.aaload, 1) := by decide +kernel
theorem dX8_statement_76 : decode cX8_statement 76 = .ok (.invokevirtual 62, 3) := by decide +kernel
theorem dX8_statement_79 : decode cX8_statement 79 = .ok (.i2l, 1) := by decide +kernel
theorem dX8_statement_80 : decode cX8_statement 80 = .ok (.invokevirtual 68, 3) := by decide +kernel
theorem dX8_statement_83 : decode cX8_statement 83 = .ok (.aload_n 0, 1) := by decide +kernel
theorem dX8_statement_84 : decode cX8_statement 84 = .ok (.ldc 56, 2) := by decide +kernel
theorem dX8_statement_86 : decode cX8_statement 86 = .ok (.aload_n 0, 1) := by decide +kernel
theorem dX8_statement_87 : decode cX8_statement 87 = .ok (.getfield 15, 3) := by decide +kernel
theorem dX8_statement_90 : decode cX8_statement 90 = .ok (.iload_n 2, 1) := by decide +kernel
theorem dX8_statement_91 : decode cX8_statement 91 = .ok (.invokevirtual 72, 3) := by decide +kernel
theorem dX8_statement_94 : decode cX8_statement 94 = .ok (.i2l, 1) := by decide +kernel
theorem dX8_statement_95 : decode cX8_statement 95 = .ok (.invokevirtual 68, 3) := by decide +kernel
theorem dX8_statement_98 : decode cX8_statement 98 = .ok (.aload_n 0, 1) := by decide +kernel
theorem dX8_statement_99 : decode cX8_statement 99 = .ok (.getfield 19, 3) := by decide +kernel
theorem dX8_statement_102 : decode cX8_statement 102 = .ok (.bipush 10, 2) := by decide +kernel
theorem dX8_statement_104 : decode cX8_statement 104 = .ok (.invokevirtual 39, 3) := by decide +kernel
theorem dX8_statement_107 : decode cX8_statement 107 = .ok (.iinc 2 1, 3) := by decide +kernel
theorem dX8_statement_110 : decode cX8_statement 110 = .ok (.goto (-78), 3) := by decide +kernel
theorem dX8_statement_113 : decode cX8_statement 113 = .ok (.aload_n 0, 1) := by decide +kernel
theorem dX8_statement_114 : decode cX8_statement 114 = .ok (.getfield 19, 3) := by decide +kernel
theorem dX8_statement_117 : decode cX8_statement 117 = .ok (.aload_n 0, 1) := by decide +kernel
theorem dX8_statement_118 : decode cX8_statement 118 = .ok (.getfield 15, 3) := by decide +kernel
theorem dX8_statement_121 : decode cX8_statement 121 = .ok (.iload_n 1, 1) := by decide +kernel
theorem dX8_statement_122 : decode cX8_statement 122 = .ok (.invokevirtual 75, 3) := by decide +kernel
theorem dX8_statement_125 : decode cX8_statement 125 = .ok (.invokevirtual 52, 3) := by decide +kernel
theorem dX8_statement_128 : decode cX8_statement 128 = .ok (.aload_n 0, 1) := by decide +kernel
theorem dX8_statement_129 : decode cX8_statement 129 = .ok (.getfield 19, 3) := by decide +kernel
theorem dX8_statement_132 : decode cX8_statement 132 = .ok (.bipush 10, 2) := by decide +kernel
theorem dX8_statement_134 : decode cX8_statement 134 = .ok (.invokevirtual 39, 3) := by decide +kernel
theorem dX8_statement_137 : decode cX8_statement 137 = .ok (.return_, 1) := by decide +kernel
theorem dX8_invoiceSheet_0 : decode cX8_invoiceSheet 0 = .ok (.aload_n 0, 1) := by decide +kernel
theorem dX8_invoiceSheet_1 : decode cX8_invoiceSheet 1 = .ok (.getfield 9, 3) := by decide +kernel
theorem dX8_invoiceSheet_4 : decode cX8_invoiceSheet 4 = .ok (.getfield 58, 3) := by decide +kernel
theorem dX8_invoiceSheet_7 : decode cX8_invoiceSheet 7 = .ok (.iload_n 1, 1) := by decide +kernel
theorem dX8_invoiceSheet_8 : decode cX8_invoiceSheet 8 = .ok (.aaload, 1) := by decide +kernel
theorem dX8_invoiceSheet_9 : decode cX8_invoiceSheet 9 = .ok (.astore_n 2, 1) := by decide +kernel
theorem dX8_invoiceSheet_10 : decode cX8_invoiceSheet 10 = .ok (.aload_n 0, 1) := by decide +kernel
theorem dX8_invoiceSheet_11 : decode cX8_invoiceSheet 11 = .ok (.getfield 19, 3) := by decide +kernel
theorem dX8_invoiceSheet_14 : decode cX8_invoiceSheet 14 = .ok (.iconst 0, 1) := by decide +kernel
theorem dX8_invoiceSheet_15 : decode cX8_invoiceSheet 15 = .ok (.putfield 23, 3) := by decide +kernel
theorem dX8_invoiceSheet_18 : decode cX8_invoiceSheet 18 = .ok (.aload_n 0, 1) := by decide +kernel
theorem dX8_invoiceSheet_19 : decode cX8_invoiceSheet 19 = .ok (.ldc 79, 2) := by decide +kernel
theorem dX8_invoiceSheet_21 : decode cX8_invoiceSheet 21 = .ok (.iload_n 1, 1) := by decide +kernel
theorem dX8_invoiceSheet_22 : decode cX8_invoiceSheet 22 = .ok (.i2l, 1) := by decide +kernel
theorem dX8_invoiceSheet_23 : decode cX8_invoiceSheet 23 = .ok (.invokevirtual 68, 3) := by decide +kernel
theorem dX8_invoiceSheet_26 : decode cX8_invoiceSheet 26 = .ok (.aload_n 0, 1) := by decide +kernel
theorem dX8_invoiceSheet_27 : decode cX8_invoiceSheet 27 = .ok (.getfield 19, 3) := by decide +kernel
theorem dX8_invoiceSheet_30 : decode cX8_invoiceSheet 30 = .ok (.ldc 81, 2) := by decide +kernel
theorem dX8_invoiceSheet_32 : decode cX8_invoiceSheet 32 = .ok (.invokevirtual 83, 3) := by decide +kernel
theorem dX8_invoiceSheet_35 : decode cX8_invoiceSheet 35 = .ok (.aload_n 0, 1) := by decide +kernel
theorem dX8_invoiceSheet_36 : decode cX8_invoiceSheet 36 = .ok (.aload_n 0, 1) := by decide +kernel
theorem dX8_invoiceSheet_37 : decode cX8_invoiceSheet 37 = .ok (.getfield 9, 3) := by decide +kernel
theorem dX8_invoiceSheet_40 : decode cX8_invoiceSheet 40 = .ok (.getfield 29, 3) := by decide +kernel
theorem dX8_invoiceSheet_43 : decode cX8_invoiceSheet 43 = .ok (.aload_n 0, 1) := by decide +kernel
theorem dX8_invoiceSheet_44 : decode cX8_invoiceSheet 44 = .ok (.getfield 15, 3) := by decide +kernel
theorem dX8_invoiceSheet_47 : decode cX8_invoiceSheet 47 = .ok (.iload_n 1, 1) := by decide +kernel
theorem dX8_invoiceSheet_48 : decode cX8_invoiceSheet 48 = .ok (.invokevirtual 46, 3) := by decide +kernel
theorem dX8_invoiceSheet_51 : decode cX8_invoiceSheet 51 = .ok (.aaload, 1) := by decide +kernel
theorem dX8_invoiceSheet_52 : decode cX8_invoiceSheet 52 = .ok (.invokevirtual 35, 3) := by decide +kernel
theorem dX8_invoiceSheet_55 : decode cX8_invoiceSheet 55 = .ok (.aload_n 0, 1) := by decide +kernel
theorem dX8_invoiceSheet_56 : decode cX8_invoiceSheet 56 = .ok (.ldc 87, 2) := by decide +kernel
theorem dX8_invoiceSheet_58 : decode cX8_invoiceSheet 58 = .ok (.aload_n 2, 1) := by decide +kernel
theorem dX8_invoiceSheet_59 : decode cX8_invoiceSheet 59 = .ok (.getfield 89, 3) := by decide +kernel
theorem dX8_invoiceSheet_62 : decode cX8_invoiceSheet 62 = .ok (.i2l, 1) := by decide +kernel
theorem dX8_invoiceSheet_63 : decode cX8_invoiceSheet 63 = .ok (.invokevirtual 68, 3) := by decide +kernel
theorem dX8_invoiceSheet_66 : decode cX8_invoiceSheet 66 = .ok (.aload_n 0, 1) := by decide +kernel
theorem dX8_invoiceSheet_67 : decode cX8_invoiceSheet 67 = .ok (.ldc 92, 2) := by decide +kernel
theorem dX8_invoiceSheet_69 : decode cX8_invoiceSheet 69 = .ok (.aload_n 2, 1) := by decide +kernel
theorem dX8_invoiceSheet_70 : decode cX8_invoiceSheet 70 = .ok (.getfield 94, 3) := by decide +kernel
theorem dX8_invoiceSheet_73 : decode cX8_invoiceSheet 73 = .ok (.i2l, 1) := by decide +kernel
theorem dX8_invoiceSheet_74 : decode cX8_invoiceSheet 74 = .ok (.invokevirtual 68, 3) := by decide +kernel
theorem dX8_invoiceSheet_77 : decode cX8_invoiceSheet 77 = .ok (.aload_n 0, 1) := by decide +kernel
theorem dX8_invoiceSheet_78 : decode cX8_invoiceSheet 78 = .ok (.getfield 19, 3) := by decide +kernel
theorem dX8_invoiceSheet_81 : decode cX8_invoiceSheet 81 = .ok (.bipush 10, 2) := by decide +kernel
theorem dX8_invoiceSheet_83 : decode cX8_invoiceSheet 83 = .ok (.invokevirtual 39, 3) := by decide +kernel
theorem dX8_invoiceSheet_86 : decode cX8_invoiceSheet 86 = .ok (.iconst 0, 1) := by decide +kernel
theorem dX8_invoiceSheet_87 : decode cX8_invoiceSheet 87 = .ok (.istore_n 3, 1) := by decide +kernel
theorem dX8_invoiceSheet_88 : decode cX8_invoiceSheet 88 = .ok (.iload_n 3, 1) := by decide +kernel
theorem dX8_invoiceSheet_89 : decode cX8_invoiceSheet 89 = .ok (.iconst 4, 1) := by decide +kernel
theorem dX8_invoiceSheet_90 : decode cX8_invoiceSheet 90 = .ok (.if_icmp .ge 26, 3) := by decide +kernel
theorem dX8_invoiceSheet_93 : decode cX8_invoiceSheet 93 = .ok (.aload_n 2, 1) := by decide +kernel
theorem dX8_invoiceSheet_94 : decode cX8_invoiceSheet 94 = .ok (.getfield 97, 3) := by decide +kernel
theorem dX8_invoiceSheet_97 : decode cX8_invoiceSheet 97 = .ok (.iload_n 3, 1) := by decide +kernel
theorem dX8_invoiceSheet_98 : decode cX8_invoiceSheet 98 = .ok (.invokestatic 100, 3) := by decide +kernel
theorem dX8_invoiceSheet_101 : decode cX8_invoiceSheet 101 = .ok (.ifCond .eq 9, 3) := by decide +kernel
theorem dX8_invoiceSheet_104 : decode cX8_invoiceSheet 104 = .ok (.aload_n 0, 1) := by decide +kernel
theorem dX8_invoiceSheet_105 : decode cX8_invoiceSheet 105 = .ok (.aload_n 2, 1) := by decide +kernel
theorem dX8_invoiceSheet_106 : decode cX8_invoiceSheet 106 = .ok (.iload_n 3, 1) := by decide +kernel
theorem dX8_invoiceSheet_107 : decode cX8_invoiceSheet 107 = .ok (.invokevirtual 104, 3) := by decide +kernel
theorem dX8_invoiceSheet_110 : decode cX8_invoiceSheet 110 = .ok (.iinc 3 1, 3) := by decide +kernel
theorem dX8_invoiceSheet_113 : decode cX8_invoiceSheet 113 = .ok (.goto (-25), 3) := by decide +kernel
theorem dX8_invoiceSheet_116 : decode cX8_invoiceSheet 116 = .ok (.aload_n 0, 1) := by decide +kernel
theorem dX8_invoiceSheet_117 : decode cX8_invoiceSheet 117 = .ok (.ldc 108, 2) := by decide +kernel
theorem dX8_invoiceSheet_119 : decode cX8_invoiceSheet 119 = .ok (.aload_n 2, 1) := by decide +kernel
theorem dX8_invoiceSheet_120 : decode cX8_invoiceSheet 120 = .ok (.invokevirtual 62, 3) := by decide +kernel
theorem dX8_invoiceSheet_123 : decode cX8_invoiceSheet 123 = .ok (.i2l, 1) := by decide +kernel
theorem dX8_invoiceSheet_124 : decode cX8_invoiceSheet 124 = .ok (.invokevirtual 68, 3) := by decide +kernel
theorem dX8_invoiceSheet_127 : decode cX8_invoiceSheet 127 = .ok (.aload_n 0, 1) := by decide +kernel
theorem dX8_invoiceSheet_128 : decode cX8_invoiceSheet 128 = .ok (.ldc 110, 2) := by decide +kernel
theorem dX8_invoiceSheet_130 : decode cX8_invoiceSheet 130 = .ok (.aload_n 0, 1) := by decide +kernel
theorem dX8_invoiceSheet_131 : decode cX8_invoiceSheet 131 = .ok (.getfield 15, 3) := by decide +kernel
theorem dX8_invoiceSheet_134 : decode cX8_invoiceSheet 134 = .ok (.iload_n 1, 1) := by decide +kernel
theorem dX8_invoiceSheet_135 : decode cX8_invoiceSheet 135 = .ok (.invokevirtual 72, 3) := by decide +kernel
theorem dX8_invoiceSheet_138 : decode cX8_invoiceSheet 138 = .ok (.i2l, 1) := by decide +kernel
theorem dX8_invoiceSheet_139 : decode cX8_invoiceSheet 139 = .ok (.invokevirtual 68, 3) := by decide +kernel
theorem dX8_invoiceSheet_142 : decode cX8_invoiceSheet 142 = .ok (.aload_n 0, 1) := by decide +kernel
theorem dX8_invoiceSheet_143 : decode cX8_invoiceSheet 143 = .ok (.getfield 19, 3) := by decide +kernel
theorem dX8_invoiceSheet_146 : decode cX8_invoiceSheet 146 = .ok (.bipush 10, 2) := by decide +kernel
theorem dX8_invoiceSheet_148 : decode cX8_invoiceSheet 148 = .ok (.invokevirtual 39, 3) := by decide +kernel
theorem dX8_invoiceSheet_151 : decode cX8_invoiceSheet 151 = .ok (.return_, 1) := by decide +kernel
theorem dX8_invoiceLine_0 : decode cX8_invoiceLine 0 = .ok (.aload_n 0, 1) := by decide +kernel
theorem dX8_invoiceLine_1 : decode cX8_invoiceLine 1 = .ok (.iload_n 2, 1) := by decide +kernel
theorem dX8_invoiceLine_2 : decode cX8_invoiceLine 2 = .ok (.invokestatic 112, 3) := by decide +kernel
theorem dX8_invoiceLine_5 : decode cX8_invoiceLine 5 = .ok (.aload_n 1, 1) := by decide +kernel
theorem dX8_invoiceLine_6 : decode cX8_invoiceLine 6 = .ok (.getfield 116, 3) := by decide +kernel
theorem dX8_invoiceLine_9 : decode cX8_invoiceLine 9 = .ok (.iload_n 2, 1) := by decide +kernel
theorem dX8_invoiceLine_10 : decode cX8_invoiceLine 10 = .ok (.iaload, 1) := by decide +kernel
theorem dX8_invoiceLine_11 : decode cX8_invoiceLine 11 = .ok (.i2l, 1) := by decide +kernel
theorem dX8_invoiceLine_12 : decode cX8_invoiceLine 12 = .ok (.invokevirtual 68, 3) := by decide +kernel
theorem dX8_invoiceLine_15 : decode cX8_invoiceLine 15 = .ok (.iload_n 2, 1) := by decide +kernel
theorem dX8_invoiceLine_16 : decode cX8_invoiceLine 16 = .ok (.iconst 3, 1) := by decide +kernel
theorem dX8_invoiceLine_17 : decode cX8_invoiceLine 17 = .ok (.if_icmp .ne 8, 3) := by decide +kernel
theorem dX8_invoiceLine_20 : decode cX8_invoiceLine 20 = .ok (.aload_n 0, 1) := by decide +kernel
theorem dX8_invoiceLine_21 : decode cX8_invoiceLine 21 = .ok (.aload_n 1, 1) := by decide +kernel
theorem dX8_invoiceLine_22 : decode cX8_invoiceLine 22 = .ok (.invokevirtual 120, 3) := by decide +kernel
theorem dX8_invoiceLine_25 : decode cX8_invoiceLine 25 = .ok (.aload_n 0, 1) := by decide +kernel
theorem dX8_invoiceLine_26 : decode cX8_invoiceLine 26 = .ok (.getfield 15, 3) := by decide +kernel
theorem dX8_invoiceLine_29 : decode cX8_invoiceLine 29 = .ok (.aload_n 1, 1) := by decide +kernel
theorem dX8_invoiceLine_30 : decode cX8_invoiceLine 30 = .ok (.iload_n 2, 1) := by decide +kernel
theorem dX8_invoiceLine_31 : decode cX8_invoiceLine 31 = .ok (.invokevirtual 124, 3) := by decide +kernel
theorem dX8_invoiceLine_34 : decode cX8_invoiceLine 34 = .ok (.istore_n 3, 1) := by decide +kernel
theorem dX8_invoiceLine_35 : decode cX8_invoiceLine 35 = .ok (.aload_n 1, 1) := by decide +kernel
theorem dX8_invoiceLine_36 : decode cX8_invoiceLine 36 = .ok (.iload_n 2, 1) := by decide +kernel
theorem dX8_invoiceLine_37 : decode cX8_invoiceLine 37 = .ok (.invokevirtual 128, 3) := by decide +kernel
theorem dX8_invoiceLine_40 : decode cX8_invoiceLine 40 = .ok (.ifCond .ne 15, 3) := by decide +kernel
theorem dX8_invoiceLine_43 : decode cX8_invoiceLine 43 = .ok (.aload_n 0, 1) := by decide +kernel
theorem dX8_invoiceLine_44 : decode cX8_invoiceLine 44 = .ok (.getfield 19, 3) := by decide +kernel
theorem dX8_invoiceLine_47 : decode cX8_invoiceLine 47 = .ok (.ldc 132, 2) := by decide +kernel
theorem dX8_invoiceLine_49 : decode cX8_invoiceLine 49 = .ok (.invokevirtual 83, 3) := by decide +kernel
theorem dX8_invoiceLine_52 : decode cX8_invoiceLine 52 = .ok (.goto 21, 3) := by decide +kernel
theorem dX8_invoiceLine_55 : decode cX8_invoiceLine 55 = .ok (.iload_n 3, 1) := by decide +kernel
theorem dX8_invoiceLine_56 : decode cX8_invoiceLine 56 = .ok (.aload_n 1, 1) := by decide +kernel
theorem dX8_invoiceLine_57 : decode cX8_invoiceLine 57 = .ok (.getfield 116, 3) := by decide +kernel
theorem dX8_invoiceLine_60 : decode cX8_invoiceLine 60 = .ok (.iload_n 2, 1) := by decide +kernel
theorem dX8_invoiceLine_61 : decode cX8_invoiceLine 61 = .ok (.iaload, 1) := by decide +kernel
theorem dX8_invoiceLine_62 : decode cX8_invoiceLine 62 = .ok (.if_icmp .eq 11, 3) := by decide +kernel
theorem dX8_invoiceLine_65 : decode cX8_invoiceLine 65 = .ok (.aload_n 0, 1) := by decide +kernel
theorem dX8_invoiceLine_66 : decode cX8_invoiceLine 66 = .ok (.ldc 134, 2) := by decide +kernel
theorem dX8_invoiceLine_68 : decode cX8_invoiceLine 68 = .ok (.iload_n 3, 1) := by decide +kernel
theorem dX8_invoiceLine_69 : decode cX8_invoiceLine 69 = .ok (.i2l, 1) := by decide +kernel
theorem dX8_invoiceLine_70 : decode cX8_invoiceLine 70 = .ok (.invokevirtual 68, 3) := by decide +kernel
theorem dX8_invoiceLine_73 : decode cX8_invoiceLine 73 = .ok (.aload_n 0, 1) := by decide +kernel
theorem dX8_invoiceLine_74 : decode cX8_invoiceLine 74 = .ok (.getfield 19, 3) := by decide +kernel
theorem dX8_invoiceLine_77 : decode cX8_invoiceLine 77 = .ok (.bipush 10, 2) := by decide +kernel
theorem dX8_invoiceLine_79 : decode cX8_invoiceLine 79 = .ok (.invokevirtual 39, 3) := by decide +kernel
theorem dX8_invoiceLine_82 : decode cX8_invoiceLine 82 = .ok (.return_, 1) := by decide +kernel
theorem dX8_lineWord_0 : decode cX8_lineWord 0 = .ok (.iload_n 0, 1) := by decide +kernel
theorem dX8_lineWord_1 : decode cX8_lineWord 1 = .ok (.tableswitch 36 0 2 #[27, 30, 33], 27) := by decide +kernel
theorem dX8_lineWord_28 : decode cX8_lineWord 28 = .ok (.ldc 136, 2) := by decide +kernel
theorem dX8_lineWord_30 : decode cX8_lineWord 30 = .ok (.areturn, 1) := by decide +kernel
theorem dX8_lineWord_31 : decode cX8_lineWord 31 = .ok (.ldc 138, 2) := by decide +kernel
theorem dX8_lineWord_33 : decode cX8_lineWord 33 = .ok (.areturn, 1) := by decide +kernel
theorem dX8_lineWord_34 : decode cX8_lineWord 34 = .ok (.ldc 140, 2) := by decide +kernel
theorem dX8_lineWord_36 : decode cX8_lineWord 36 = .ok (.areturn, 1) := by decide +kernel
theorem dX8_lineWord_37 : decode cX8_lineWord 37 = .ok (.ldc 142, 2) := by decide +kernel
theorem dX8_lineWord_39 : decode cX8_lineWord 39 = .ok (.areturn, 1) := by decide +kernel
theorem dX8_invoiceDays_0 : decode cX8_invoiceDays 0 = .ok (.aload_n 0, 1) := by decide +kernel
theorem dX8_invoiceDays_1 : decode cX8_invoiceDays 1 = .ok (.getfield 9, 3) := by decide +kernel
theorem dX8_invoiceDays_4 : decode cX8_invoiceDays 4 = .ok (.getfield 144, 3) := by decide +kernel
theorem dX8_invoiceDays_7 : decode cX8_invoiceDays 7 = .ok (.aload_n 1, 1) := by decide +kernel
theorem dX8_invoiceDays_8 : decode cX8_invoiceDays 8 = .ok (.getfield 89, 3) := by decide +kernel
theorem dX8_invoiceDays_11 : decode cX8_invoiceDays 11 = .ok (.aaload, 1) := by decide +kernel
theorem dX8_invoiceDays_12 : decode cX8_invoiceDays 12 = .ok (.astore_n 2, 1) := by decide +kernel
theorem dX8_invoiceDays_13 : decode cX8_invoiceDays 13 = .ok (.aload_n 0, 1) := by decide +kernel
theorem dX8_invoiceDays_14 : decode cX8_invoiceDays 14 = .ok (.getfield 19, 3) := by decide +kernel
theorem dX8_invoiceDays_17 : decode cX8_invoiceDays 17 = .ok (.ldc 148, 2) := by decide +kernel
theorem dX8_invoiceDays_19 : decode cX8_invoiceDays 19 = .ok (.invokevirtual 83, 3) := by decide +kernel
theorem dX8_invoiceDays_22 : decode cX8_invoiceDays 22 = .ok (.iconst 0, 1) := by decide +kernel
theorem dX8_invoiceDays_23 : decode cX8_invoiceDays 23 = .ok (.istore_n 3, 1) := by decide +kernel
theorem dX8_invoiceDays_24 : decode cX8_invoiceDays 24 = .ok (.iload_n 3, 1) := by decide +kernel
theorem dX8_invoiceDays_25 : decode cX8_invoiceDays 25 = .ok (.bipush 30, 2) := by decide +kernel
theorem dX8_invoiceDays_27 : decode cX8_invoiceDays 27 = .ok (.if_icmp .ge 71, 3) := by decide +kernel
theorem dX8_invoiceDays_30 : decode cX8_invoiceDays 30 = .ok (.aload_n 1, 1) := by decide +kernel
theorem dX8_invoiceDays_31 : decode cX8_invoiceDays 31 = .ok (.getfield 150, 3) := by decide +kernel
theorem dX8_invoiceDays_34 : decode cX8_invoiceDays 34 = .ok (.iload_n 3, 1) := by decide +kernel
theorem dX8_invoiceDays_35 : decode cX8_invoiceDays 35 = .ok (.invokestatic 100, 3) := by decide +kernel
theorem dX8_invoiceDays_38 : decode cX8_invoiceDays 38 = .ok (.ifCond .eq 54, 3) := by decide +kernel
theorem dX8_invoiceDays_41 : decode cX8_invoiceDays 41 = .ok (.aload_n 0, 1) := by decide +kernel
theorem dX8_invoiceDays_42 : decode cX8_invoiceDays 42 = .ok (.ldc 56, 2) := by decide +kernel
theorem dX8_invoiceDays_44 : decode cX8_invoiceDays 44 = .ok (.iload_n 3, 1) := by decide +kernel
theorem dX8_invoiceDays_45 : decode cX8_invoiceDays 45 = .ok (.i2l, 1) := by decide +kernel
theorem dX8_invoiceDays_46 : decode cX8_invoiceDays 46 = .ok (.invokevirtual 68, 3) := by decide +kernel
theorem dX8_invoiceDays_49 : decode cX8_invoiceDays 49 = .ok (.aload_n 2, 1) := by decide +kernel
theorem dX8_invoiceDays_50 : decode cX8_invoiceDays 50 = .ok (.getfield 153, 3) := by decide +kernel
theorem dX8_invoiceDays_53 : decode cX8_invoiceDays 53 = .ok (.iload_n 3, 1) := by decide +kernel
theorem dX8_invoiceDays_54 : decode cX8_invoiceDays 54 = .ok (.invokestatic 100, 3) := by decide +kernel
theorem dX8_invoiceDays_57 : decode cX8_invoiceDays 57 = .ok (.ifCond .eq 15, 3) := by decide +kernel
theorem dX8_invoiceDays_60 : decode cX8_invoiceDays 60 = .ok (.aload_n 0, 1) := by decide +kernel
theorem dX8_invoiceDays_61 : decode cX8_invoiceDays 61 = .ok (.getfield 19, 3) := by decide +kernel
theorem dX8_invoiceDays_64 : decode cX8_invoiceDays 64 = .ok (.bipush 63, 2) := by decide +kernel
theorem dX8_invoiceDays_66 : decode cX8_invoiceDays 66 = .ok (.invokevirtual 39, 3) := by decide +kernel
theorem dX8_invoiceDays_69 : decode cX8_invoiceDays 69 = .ok (.goto 23, 3) := by decide +kernel
theorem dX8_invoiceDays_72 : decode cX8_invoiceDays 72 = .ok (.aload_n 2, 1) := by decide +kernel
theorem dX8_invoiceDays_73 : decode cX8_invoiceDays 73 = .ok (.getfield 158, 3) := by decide +kernel
theorem dX8_invoiceDays_76 : decode cX8_invoiceDays 76 = .ok (.iload_n 3, 1) := by decide +kernel
theorem dX8_invoiceDays_77 : decode cX8_invoiceDays 77 = .ok (.invokestatic 100, 3) := by decide +kernel
theorem dX8_invoiceDays_80 : decode cX8_invoiceDays 80 = .ok (.ifCond .eq 12, 3) := by decide +kernel
theorem dX8_invoiceDays_83 : decode cX8_invoiceDays 83 = .ok (.aload_n 0, 1) := by decide +kernel
theorem dX8_invoiceDays_84 : decode cX8_invoiceDays 84 = .ok (.getfield 19, 3) := by decide +kernel
theorem dX8_invoiceDays_87 : decode cX8_invoiceDays 87 = .ok (.bipush 45, 2) := by decide +kernel
theorem dX8_invoiceDays_89 : decode cX8_invoiceDays 89 = .ok (.invokevirtual 39, 3) := by decide +kernel
theorem dX8_invoiceDays_92 : decode cX8_invoiceDays 92 = .ok (.iinc 3 1, 3) := by decide +kernel
theorem dX8_invoiceDays_95 : decode cX8_invoiceDays 95 = .ok (.goto (-71), 3) := by decide +kernel
theorem dX8_invoiceDays_98 : decode cX8_invoiceDays 98 = .ok (.return_, 1) := by decide +kernel
theorem dX8_tariffSheet_0 : decode cX8_tariffSheet 0 = .ok (.aload_n 0, 1) := by decide +kernel
theorem dX8_tariffSheet_1 : decode cX8_tariffSheet 1 = .ok (.getfield 9, 3) := by decide +kernel
theorem dX8_tariffSheet_4 : decode cX8_tariffSheet 4 = .ok (.getfield 161, 3) := by decide +kernel
theorem dX8_tariffSheet_7 : decode cX8_tariffSheet 7 = .ok (.iload_n 1, 1) := by decide +kernel
theorem dX8_tariffSheet_8 : decode cX8_tariffSheet 8 = .ok (.aaload, 1) := by decide +kernel
theorem dX8_tariffSheet_9 : decode cX8_tariffSheet 9 = .ok (.astore_n 2, 1) := by decide +kernel
theorem dX8_tariffSheet_10 : decode cX8_tariffSheet 10 = .ok (.aload_n 0, 1) := by decide +kernel
theorem dX8_tariffSheet_11 : decode cX8_tariffSheet 11 = .ok (.getfield 9, 3) := by decide +kernel
theorem dX8_tariffSheet_14 : decode cX8_tariffSheet 14 = .ok (.getfield 161, 3) := by decide +kernel
theorem dX8_tariffSheet_17 : decode cX8_tariffSheet 17 = .ok (.iload_n 1, 1) := by decide +kernel
theorem dX8_tariffSheet_18 : decode cX8_tariffSheet 18 = .ok (.iconst 1, 1) := by decide +kernel
theorem dX8_tariffSheet_19 : decode cX8_tariffSheet 19 = .ok (.isub, 1) := by decide +kernel
theorem dX8_tariffSheet_20 : decode cX8_tariffSheet 20 = .ok (.iconst 0, 1) := by decide +kernel
theorem dX8_tariffSheet_21 : decode cX8_tariffSheet 21 = .ok (.invokestatic 165, 3) := by decide +kernel
theorem dX8_tariffSheet_24 : decode cX8_tariffSheet 24 = .ok (.aaload, 1) := by decide +kernel
theorem dX8_tariffSheet_25 : decode cX8_tariffSheet 25 = .ok (.astore_n 3, 1) := by decide +kernel
theorem dX8_tariffSheet_26 : decode cX8_tariffSheet 26 = .ok (.aload_n 0, 1) := by decide +kernel
theorem dX8_tariffSheet_27 : decode cX8_tariffSheet 27 = .ok (.getfield 19, 3) := by decide +kernel
theorem dX8_tariffSheet_30 : decode cX8_tariffSheet 30 = .ok (.iconst 0, 1) := by decide +kernel
theorem dX8_tariffSheet_31 : decode cX8_tariffSheet 31 = .ok (.putfield 23, 3) := by decide +kernel
theorem dX8_tariffSheet_34 : decode cX8_tariffSheet 34 = .ok (.aload_n 0, 1) := by decide +kernel
theorem dX8_tariffSheet_35 : decode cX8_tariffSheet 35 = .ok (.ldc 171, 2) := by decide +kernel
theorem dX8_tariffSheet_37 : decode cX8_tariffSheet 37 = .ok (.iload_n 1, 1) := by decide +kernel
theorem dX8_tariffSheet_38 : decode cX8_tariffSheet 38 = .ok (.i2l, 1) := by decide +kernel
theorem dX8_tariffSheet_39 : decode cX8_tariffSheet 39 = .ok (.invokevirtual 68, 3) := by decide +kernel
theorem dX8_tariffSheet_42 : decode cX8_tariffSheet 42 = .ok (.aload_n 0, 1) := by decide +kernel
theorem dX8_tariffSheet_43 : decode cX8_tariffSheet 43 = .ok (.getfield 19, 3) := by decide +kernel
theorem dX8_tariffSheet_46 : decode cX8_tariffSheet 46 = .ok (.aload_n 2, 1) := by decide +kernel
theorem dX8_tariffSheet_47 : decode cX8_tariffSheet 47 = .ok (.getfield 173, 3) := by decide +kernel
theorem dX8_tariffSheet_50 : decode cX8_tariffSheet 50 = .ok (.ifCond .eq 8, 3) := by decide +kernel
theorem dX8_tariffSheet_53 : decode cX8_tariffSheet 53 = .ok (.ldc 179, 2) := by decide +kernel
theorem dX8_tariffSheet_55 : decode cX8_tariffSheet 55 = .ok (.goto 5, 3) := by decide +kernel
theorem dX8_tariffSheet_58 : decode cX8_tariffSheet 58 = .ok (.ldc 181, 2) := by decide +kernel
theorem dX8_tariffSheet_60 : decode cX8_tariffSheet 60 = .ok (.invokevirtual 83, 3) := by decide +kernel
theorem dX8_tariffSheet_63 : decode cX8_tariffSheet 63 = .ok (.iconst 0, 1) := by decide +kernel
theorem dX8_tariffSheet_64 : decode cX8_tariffSheet 64 = .ok (.istore 4, 2) := by decide +kernel
theorem dX8_tariffSheet_66 : decode cX8_tariffSheet 66 = .ok (.iload 4, 2) := by decide +kernel
theorem dX8_tariffSheet_68 : decode cX8_tariffSheet 68 = .ok (.aload_n 2, 1) := by decide +kernel
theorem dX8_tariffSheet_69 : decode cX8_tariffSheet 69 = .ok (.getfield 183, 3) := by decide +kernel
theorem dX8_tariffSheet_72 : decode cX8_tariffSheet 72 = .ok (.if_icmp .ge 63, 3) := by decide +kernel
theorem dX8_tariffSheet_75 : decode cX8_tariffSheet 75 = .ok (.aload_n 0, 1) := by decide +kernel
theorem dX8_tariffSheet_76 : decode cX8_tariffSheet 76 = .ok (.ldc 186, 2) := by decide +kernel
theorem dX8_tariffSheet_78 : decode cX8_tariffSheet 78 = .ok (.aload_n 2, 1) := by decide +kernel
theorem dX8_tariffSheet_79 : decode cX8_tariffSheet 79 = .ok (.getfield 188, 3) := by decide +kernel
theorem dX8_tariffSheet_82 : decode cX8_tariffSheet 82 = .ok (.iload 4, 2) := by decide +kernel
theorem dX8_tariffSheet_84 : decode cX8_tariffSheet 84 = .ok (.iaload, 1) := by decide +kernel
theorem dX8_tariffSheet_85 : decode cX8_tariffSheet 85 = .ok (.i2l, 1) := by decide +kernel
theorem dX8_tariffSheet_86 : decode cX8_tariffSheet 86 = .ok (.invokevirtual 68, 3) := by decide +kernel
theorem dX8_tariffSheet_89 : decode cX8_tariffSheet 89 = .ok (.aload_n 0, 1) := by decide +kernel
theorem dX8_tariffSheet_90 : decode cX8_tariffSheet 90 = .ok (.ldc 191, 2) := by decide +kernel
theorem dX8_tariffSheet_92 : decode cX8_tariffSheet 92 = .ok (.aload_n 2, 1) := by decide +kernel
theorem dX8_tariffSheet_93 : decode cX8_tariffSheet 93 = .ok (.getfield 193, 3) := by decide +kernel
theorem dX8_tariffSheet_96 : decode cX8_tariffSheet 96 = .ok (.iload 4, 2) := by decide +kernel
theorem dX8_tariffSheet_98 : decode cX8_tariffSheet 98 = .ok (.iaload, 1) := by decide +kernel
theorem dX8_tariffSheet_99 : decode cX8_tariffSheet 99 = .ok (.i2l, 1) := by decide +kernel
theorem dX8_tariffSheet_100 : decode cX8_tariffSheet 100 = .ok (.invokevirtual 68, 3) := by decide +kernel
theorem dX8_tariffSheet_103 : decode cX8_tariffSheet 103 = .ok (.aload_n 0, 1) := by decide +kernel
theorem dX8_tariffSheet_104 : decode cX8_tariffSheet 104 = .ok (.aload_n 2, 1) := by decide +kernel
theorem dX8_tariffSheet_105 : decode cX8_tariffSheet 105 = .ok (.getfield 193, 3) := by decide +kernel
theorem dX8_tariffSheet_108 : decode cX8_tariffSheet 108 = .ok (.iload 4, 2) := by decide +kernel
theorem dX8_tariffSheet_110 : decode cX8_tariffSheet 110 = .ok (.iaload, 1) := by decide +kernel
theorem dX8_tariffSheet_111 : decode cX8_tariffSheet 111 = .ok (.aload_n 3, 1) := by decide +kernel
theorem dX8_tariffSheet_112 : decode cX8_tariffSheet 112 = .ok (.getfield 193, 3) := by decide +kernel
theorem dX8_tariffSheet_115 : decode cX8_tariffSheet 115 = .ok (.iload 4, 2) := by decide +kernel
theorem dX8_tariffSheet_117 : decode cX8_tariffSheet 117 = .ok (.iaload, 1) := by decide +kernel
theorem dX8_tariffSheet_118 : decode cX8_tariffSheet 118 = .ok (.if_icmp .eq 7, 3) := by decide +kernel
theorem dX8_tariffSheet_121 : decode cX8_tariffSheet 121 = .ok (.iconst 1, 1) := by decide +kernel
theorem dX8_tariffSheet_122 : decode cX8_tariffSheet 122 = .ok (.goto 4, 3) := by decide +kernel
theorem dX8_tariffSheet_125 : decode cX8_tariffSheet 125 = .ok (.iconst 0, 1) := by decide +kernel
theorem dX8_tariffSheet_126 : decode cX8_tariffSheet 126 = .ok (.invokevirtual 196, 3) := by decide +kernel
theorem dX8_tariffSheet_129 : decode cX8_tariffSheet 129 = .ok (.iinc 4 1, 3) := by decide +kernel
theorem dX8_tariffSheet_132 : decode cX8_tariffSheet 132 = .ok (.goto (-66), 3) := by decide +kernel
theorem dX8_tariffSheet_135 : decode cX8_tariffSheet 135 = .ok (.iconst 0, 1) := by decide +kernel
theorem dX8_tariffSheet_136 : decode cX8_tariffSheet 136 = .ok (.istore 4, 2) := by decide +kernel
theorem dX8_tariffSheet_138 : decode cX8_tariffSheet 138 = .ok (.iload 4, 2) := by decide +kernel
theorem dX8_tariffSheet_140 : decode cX8_tariffSheet 140 = .ok (.aload_n 2, 1) := by decide +kernel
theorem dX8_tariffSheet_141 : decode cX8_tariffSheet 141 = .ok (.getfield 200, 3) := by decide +kernel
theorem dX8_tariffSheet_144 : decode cX8_tariffSheet 144 = .ok (.if_icmp .ge 63, 3) := by decide +kernel
theorem dX8_tariffSheet_147 : decode cX8_tariffSheet 147 = .ok (.aload_n 0, 1) := by decide +kernel
theorem dX8_tariffSheet_148 : decode cX8_tariffSheet 148 = .ok (.ldc 138, 2) := by decide +kernel
theorem dX8_tariffSheet_150 : decode cX8_tariffSheet 150 = .ok (.aload_n 2, 1) := by decide +kernel
theorem dX8_tariffSheet_151 : decode cX8_tariffSheet 151 = .ok (.getfield 203, 3) := by decide +kernel
theorem dX8_tariffSheet_154 : decode cX8_tariffSheet 154 = .ok (.iload 4, 2) := by decide +kernel
theorem dX8_tariffSheet_156 : decode cX8_tariffSheet 156 = .ok (.iaload, 1) := by decide +kernel
theorem dX8_tariffSheet_157 : decode cX8_tariffSheet 157 = .ok (.i2l, 1) := by decide +kernel
theorem dX8_tariffSheet_158 : decode cX8_tariffSheet 158 = .ok (.invokevirtual 68, 3) := by decide +kernel
theorem dX8_tariffSheet_161 : decode cX8_tariffSheet 161 = .ok (.aload_n 0, 1) := by decide +kernel
theorem dX8_tariffSheet_162 : decode cX8_tariffSheet 162 = .ok (.ldc 206, 2) := by decide +kernel
theorem dX8_tariffSheet_164 : decode cX8_tariffSheet 164 = .ok (.aload_n 2, 1) := by decide +kernel
theorem dX8_tariffSheet_165 : decode cX8_tariffSheet 165 = .ok (.getfield 208, 3) := by decide +kernel
theorem dX8_tariffSheet_168 : decode cX8_tariffSheet 168 = .ok (.iload 4, 2) := by decide +kernel
theorem dX8_tariffSheet_170 : decode cX8_tariffSheet 170 = .ok (.iaload, 1) := by decide +kernel
theorem dX8_tariffSheet_171 : decode cX8_tariffSheet 171 = .ok (.i2l, 1) := by decide +kernel
theorem dX8_tariffSheet_172 : decode cX8_tariffSheet 172 = .ok (.invokevirtual 68, 3) := by decide +kernel
theorem dX8_tariffSheet_175 : decode cX8_tariffSheet 175 = .ok (.aload_n 0, 1) := by decide +kernel
theorem dX8_tariffSheet_176 : decode cX8_tariffSheet 176 = .ok (.aload_n 2, 1) := by decide +kernel
theorem dX8_tariffSheet_177 : decode cX8_tariffSheet 177 = .ok (.getfield 208, 3) := by decide +kernel
theorem dX8_tariffSheet_180 : decode cX8_tariffSheet 180 = .ok (.iload 4, 2) := by decide +kernel
theorem dX8_tariffSheet_182 : decode cX8_tariffSheet 182 = .ok (.iaload, 1) := by decide +kernel
theorem dX8_tariffSheet_183 : decode cX8_tariffSheet 183 = .ok (.aload_n 3, 1) := by decide +kernel
theorem dX8_tariffSheet_184 : decode cX8_tariffSheet 184 = .ok (.getfield 208, 3) := by decide +kernel
theorem dX8_tariffSheet_187 : decode cX8_tariffSheet 187 = .ok (.iload 4, 2) := by decide +kernel
theorem dX8_tariffSheet_189 : decode cX8_tariffSheet 189 = .ok (.iaload, 1) := by decide +kernel
theorem dX8_tariffSheet_190 : decode cX8_tariffSheet 190 = .ok (.if_icmp .eq 7, 3) := by decide +kernel
theorem dX8_tariffSheet_193 : decode cX8_tariffSheet 193 = .ok (.iconst 1, 1) := by decide +kernel
theorem dX8_tariffSheet_194 : decode cX8_tariffSheet 194 = .ok (.goto 4, 3) := by decide +kernel
theorem dX8_tariffSheet_197 : decode cX8_tariffSheet 197 = .ok (.iconst 0, 1) := by decide +kernel
theorem dX8_tariffSheet_198 : decode cX8_tariffSheet 198 = .ok (.invokevirtual 196, 3) := by decide +kernel
theorem dX8_tariffSheet_201 : decode cX8_tariffSheet 201 = .ok (.iinc 4 1, 3) := by decide +kernel
theorem dX8_tariffSheet_204 : decode cX8_tariffSheet 204 = .ok (.goto (-66), 3) := by decide +kernel
theorem dX8_tariffSheet_207 : decode cX8_tariffSheet 207 = .ok (.aload_n 0, 1) := by decide +kernel
theorem dX8_tariffSheet_208 : decode cX8_tariffSheet 208 = .ok (.ldc 211, 2) := by decide +kernel
theorem dX8_tariffSheet_210 : decode cX8_tariffSheet 210 = .ok (.aload_n 2, 1) := by decide +kernel
theorem dX8_tariffSheet_211 : decode cX8_tariffSheet 211 = .ok (.getfield 213, 3) := by decide +kernel
theorem dX8_tariffSheet_214 : decode cX8_tariffSheet 214 = .ok (.i2l, 1) := by decide +kernel
theorem dX8_tariffSheet_215 : decode cX8_tariffSheet 215 = .ok (.invokevirtual 68, 3) := by decide +kernel
theorem dX8_tariffSheet_218 : decode cX8_tariffSheet 218 = .ok (.aload_n 0, 1) := by decide +kernel
theorem dX8_tariffSheet_219 : decode cX8_tariffSheet 219 = .ok (.ldc 216, 2) := by decide +kernel
theorem dX8_tariffSheet_221 : decode cX8_tariffSheet 221 = .ok (.aload_n 2, 1) := by decide +kernel
theorem dX8_tariffSheet_222 : decode cX8_tariffSheet 222 = .ok (.getfield 218, 3) := by decide +kernel
theorem dX8_tariffSheet_225 : decode cX8_tariffSheet 225 = .ok (.i2l, 1) := by decide +kernel
theorem dX8_tariffSheet_226 : decode cX8_tariffSheet 226 = .ok (.invokevirtual 68, 3) := by decide +kernel
theorem dX8_tariffSheet_229 : decode cX8_tariffSheet 229 = .ok (.aload_n 0, 1) := by decide +kernel
theorem dX8_tariffSheet_230 : decode cX8_tariffSheet 230 = .ok (.ldc 221, 2) := by decide +kernel
theorem dX8_tariffSheet_232 : decode cX8_tariffSheet 232 = .ok (.aload_n 2, 1) := by decide +kernel
theorem dX8_tariffSheet_233 : decode cX8_tariffSheet 233 = .ok (.getfield 223, 3) := by decide +kernel
theorem dX8_tariffSheet_236 : decode cX8_tariffSheet 236 = .ok (.i2l, 1) := by decide +kernel
theorem dX8_tariffSheet_237 : decode cX8_tariffSheet 237 = .ok (.invokevirtual 68, 3) := by decide +kernel
theorem dX8_tariffSheet_240 : decode cX8_tariffSheet 240 = .ok (.aload_n 0, 1) := by decide +kernel
theorem dX8_tariffSheet_241 : decode cX8_tariffSheet 241 = .ok (.iconst 0, 1) := by decide +kernel
theorem dX8_tariffSheet_242 : decode cX8_tariffSheet 242 = .ok (.invokevirtual 196, 3) := by decide +kernel
theorem dX8_tariffSheet_245 : decode cX8_tariffSheet 245 = .ok (.aload_n 0, 1) := by decide +kernel
theorem dX8_tariffSheet_246 : decode cX8_tariffSheet 246 = .ok (.ldc 226, 2) := by decide +kernel
theorem dX8_tariffSheet_248 : decode cX8_tariffSheet 248 = .ok (.aload_n 2, 1) := by decide +kernel
theorem dX8_tariffSheet_249 : decode cX8_tariffSheet 249 = .ok (.getfield 228, 3) := by decide +kernel
theorem dX8_tariffSheet_252 : decode cX8_tariffSheet 252 = .ok (.i2l, 1) := by decide +kernel
theorem dX8_tariffSheet_253 : decode cX8_tariffSheet 253 = .ok (.invokevirtual 68, 3) := by decide +kernel
theorem dX8_tariffSheet_256 : decode cX8_tariffSheet 256 = .ok (.aload_n 0, 1) := by decide +kernel
theorem dX8_tariffSheet_257 : decode cX8_tariffSheet 257 = .ok (.ldc 191, 2) := by decide +kernel
theorem dX8_tariffSheet_259 : decode cX8_tariffSheet 259 = .ok (.aload_n 2, 1) := by decide +kernel
theorem dX8_tariffSheet_260 : decode cX8_tariffSheet 260 = .ok (.getfield 231, 3) := by decide +kernel
theorem dX8_tariffSheet_263 : decode cX8_tariffSheet 263 = .ok (.i2l, 1) := by decide +kernel
theorem dX8_tariffSheet_264 : decode cX8_tariffSheet 264 = .ok (.invokevirtual 68, 3) := by decide +kernel
theorem dX8_tariffSheet_267 : decode cX8_tariffSheet 267 = .ok (.aload_n 0, 1) := by decide +kernel
theorem dX8_tariffSheet_268 : decode cX8_tariffSheet 268 = .ok (.aload_n 2, 1) := by decide +kernel
theorem dX8_tariffSheet_269 : decode cX8_tariffSheet 269 = .ok (.getfield 228, 3) := by decide +kernel
theorem dX8_tariffSheet_272 : decode cX8_tariffSheet 272 = .ok (.aload_n 3, 1) := by decide +kernel
theorem dX8_tariffSheet_273 : decode cX8_tariffSheet 273 = .ok (.getfield 228, 3) := by decide +kernel
theorem dX8_tariffSheet_276 : decode cX8_tariffSheet 276 = .ok (.if_icmp .ne 14, 3) := by decide +kernel
theorem dX8_tariffSheet_279 : decode cX8_tariffSheet 279 = .ok (.aload_n 2, 1) := by decide +kernel
theorem dX8_tariffSheet_280 : decode cX8_tariffSheet 280 = .ok (.getfield 231, 3) := by decide +kernel
theorem dX8_tariffSheet_283 : decode cX8_tariffSheet 283 = .ok (.aload_n 3, 1) := by decide +kernel
theorem dX8_tariffSheet_284 : decode cX8_tariffSheet 284 = .ok (.getfield 231, 3) := by decide +kernel
theorem dX8_tariffSheet_287 : decode cX8_tariffSheet 287 = .ok (.if_icmp .eq 7, 3) := by decide +kernel
theorem dX8_tariffSheet_290 : decode cX8_tariffSheet 290 = .ok (.iconst 1, 1) := by decide +kernel
theorem dX8_tariffSheet_291 : decode cX8_tariffSheet 291 = .ok (.goto 4, 3) := by decide +kernel
theorem dX8_tariffSheet_294 : decode cX8_tariffSheet 294 = .ok (.iconst 0, 1) := by decide +kernel
theorem dX8_tariffSheet_295 : decode cX8_tariffSheet 295 = .ok (.invokevirtual 196, 3) := by decide +kernel
theorem dX8_tariffSheet_298 : decode cX8_tariffSheet 298 = .ok (.return_, 1) := by decide +kernel
theorem dX8_endTariffLine_0 : decode cX8_endTariffLine 0 = .ok (.aload_n 0, 1) := by decide +kernel
theorem dX8_endTariffLine_1 : decode cX8_endTariffLine 1 = .ok (.getfield 19, 3) := by decide +kernel
theorem dX8_endTariffLine_4 : decode cX8_endTariffLine 4 = .ok (.iload_n 1, 1) := by decide +kernel
theorem dX8_endTariffLine_5 : decode cX8_endTariffLine 5 = .ok (.ifCond .eq 8, 3) := by decide +kernel
theorem dX8_endTariffLine_8 : decode cX8_endTariffLine 8 = .ok (.ldc 234, 2) := by decide +kernel
theorem dX8_endTariffLine_10 : decode cX8_endTariffLine 10 = .ok (.goto 5, 3) := by decide +kernel
theorem dX8_endTariffLine_13 : decode cX8_endTariffLine 13 = .ok (.ldc 236, 2) := by decide +kernel
theorem dX8_endTariffLine_15 : decode cX8_endTariffLine 15 = .ok (.invokevirtual 83, 3) := by decide +kernel
theorem dX8_endTariffLine_18 : decode cX8_endTariffLine 18 = .ok (.return_, 1) := by decide +kernel
theorem dX8_shipName_0 : decode cX8_shipName 0 = .ok (.iconst 0, 1) := by decide +kernel
theorem dX8_shipName_1 : decode cX8_shipName 1 = .ok (.istore_n 2, 1) := by decide +kernel
theorem dX8_shipName_2 : decode cX8_shipName 2 = .ok (.iload_n 2, 1) := by decide +kernel
theorem dX8_shipName_3 : decode cX8_shipName 3 = .ok (.aload_n 1, 1) := by decide +kernel
theorem dX8_shipName_4 : decode cX8_shipName 4 = .ok (.getfield 238, 3) := by decide +kernel
theorem dX8_shipName_7 : decode cX8_shipName 7 = .ok (.if_icmp .ge 22, 3) := by decide +kernel
theorem dX8_shipName_10 : decode cX8_shipName 10 = .ok (.aload_n 0, 1) := by decide +kernel
theorem dX8_shipName_11 : decode cX8_shipName 11 = .ok (.getfield 19, 3) := by decide +kernel
theorem dX8_shipName_14 : decode cX8_shipName 14 = .ok (.aload_n 1, 1) := by decide +kernel
theorem dX8_shipName_15 : decode cX8_shipName 15 = .ok (.getfield 243, 3) := by decide +kernel
theorem dX8_shipName_18 : decode cX8_shipName 18 = .ok (.iload_n 2, 1) := by decide +kernel
theorem dX8_shipName_19 : decode cX8_shipName 19 = .ok (.baload, 1) := by decide +kernel
theorem dX8_shipName_20 : decode cX8_shipName 20 = .ok (.invokevirtual 39, 3) := by decide +kernel
theorem dX8_shipName_23 : decode cX8_shipName 23 = .ok (.iinc 2 1, 3) := by decide +kernel
theorem dX8_shipName_26 : decode cX8_shipName 26 = .ok (.goto (-24), 3) := by decide +kernel
theorem dX8_shipName_29 : decode cX8_shipName 29 = .ok (.return_, 1) := by decide +kernel
theorem dX8_wordAndNumber_0 : decode cX8_wordAndNumber 0 = .ok (.aload_n 0, 1) := by decide +kernel
theorem dX8_wordAndNumber_1 : decode cX8_wordAndNumber 1 = .ok (.getfield 19, 3) := by decide +kernel
theorem dX8_wordAndNumber_4 : decode cX8_wordAndNumber 4 = .ok (.aload_n 1, 1) := by decide +kernel
theorem dX8_wordAndNumber_5 : decode cX8_wordAndNumber 5 = .ok (.invokevirtual 83, 3) := by decide +kernel
theorem dX8_wordAndNumber_8 : decode cX8_wordAndNumber 8 = .ok (.aload_n 0, 1) := by decide +kernel
theorem dX8_wordAndNumber_9 : decode cX8_wordAndNumber 9 = .ok (.getfield 19, 3) := by decide +kernel
theorem dX8_wordAndNumber_12 : decode cX8_wordAndNumber 12 = .ok (.lload_n 2, 1) := by decide +kernel
theorem dX8_wordAndNumber_13 : decode cX8_wordAndNumber 13 = .ok (.invokevirtual 52, 3) := by decide +kernel
theorem dX8_wordAndNumber_16 : decode cX8_wordAndNumber 16 = .ok (.return_, 1) := by decide +kernel
theorem dX9_init_0 : decode cX9_init 0 = .ok (.aload_n 0, 1) := by decide +kernel
theorem dX9_init_1 : decode cX9_init 1 = .ok (.invokespecial 3, 3) := by decide +kernel
theorem dX9_init_4 : decode cX9_init 4 = .ok (.aload_n 0, 1) := by decide +kernel
theorem dX9_init_5 : decode cX9_init 5 = .ok (.bipush 6, 2) := by decide +kernel
theorem dX9_init_7 : decode cX9_init 7 = .ok (.newarray .byte, 2) := by decide +kernel
theorem dX9_init_9 : decode cX9_init 9 = .ok (.putfield 9, 3) := by decide +kernel
theorem dX9_init_12 : decode cX9_init 12 = .ok (.return_, 1) := by decide +kernel
theorem dX9_copyFrom_0 : decode cX9_copyFrom 0 = .ok (.aload_n 1, 1) := by decide +kernel
theorem dX9_copyFrom_1 : decode cX9_copyFrom 1 = .ok (.getfield 9, 3) := by decide +kernel
theorem dX9_copyFrom_4 : decode cX9_copyFrom 4 = .ok (.iconst 0, 1) := by decide +kernel
theorem dX9_copyFrom_5 : decode cX9_copyFrom 5 = .ok (.aload_n 0, 1) := by decide +kernel
theorem dX9_copyFrom_6 : decode cX9_copyFrom 6 = .ok (.getfield 9, 3) := by decide +kernel
theorem dX9_copyFrom_9 : decode cX9_copyFrom 9 = .ok (.iconst 0, 1) := by decide +kernel
theorem dX9_copyFrom_10 : decode cX9_copyFrom 10 = .ok (.bipush 6, 2) := by decide +kernel
theorem dX9_copyFrom_12 : decode cX9_copyFrom 12 = .ok (.invokestatic 15, 3) := by decide +kernel
theorem dX9_copyFrom_15 : decode cX9_copyFrom 15 = .ok (.aload_n 0, 1) := by decide +kernel
theorem dX9_copyFrom_16 : decode cX9_copyFrom 16 = .ok (.aload_n 1, 1) := by decide +kernel
theorem dX9_copyFrom_17 : decode cX9_copyFrom 17 = .ok (.getfield 21, 3) := by decide +kernel
theorem dX9_copyFrom_20 : decode cX9_copyFrom 20 = .ok (.putfield 21, 3) := by decide +kernel
theorem dX9_copyFrom_23 : decode cX9_copyFrom 23 = .ok (.aload_n 0, 1) := by decide +kernel
theorem dX9_copyFrom_24 : decode cX9_copyFrom 24 = .ok (.aload_n 1, 1) := by decide +kernel
theorem dX9_copyFrom_25 : decode cX9_copyFrom 25 = .ok (.getfield 25, 3) := by decide +kernel
theorem dX9_copyFrom_28 : decode cX9_copyFrom 28 = .ok (.putfield 25, 3) := by decide +kernel
theorem dX9_copyFrom_31 : decode cX9_copyFrom 31 = .ok (.aload_n 0, 1) := by decide +kernel
theorem dX9_copyFrom_32 : decode cX9_copyFrom 32 = .ok (.aload_n 1, 1) := by decide +kernel
theorem dX9_copyFrom_33 : decode cX9_copyFrom 33 = .ok (.getfield 28, 3) := by decide +kernel
theorem dX9_copyFrom_36 : decode cX9_copyFrom 36 = .ok (.putfield 28, 3) := by decide +kernel
theorem dX9_copyFrom_39 : decode cX9_copyFrom 39 = .ok (.return_, 1) := by decide +kernel
theorem dX9_takeName_0 : decode cX9_takeName 0 = .ok (.aload_n 0, 1) := by decide +kernel
theorem dX9_takeName_1 : decode cX9_takeName 1 = .ok (.iload_n 3, 1) := by decide +kernel
theorem dX9_takeName_2 : decode cX9_takeName 2 = .ok (.iload_n 2, 1) := by decide +kernel
theorem dX9_takeName_3 : decode cX9_takeName 3 = .ok (.isub, 1) := by decide +kernel
theorem dX9_takeName_4 : decode cX9_takeName 4 = .ok (.bipush 6, 2) := by decide +kernel
theorem dX9_takeName_6 : decode cX9_takeName 6 = .ok (.invokestatic 32, 3) := by decide +kernel
theorem dX9_takeName_9 : decode cX9_takeName 9 = .ok (.putfield 21, 3) := by decide +kernel
theorem dX9_takeName_12 : decode cX9_takeName 12 = .ok (.iconst 0, 1) := by decide +kernel
theorem dX9_takeName_13 : decode cX9_takeName 13 = .ok (.istore 4, 2) := by decide +kernel
theorem dX9_takeName_15 : decode cX9_takeName 15 = .ok (.iload 4, 2) := by decide +kernel
theorem dX9_takeName_17 : decode cX9_takeName 17 = .ok (.aload_n 0, 1) := by decide +kernel
theorem dX9_takeName_18 : decode cX9_takeName 18 = .ok (.getfield 21, 3) := by decide +kernel
theorem dX9_takeName_21 : decode cX9_takeName 21 = .ok (.if_icmp .ge 25, 3) := by decide +kernel
theorem dX9_takeName_24 : decode cX9_takeName 24 = .ok (.aload_n 0, 1) := by decide +kernel
theorem dX9_takeName_25 : decode cX9_takeName 25 = .ok (.getfield 9, 3) := by decide +kernel
theorem dX9_takeName_28 : decode cX9_takeName 28 = .ok (.iload 4, 2) := by decide +kernel
theorem dX9_takeName_30 : decode cX9_takeName 30 = .ok (.aload_n 1, 1) := by decide +kernel
theorem dX9_takeName_31 : decode cX9_takeName 31 = .ok (.iload_n 2, 1) := by decide +kernel
theorem dX9_takeName_32 : decode cX9_takeName 32 = .ok (.iload 4, 2) := by decide +kernel
theorem dX9_takeName_34 : decode cX9_takeName 34 = .ok (.iadd, 1) := by decide +kernel
theorem dX9_takeName_35 : decode cX9_takeName 35 = .ok (.invokevirtual 38, 3) := by decide +kernel
theorem dX9_takeName_38 : decode cX9_takeName 38 = .ok (.i2b, 1) := by decide +kernel
theorem dX9_takeName_39 : decode cX9_takeName 39 = .ok (.bastore, 1) := by decide +kernel
theorem dX9_takeName_40 : decode cX9_takeName 40 = .ok (.iinc 4 1, 3) := by decide +kernel
theorem dX9_takeName_43 : decode cX9_takeName 43 = .ok (.goto (-28), 3) := by decide +kernel
theorem dX9_takeName_46 : decode cX9_takeName 46 = .ok (.return_, 1) := by decide +kernel
theorem dX9_isNamed_0 : decode cX9_isNamed 0 = .ok (.iload_n 3, 1) := by decide +kernel
theorem dX9_isNamed_1 : decode cX9_isNamed 1 = .ok (.iload_n 2, 1) := by decide +kernel
theorem dX9_isNamed_2 : decode cX9_isNamed 2 = .ok (.isub, 1) := by decide +kernel
theorem dX9_isNamed_3 : decode cX9_isNamed 3 = .ok (.aload_n 0, 1) := by decide +kernel
theorem dX9_isNamed_4 : decode cX9_isNamed 4 = .ok (.getfield 21, 3) := by decide +kernel
theorem dX9_isNamed_7 : decode cX9_isNamed 7 = .ok (.if_icmp .eq 5, 3) := by decide +kernel
theorem dX9_isNamed_10 : decode cX9_isNamed 10 = .ok (.iconst 0, 1) := by decide +kernel
theorem dX9_isNamed_11 : decode cX9_isNamed 11 = .ok (.ireturn, 1) := by decide +kernel
theorem dX9_isNamed_12 : decode cX9_isNamed 12 = .ok (.iconst 0, 1) := by decide +kernel
theorem dX9_isNamed_13 : decode cX9_isNamed 13 = .ok (.istore 4, 2) := by decide +kernel
theorem dX9_isNamed_15 : decode cX9_isNamed 15 = .ok (.iload 4, 2) := by decide +kernel
theorem dX9_isNamed_17 : decode cX9_isNamed 17 = .ok (.aload_n 0, 1) := by decide +kernel
theorem dX9_isNamed_18 : decode cX9_isNamed 18 = .ok (.getfield 21, 3) := by decide +kernel
theorem dX9_isNamed_21 : decode cX9_isNamed 21 = .ok (.if_icmp .ge 29, 3) := by decide +kernel
theorem dX9_isNamed_24 : decode cX9_isNamed 24 = .ok (.aload_n 0, 1) := by decide +kernel
theorem dX9_isNamed_25 : decode cX9_isNamed 25 = .ok (.getfield 9, 3) := by decide +kernel
theorem dX9_isNamed_28 : decode cX9_isNamed 28 = .ok (.iload 4, 2) := by decide +kernel
theorem dX9_isNamed_30 : decode cX9_isNamed 30 = .ok (.baload, 1) := by decide +kernel
theorem dX9_isNamed_31 : decode cX9_isNamed 31 = .ok (.aload_n 1, 1) := by decide +kernel
theorem dX9_isNamed_32 : decode cX9_isNamed 32 = .ok (.iload_n 2, 1) := by decide +kernel
theorem dX9_isNamed_33 : decode cX9_isNamed 33 = .ok (.iload 4, 2) := by decide +kernel
theorem dX9_isNamed_35 : decode cX9_isNamed 35 = .ok (.iadd, 1) := by decide +kernel
theorem dX9_isNamed_36 : decode cX9_isNamed 36 = .ok (.invokevirtual 38, 3) := by decide +kernel
theorem dX9_isNamed_39 : decode cX9_isNamed 39 = .ok (.if_icmp .eq 5, 3) := by decide +kernel
theorem dX9_isNamed_42 : decode cX9_isNamed 42 = .ok (.iconst 0, 1) := by decide +kernel
theorem dX9_isNamed_43 : decode cX9_isNamed 43 = .ok (.ireturn, 1) := by decide +kernel
theorem dX9_isNamed_44 : decode cX9_isNamed 44 = .ok (.iinc 4 1, 3) := by decide +kernel
theorem dX9_isNamed_47 : decode cX9_isNamed 47 = .ok (.goto (-32), 3) := by decide +kernel
theorem dX9_isNamed_50 : decode cX9_isNamed 50 = .ok (.iconst 1, 1) := by decide +kernel
theorem dX9_isNamed_51 : decode cX9_isNamed 51 = .ok (.ireturn, 1) := by decide +kernel
theorem dX10_init_0 : decode cX10_init 0 = .ok (.aload_n 0, 1) := by decide +kernel
theorem dX10_init_1 : decode cX10_init 1 = .ok (.invokespecial 3, 3) := by decide +kernel
theorem dX10_init_4 : decode cX10_init 4 = .ok (.aload_n 0, 1) := by decide +kernel
theorem dX10_init_5 : decode cX10_init 5 = .ok (.bipush 6, 2) := by decide +kernel
theorem dX10_init_7 : decode cX10_init 7 = .ok (.newarray .int, 2) := by decide +kernel
theorem dX10_init_9 : decode cX10_init 9 = .ok (.putfield 9, 3) := by decide +kernel
theorem dX10_init_12 : decode cX10_init 12 = .ok (.aload_n 0, 1) := by decide +kernel
theorem dX10_init_13 : decode cX10_init 13 = .ok (.bipush 6, 2) := by decide +kernel
theorem dX10_init_15 : decode cX10_init 15 = .ok (.newarray .int, 2) := by decide +kernel
theorem dX10_init_17 : decode cX10_init 17 = .ok (.putfield 15, 3) := by decide +kernel
theorem dX10_init_20 : decode cX10_init 20 = .ok (.aload_n 0, 1) := by decide +kernel
theorem dX10_init_21 : decode cX10_init 21 = .ok (.iconst 4, 1) := by decide +kernel
theorem dX10_init_22 : decode cX10_init 22 = .ok (.newarray .int, 2) := by decide +kernel
theorem dX10_init_24 : decode cX10_init 24 = .ok (.putfield 18, 3) := by decide +kernel
theorem dX10_init_27 : decode cX10_init 27 = .ok (.aload_n 0, 1) := by decide +kernel
theorem dX10_init_28 : decode cX10_init 28 = .ok (.iconst 4, 1) := by decide +kernel
theorem dX10_init_29 : decode cX10_init 29 = .ok (.newarray .int, 2) := by decide +kernel
theorem dX10_init_31 : decode cX10_init 31 = .ok (.putfield 21, 3) := by decide +kernel
theorem dX10_init_34 : decode cX10_init 34 = .ok (.aload_n 0, 1) := by decide +kernel
theorem dX10_init_35 : decode cX10_init 35 = .ok (.bipush 30, 2) := by decide +kernel
theorem dX10_init_37 : decode cX10_init 37 = .ok (.putfield 24, 3) := by decide +kernel
theorem dX10_init_40 : decode cX10_init 40 = .ok (.return_, 1) := by decide +kernel
theorem dX10_clear_0 : decode cX10_clear 0 = .ok (.aload_n 0, 1) := by decide +kernel
theorem dX10_clear_1 : decode cX10_clear 1 = .ok (.iconst 0, 1) := by decide +kernel
theorem dX10_clear_2 : decode cX10_clear 2 = .ok (.putfield 28, 3) := by decide +kernel
theorem dX10_clear_5 : decode cX10_clear 5 = .ok (.aload_n 0, 1) := by decide +kernel
theorem dX10_clear_6 : decode cX10_clear 6 = .ok (.iconst 0, 1) := by decide +kernel
theorem dX10_clear_7 : decode cX10_clear 7 = .ok (.putfield 31, 3) := by decide +kernel
theorem dX10_clear_10 : decode cX10_clear 10 = .ok (.aload_n 0, 1) := by decide +kernel
theorem dX10_clear_11 : decode cX10_clear 11 = .ok (.iconst 0, 1) := by decide +kernel
theorem dX10_clear_12 : decode cX10_clear 12 = .ok (.putfield 34, 3) := by decide +kernel
theorem dX10_clear_15 : decode cX10_clear 15 = .ok (.aload_n 0, 1) := by decide +kernel
theorem dX10_clear_16 : decode cX10_clear 16 = .ok (.iconst 0, 1) := by decide +kernel
theorem dX10_clear_17 : decode cX10_clear 17 = .ok (.putfield 38, 3) := by decide +kernel
theorem dX10_clear_20 : decode cX10_clear 20 = .ok (.aload_n 0, 1) := by decide +kernel
theorem dX10_clear_21 : decode cX10_clear 21 = .ok (.iconst 0, 1) := by decide +kernel
theorem dX10_clear_22 : decode cX10_clear 22 = .ok (.putfield 41, 3) := by decide +kernel
theorem dX10_clear_25 : decode cX10_clear 25 = .ok (.aload_n 0, 1) := by decide +kernel
theorem dX10_clear_26 : decode cX10_clear 26 = .ok (.iconst 0, 1) := by decide +kernel
theorem dX10_clear_27 : decode cX10_clear 27 = .ok (.putfield 44, 3) := by decide +kernel
theorem dX10_clear_30 : decode cX10_clear 30 = .ok (.aload_n 0, 1) := by decide +kernel
theorem dX10_clear_31 : decode cX10_clear 31 = .ok (.bipush 30, 2) := by decide +kernel
theorem dX10_clear_33 : decode cX10_clear 33 = .ok (.putfield 24, 3) := by decide +kernel
theorem dX10_clear_36 : decode cX10_clear 36 = .ok (.aload_n 0, 1) := by decide +kernel
theorem dX10_clear_37 : decode cX10_clear 37 = .ok (.iconst 0, 1) := by decide +kernel
theorem dX10_clear_38 : decode cX10_clear 38 = .ok (.putfield 47, 3) := by decide +kernel
theorem dX10_clear_41 : decode cX10_clear 41 = .ok (.return_, 1) := by decide +kernel
theorem dX10_copyFrom_0 : decode cX10_copyFrom 0 = .ok (.aload_n 1, 1) := by decide +kernel
theorem dX10_copyFrom_1 : decode cX10_copyFrom 1 = .ok (.getfield 9, 3) := by decide +kernel
theorem dX10_copyFrom_4 : decode cX10_copyFrom 4 = .ok (.iconst 0, 1) := by decide +kernel
theorem dX10_copyFrom_5 : decode cX10_copyFrom 5 = .ok (.aload_n 0, 1) := by decide +kernel
theorem dX10_copyFrom_6 : decode cX10_copyFrom 6 = .ok (.getfield 9, 3) := by decide +kernel
theorem dX10_copyFrom_9 : decode cX10_copyFrom 9 = .ok (.iconst 0, 1) := by decide +kernel
theorem dX10_copyFrom_10 : decode cX10_copyFrom 10 = .ok (.bipush 6, 2) := by decide +kernel
theorem dX10_copyFrom_12 : decode cX10_copyFrom 12 = .ok (.invokestatic 50, 3) := by decide +kernel
theorem dX10_copyFrom_15 : decode cX10_copyFrom 15 = .ok (.aload_n 1, 1) := by decide +kernel
theorem dX10_copyFrom_16 : decode cX10_copyFrom 16 = .ok (.getfield 15, 3) := by decide +kernel
theorem dX10_copyFrom_19 : decode cX10_copyFrom 19 = .ok (.iconst 0, 1) := by decide +kernel
theorem dX10_copyFrom_20 : decode cX10_copyFrom 20 = .ok (.aload_n 0, 1) := by decide +kernel
theorem dX10_copyFrom_21 : decode cX10_copyFrom 21 = .ok (.getfield 15, 3) := by decide +kernel
theorem dX10_copyFrom_24 : decode cX10_copyFrom 24 = .ok (.iconst 0, 1) := by decide +kernel
theorem dX10_copyFrom_25 : decode cX10_copyFrom 25 = .ok (.bipush 6, 2) := by decide +kernel
theorem dX10_copyFrom_27 : decode cX10_copyFrom 27 = .ok (.invokestatic 50, 3) := by decide +kernel
theorem dX10_copyFrom_30 : decode cX10_copyFrom 30 = .ok (.aload_n 1, 1) := by decide +kernel
theorem dX10_copyFrom_31 : decode cX10_copyFrom 31 = .ok (.getfield 18, 3) := by decide +kernel
theorem dX10_copyFrom_34 : decode cX10_copyFrom 34 = .ok (.iconst 0, 1) := by decide +kernel
theorem dX10_copyFrom_35 : decode cX10_copyFrom 35 = .ok (.aload_n 0, 1) := by decide +kernel
theorem dX10_copyFrom_36 : decode cX10_copyFrom 36 = .ok (.getfield 18, 3) := by decide +kernel
theorem dX10_copyFrom_39 : decode cX10_copyFrom 39 = .ok (.iconst 0, 1) := by decide +kernel
theorem dX10_copyFrom_40 : decode cX10_copyFrom 40 = .ok (.iconst 4, 1) := by decide +kernel
theorem dX10_copyFrom_41 : decode cX10_copyFrom 41 = .ok (.invokestatic 50, 3) := by decide +kernel
theorem dX10_copyFrom_44 : decode cX10_copyFrom 44 = .ok (.aload_n 1, 1) := by decide +kernel
theorem dX10_copyFrom_45 : decode cX10_copyFrom 45 = .ok (.getfield 21, 3) := by decide +kernel
theorem dX10_copyFrom_48 : decode cX10_copyFrom 48 = .ok (.iconst 0, 1) := by decide +kernel
theorem dX10_copyFrom_49 : decode cX10_copyFrom 49 = .ok (.aload_n 0, 1) := by decide +kernel
theorem dX10_copyFrom_50 : decode cX10_copyFrom 50 = .ok (.getfield 21, 3) := by decide +kernel
theorem dX10_copyFrom_53 : decode cX10_copyFrom 53 = .ok (.iconst 0, 1) := by decide +kernel
theorem dX10_copyFrom_54 : decode cX10_copyFrom 54 = .ok (.iconst 4, 1) := by decide +kernel
theorem dX10_copyFrom_55 : decode cX10_copyFrom 55 = .ok (.invokestatic 50, 3) := by decide +kernel
theorem dX10_copyFrom_58 : decode cX10_copyFrom 58 = .ok (.aload_n 0, 1) := by decide +kernel
theorem dX10_copyFrom_59 : decode cX10_copyFrom 59 = .ok (.aload_n 1, 1) := by decide +kernel
theorem dX10_copyFrom_60 : decode cX10_copyFrom 60 = .ok (.getfield 28, 3) := by decide +kernel
theorem dX10_copyFrom_63 : decode cX10_copyFrom 63 = .ok (.putfield 28, 3) := by decide +kernel
theorem dX10_copyFrom_66 : decode cX10_copyFrom 66 = .ok (.aload_n 0, 1) := by decide +kernel
theorem dX10_copyFrom_67 : decode cX10_copyFrom 67 = .ok (.aload_n 1, 1) := by decide +kernel
theorem dX10_copyFrom_68 : decode cX10_copyFrom 68 = .ok (.getfield 31, 3) := by decide +kernel
theorem dX10_copyFrom_71 : decode cX10_copyFrom 71 = .ok (.putfield 31, 3) := by decide +kernel
theorem dX10_copyFrom_74 : decode cX10_copyFrom 74 = .ok (.aload_n 0, 1) := by decide +kernel
theorem dX10_copyFrom_75 : decode cX10_copyFrom 75 = .ok (.aload_n 1, 1) := by decide +kernel
theorem dX10_copyFrom_76 : decode cX10_copyFrom 76 = .ok (.getfield 34, 3) := by decide +kernel
theorem dX10_copyFrom_79 : decode cX10_copyFrom 79 = .ok (.putfield 34, 3) := by decide +kernel
theorem dX10_copyFrom_82 : decode cX10_copyFrom 82 = .ok (.aload_n 0, 1) := by decide +kernel
theorem dX10_copyFrom_83 : decode cX10_copyFrom 83 = .ok (.aload_n 1, 1) := by decide +kernel
theorem dX10_copyFrom_84 : decode cX10_copyFrom 84 = .ok (.getfield 38, 3) := by decide +kernel
theorem dX10_copyFrom_87 : decode cX10_copyFrom 87 = .ok (.putfield 38, 3) := by decide +kernel
theorem dX10_copyFrom_90 : decode cX10_copyFrom 90 = .ok (.aload_n 0, 1) := by decide +kernel
theorem dX10_copyFrom_91 : decode cX10_copyFrom 91 = .ok (.aload_n 1, 1) := by decide +kernel
theorem dX10_copyFrom_92 : decode cX10_copyFrom 92 = .ok (.getfield 41, 3) := by decide +kernel
theorem dX10_copyFrom_95 : decode cX10_copyFrom 95 = .ok (.putfield 41, 3) := by decide +kernel
theorem dX10_copyFrom_98 : decode cX10_copyFrom 98 = .ok (.aload_n 0, 1) := by decide +kernel
theorem dX10_copyFrom_99 : decode cX10_copyFrom 99 = .ok (.aload_n 1, 1) := by decide +kernel
theorem dX10_copyFrom_100 : decode cX10_copyFrom 100 = .ok (.getfield 44, 3) := by decide +kernel
theorem dX10_copyFrom_103 : decode cX10_copyFrom 103 = .ok (.putfield 44, 3) := by decide +kernel
theorem dX10_copyFrom_106 : decode cX10_copyFrom 106 = .ok (.aload_n 0, 1) := by decide +kernel
theorem dX10_copyFrom_107 : decode cX10_copyFrom 107 = .ok (.aload_n 1, 1) := by decide +kernel
theorem dX10_copyFrom_108 : decode cX10_copyFrom 108 = .ok (.getfield 24, 3) := by decide +kernel
theorem dX10_copyFrom_111 : decode cX10_copyFrom 111 = .ok (.putfield 24, 3) := by decide +kernel
theorem dX10_copyFrom_114 : decode cX10_copyFrom 114 = .ok (.aload_n 0, 1) := by decide +kernel
theorem dX10_copyFrom_115 : decode cX10_copyFrom 115 = .ok (.aload_n 1, 1) := by decide +kernel
theorem dX10_copyFrom_116 : decode cX10_copyFrom 116 = .ok (.getfield 47, 3) := by decide +kernel
theorem dX10_copyFrom_119 : decode cX10_copyFrom 119 = .ok (.putfield 47, 3) := by decide +kernel
theorem dX10_copyFrom_122 : decode cX10_copyFrom 122 = .ok (.return_, 1) := by decide +kernel
theorem dX10_bandWith_0 : decode cX10_bandWith 0 = .ok (.aload_n 0, 1) := by decide +kernel
theorem dX10_bandWith_1 : decode cX10_bandWith 1 = .ok (.getfield 28, 3) := by decide +kernel
theorem dX10_bandWith_4 : decode cX10_bandWith 4 = .ok (.iconst 1, 1) := by decide +kernel
theorem dX10_bandWith_5 : decode cX10_bandWith 5 = .ok (.isub, 1) := by decide +kernel
theorem dX10_bandWith_6 : decode cX10_bandWith 6 = .ok (.istore_n 2, 1) := by decide +kernel
theorem dX10_bandWith_7 : decode cX10_bandWith 7 = .ok (.iload_n 2, 1) := by decide +kernel
theorem dX10_bandWith_8 : decode cX10_bandWith 8 = .ok (.ifCond .lt 21, 3) := by decide +kernel
theorem dX10_bandWith_11 : decode cX10_bandWith 11 = .ok (.aload_n 0, 1) := by decide +kernel
theorem dX10_bandWith_12 : decode cX10_bandWith 12 = .ok (.getfield 9, 3) := by decide +kernel
theorem dX10_bandWith_15 : decode cX10_bandWith 15 = .ok (.iload_n 2, 1) := by decide +kernel
theorem dX10_bandWith_16 : decode cX10_bandWith 16 = .ok (.iaload, 1) := by decide +kernel
theorem dX10_bandWith_17 : decode cX10_bandWith 17 = .ok (.iload_n 1, 1) := by decide +kernel
theorem dX10_bandWith_18 : decode cX10_bandWith 18 = .ok (.if_icmp .gt 5, 3) := by decide +kernel
theorem dX10_bandWith_21 : decode cX10_bandWith 21 = .ok (.iload_n 2, 1) := by decide +kernel
theorem dX10_bandWith_22 : decode cX10_bandWith 22 = .ok (.ireturn, 1) := by decide +kernel
theorem dX10_bandWith_23 : decode cX10_bandWith 23 = .ok (.iinc 2 (-1), 3) := by decide +kernel
theorem dX10_bandWith_26 : decode cX10_bandWith 26 = .ok (.goto (-19), 3) := by decide +kernel
theorem dX10_bandWith_29 : decode cX10_bandWith 29 = .ok (.iconst (-1), 1) := by decide +kernel
theorem dX10_bandWith_30 : decode cX10_bandWith 30 = .ok (.ireturn, 1) := by decide +kernel
theorem dX10_tonsWithin_0 : decode cX10_tonsWithin 0 = .ok (.iload_n 2, 1) := by decide +kernel
theorem dX10_tonsWithin_1 : decode cX10_tonsWithin 1 = .ok (.iconst 1, 1) := by decide +kernel
theorem dX10_tonsWithin_2 : decode cX10_tonsWithin 2 = .ok (.iadd, 1) := by decide +kernel
theorem dX10_tonsWithin_3 : decode cX10_tonsWithin 3 = .ok (.aload_n 0, 1) := by decide +kernel
theorem dX10_tonsWithin_4 : decode cX10_tonsWithin 4 = .ok (.getfield 28, 3) := by decide +kernel
theorem dX10_tonsWithin_7 : decode cX10_tonsWithin 7 = .ok (.if_icmp .ge 18, 3) := by decide +kernel
theorem dX10_tonsWithin_10 : decode cX10_tonsWithin 10 = .ok (.iload_n 1, 1) := by decide +kernel
theorem dX10_tonsWithin_11 : decode cX10_tonsWithin 11 = .ok (.aload_n 0, 1) := by decide +kernel
theorem dX10_tonsWithin_12 : decode cX10_tonsWithin 12 = .ok (.getfield 9, 3) := by decide +kernel
theorem dX10_tonsWithin_15 : decode cX10_tonsWithin 15 = .ok (.iload_n 2, 1) := by decide +kernel
theorem dX10_tonsWithin_16 : decode cX10_tonsWithin 16 = .ok (.iconst 1, 1) := by decide +kernel
theorem dX10_tonsWithin_17 : decode cX10_tonsWithin 17 = .ok (.iadd, 1) := by decide +kernel
theorem dX10_tonsWithin_18 : decode cX10_tonsWithin 18 = .ok (.iaload, 1) := by decide +kernel
theorem dX10_tonsWithin_19 : decode cX10_tonsWithin 19 = .ok (.invokestatic 56, 3) := by decide +kernel
theorem dX10_tonsWithin_22 : decode cX10_tonsWithin 22 = .ok (.goto 4, 3) := by decide +kernel
theorem dX10_tonsWithin_25 : decode cX10_tonsWithin 25 = .ok (.iload_n 1, 1) := by decide +kernel
theorem dX10_tonsWithin_26 : decode cX10_tonsWithin 26 = .ok (.istore_n 3, 1) := by decide +kernel
theorem dX10_tonsWithin_27 : decode cX10_tonsWithin 27 = .ok (.iload_n 3, 1) := by decide +kernel
theorem dX10_tonsWithin_28 : decode cX10_tonsWithin 28 = .ok (.aload_n 0, 1) := by decide +kernel
theorem dX10_tonsWithin_29 : decode cX10_tonsWithin 29 = .ok (.getfield 9, 3) := by decide +kernel
theorem dX10_tonsWithin_32 : decode cX10_tonsWithin 32 = .ok (.iload_n 2, 1) := by decide +kernel
theorem dX10_tonsWithin_33 : decode cX10_tonsWithin 33 = .ok (.iaload, 1) := by decide +kernel
theorem dX10_tonsWithin_34 : decode cX10_tonsWithin 34 = .ok (.isub, 1) := by decide +kernel
theorem dX10_tonsWithin_35 : decode cX10_tonsWithin 35 = .ok (.iconst 0, 1) := by decide +kernel
theorem dX10_tonsWithin_36 : decode cX10_tonsWithin 36 = .ok (.invokestatic 62, 3) := by decide +kernel
theorem dX10_tonsWithin_39 : decode cX10_tonsWithin 39 = .ok (.ireturn, 1) := by decide +kernel
theorem dX10_duesFor_0 : decode cX10_duesFor 0 = .ok (.iconst 0, 1) := by decide +kernel
theorem dX10_duesFor_1 : decode cX10_duesFor 1 = .ok (.istore_n 2, 1) := by decide +kernel
theorem dX10_duesFor_2 : decode cX10_duesFor 2 = .ok (.iload_n 1, 1) := by decide +kernel
theorem dX10_duesFor_3 : decode cX10_duesFor 3 = .ok (.istore_n 3, 1) := by decide +kernel
theorem dX10_duesFor_4 : decode cX10_duesFor 4 = .ok (.aload_n 0, 1) := by decide +kernel
theorem dX10_duesFor_5 : decode cX10_duesFor 5 = .ok (.getfield 28, 3) := by decide +kernel
theorem dX10_duesFor_8 : decode cX10_duesFor 8 = .ok (.iconst 1, 1) := by decide +kernel
theorem dX10_duesFor_9 : decode cX10_duesFor 9 = .ok (.isub, 1) := by decide +kernel
theorem dX10_duesFor_10 : decode cX10_duesFor 10 = .ok (.istore 4, 2) := by decide +kernel
theorem dX10_duesFor_12 : decode cX10_duesFor 12 = .ok (.iload 4, 2) := by decide +kernel
theorem dX10_duesFor_14 : decode cX10_duesFor 14 = .ok (.ifCond .lt 65, 3) := by decide +kernel
theorem dX10_duesFor_17 : decode cX10_duesFor 17 = .ok (.aload_n 0, 1) := by decide +kernel
theorem dX10_duesFor_18 : decode cX10_duesFor 18 = .ok (.getfield 9, 3) := by decide +kernel
theorem dX10_duesFor_21 : decode cX10_duesFor 21 = .ok (.iload 4, 2) := by decide +kernel
theorem dX10_duesFor_23 : decode cX10_duesFor 23 = .ok (.iaload, 1) := by decide +kernel
theorem dX10_duesFor_24 : decode cX10_duesFor 24 = .ok (.iload_n 1, 1) := by decide +kernel
theorem dX10_duesFor_25 : decode cX10_duesFor 25 = .ok (.if_icmp .gt 48, 3) := by decide +kernel
theorem dX10_duesFor_28 : decode cX10_duesFor 28 = .ok (.aload_n 0, 1) := by decide +kernel
theorem dX10_duesFor_29 : decode cX10_duesFor 29 = .ok (.getfield 34, 3) := by decide +kernel
theorem dX10_duesFor_32 : decode cX10_duesFor 32 = .ok (.ifCond .eq 13, 3) := by decide +kernel
theorem dX10_duesFor_35 : decode cX10_duesFor 35 = .ok (.aload_n 0, 1) := by decide +kernel
theorem dX10_duesFor_36 : decode cX10_duesFor 36 = .ok (.getfield 15, 3) := by decide +kernel
theorem dX10_duesFor_39 : decode cX10_duesFor 39 = .ok (.iload 4, 2) := by decide +kernel
theorem dX10_duesFor_41 : decode cX10_duesFor 41 = .ok (.iaload, 1) := by decide +kernel
theorem dX10_duesFor_42 : decode cX10_duesFor 42 = .ok (.iload_n 1, 1) := by decide +kernel
theorem dX10_duesFor_43 : decode cX10_duesFor 43 = .ok (.imul, 1) := by decide +kernel
theorem dX10_duesFor_44 : decode cX10_duesFor 44 = .ok (.ireturn, 1) := by decide +kernel
theorem dX10_duesFor_45 : decode cX10_duesFor 45 = .ok (.iload_n 2, 1) := by decide +kernel
theorem dX10_duesFor_46 : decode cX10_duesFor 46 = .ok (.aload_n 0, 1) := by decide +kernel
theorem dX10_duesFor_47 : decode cX10_duesFor 47 = .ok (.getfield 15, 3) := by decide +kernel
theorem dX10_duesFor_50 : decode cX10_duesFor 50 = .ok (.iload 4, 2) := by decide +kernel
theorem dX10_duesFor_52 : decode cX10_duesFor 52 = .ok (.iaload, 1) := by decide +kernel
theorem dX10_duesFor_53 : decode cX10_duesFor 53 = .ok (.iload_n 3, 1) := by decide +kernel
theorem dX10_duesFor_54 : decode cX10_duesFor 54 = .ok (.aload_n 0, 1) := by decide +kernel
theorem dX10_duesFor_55 : decode cX10_duesFor 55 = .ok (.getfield 9, 3) := by decide +kernel
theorem dX10_duesFor_58 : decode cX10_duesFor 58 = .ok (.iload 4, 2) := by decide +kernel
theorem dX10_duesFor_60 : decode cX10_duesFor 60 = .ok (.iaload, 1) := by decide +kernel
theorem dX10_duesFor_61 : decode cX10_duesFor 61 = .ok (.isub, 1) := by decide +kernel
theorem dX10_duesFor_62 : decode cX10_duesFor 62 = .ok (.imul, 1) := by decide +kernel
theorem dX10_duesFor_63 : decode cX10_duesFor 63 = .ok (.iadd, 1) := by decide +kernel
theorem dX10_duesFor_64 : decode cX10_duesFor 64 = .ok (.istore_n 2, 1) := by decide +kernel
theorem dX10_duesFor_65 : decode cX10_duesFor 65 = .ok (.aload_n 0, 1) := by decide +kernel
theorem dX10_duesFor_66 : decode cX10_duesFor 66 = .ok (.getfield 9, 3) := by decide +kernel
theorem dX10_duesFor_69 : decode cX10_duesFor 69 = .ok (.iload 4, 2) := by decide +kernel
theorem dX10_duesFor_71 : decode cX10_duesFor 71 = .ok (.iaload, 1) := by decide +kernel
theorem dX10_duesFor_72 : decode cX10_duesFor 72 = .ok (.istore_n 3, 1) := by decide +kernel
theorem dX10_duesFor_73 : decode cX10_duesFor 73 = .ok (.iinc 4 (-1), 3) := by decide +kernel
theorem dX10_duesFor_76 : decode cX10_duesFor 76 = .ok (.goto (-64), 3) := by decide +kernel
theorem dX10_duesFor_79 : decode cX10_duesFor 79 = .ok (.iload_n 2, 1) := by decide +kernel
theorem dX10_duesFor_80 : decode cX10_duesFor 80 = .ok (.ireturn, 1) := by decide +kernel
theorem dX10_percentAt_0 : decode cX10_percentAt 0 = .ok (.aload_n 0, 1) := by decide +kernel
theorem dX10_percentAt_1 : decode cX10_percentAt 1 = .ok (.getfield 31, 3) := by decide +kernel
theorem dX10_percentAt_4 : decode cX10_percentAt 4 = .ok (.iconst 1, 1) := by decide +kernel
theorem dX10_percentAt_5 : decode cX10_percentAt 5 = .ok (.isub, 1) := by decide +kernel
theorem dX10_percentAt_6 : decode cX10_percentAt 6 = .ok (.istore_n 2, 1) := by decide +kernel
theorem dX10_percentAt_7 : decode cX10_percentAt 7 = .ok (.iload_n 2, 1) := by decide +kernel
theorem dX10_percentAt_8 : decode cX10_percentAt 8 = .ok (.ifCond .lt 26, 3) := by decide +kernel
theorem dX10_percentAt_11 : decode cX10_percentAt 11 = .ok (.aload_n 0, 1) := by decide +kernel
theorem dX10_percentAt_12 : decode cX10_percentAt 12 = .ok (.getfield 18, 3) := by decide +kernel
theorem dX10_percentAt_15 : decode cX10_percentAt 15 = .ok (.iload_n 2, 1) := by decide +kernel
theorem dX10_percentAt_16 : decode cX10_percentAt 16 = .ok (.iaload, 1) := by decide +kernel
theorem dX10_percentAt_17 : decode cX10_percentAt 17 = .ok (.iload_n 1, 1) := by decide +kernel
theorem dX10_percentAt_18 : decode cX10_percentAt 18 = .ok (.if_icmp .gt 10, 3) := by decide +kernel
theorem dX10_percentAt_21 : decode cX10_percentAt 21 = .ok (.aload_n 0, 1) := by decide +kernel
theorem dX10_percentAt_22 : decode cX10_percentAt 22 = .ok (.getfield 21, 3) := by decide +kernel
theorem dX10_percentAt_25 : decode cX10_percentAt 25 = .ok (.iload_n 2, 1) := by decide +kernel
theorem dX10_percentAt_26 : decode cX10_percentAt 26 = .ok (.iaload, 1) := by decide +kernel
theorem dX10_percentAt_27 : decode cX10_percentAt 27 = .ok (.ireturn, 1) := by decide +kernel
theorem dX10_percentAt_28 : decode cX10_percentAt 28 = .ok (.iinc 2 (-1), 3) := by decide +kernel
theorem dX10_percentAt_31 : decode cX10_percentAt 31 = .ok (.goto (-24), 3) := by decide +kernel
theorem dX10_percentAt_34 : decode cX10_percentAt 34 = .ok (.iconst 0, 1) := by decide +kernel
theorem dX10_percentAt_35 : decode cX10_percentAt 35 = .ok (.ireturn, 1) := by decide +kernel
theorem dX10_rebateFor_0 : decode cX10_rebateFor 0 = .ok (.aload_n 0, 1) := by decide +kernel
theorem dX10_rebateFor_1 : decode cX10_rebateFor 1 = .ok (.iload_n 1, 1) := by decide +kernel
theorem dX10_rebateFor_2 : decode cX10_rebateFor 2 = .ok (.invokevirtual 65, 3) := by decide +kernel
theorem dX10_rebateFor_5 : decode cX10_rebateFor 5 = .ok (.aload_n 0, 1) := by decide +kernel
theorem dX10_rebateFor_6 : decode cX10_rebateFor 6 = .ok (.iload_n 2, 1) := by decide +kernel
theorem dX10_rebateFor_7 : decode cX10_rebateFor 7 = .ok (.invokevirtual 69, 3) := by decide +kernel
theorem dX10_rebateFor_10 : decode cX10_rebateFor 10 = .ok (.imul, 1) := by decide +kernel
theorem dX10_rebateFor_11 : decode cX10_rebateFor 11 = .ok (.bipush 100, 2) := by decide +kernel
theorem dX10_rebateFor_13 : decode cX10_rebateFor 13 = .ok (.idiv, 1) := by decide +kernel
theorem dX10_rebateFor_14 : decode cX10_rebateFor 14 = .ok (.ineg, 1) := by decide +kernel
theorem dX10_rebateFor_15 : decode cX10_rebateFor 15 = .ok (.ireturn, 1) := by decide +kernel
theorem dX10_wasteFeeFor_0 : decode cX10_wasteFeeFor 0 = .ok (.aload_n 0, 1) := by decide +kernel
theorem dX10_wasteFeeFor_1 : decode cX10_wasteFeeFor 1 = .ok (.getfield 38, 3) := by decide +kernel
theorem dX10_wasteFeeFor_4 : decode cX10_wasteFeeFor 4 = .ok (.aload_n 0, 1) := by decide +kernel
theorem dX10_wasteFeeFor_5 : decode cX10_wasteFeeFor 5 = .ok (.getfield 44, 3) := by decide +kernel
theorem dX10_wasteFeeFor_8 : decode cX10_wasteFeeFor 8 = .ok (.iload_n 1, 1) := by decide +kernel
theorem dX10_wasteFeeFor_9 : decode cX10_wasteFeeFor 9 = .ok (.aload_n 0, 1) := by decide +kernel
theorem dX10_wasteFeeFor_10 : decode cX10_wasteFeeFor 10 = .ok (.getfield 41, 3) := by decide +kernel
theorem dX10_wasteFeeFor_13 : decode cX10_wasteFeeFor 13 = .ok (.isub, 1) := by decide +kernel
theorem dX10_wasteFeeFor_14 : decode cX10_wasteFeeFor 14 = .ok (.iconst 0, 1) := by decide +kernel
theorem dX10_wasteFeeFor_15 : decode cX10_wasteFeeFor 15 = .ok (.invokestatic 62, 3) := by decide +kernel
theorem dX10_wasteFeeFor_18 : decode cX10_wasteFeeFor 18 = .ok (.imul, 1) := by decide +kernel
theorem dX10_wasteFeeFor_19 : decode cX10_wasteFeeFor 19 = .ok (.iadd, 1) := by decide +kernel
theorem dX10_wasteFeeFor_20 : decode cX10_wasteFeeFor 20 = .ok (.ireturn, 1) := by decide +kernel
theorem dX10_laySet_0 : decode cX10_laySet 0 = .ok (.iload_n 1, 1) := by decide +kernel
theorem dX10_laySet_1 : decode cX10_laySet 1 = .ok (.invokestatic 72, 3) := by decide +kernel
theorem dX10_laySet_4 : decode cX10_laySet 4 = .ok (.aload_n 0, 1) := by decide +kernel
theorem dX10_laySet_5 : decode cX10_laySet 5 = .ok (.getfield 24, 3) := by decide +kernel
theorem dX10_laySet_8 : decode cX10_laySet 8 = .ok (.invokestatic 72, 3) := by decide +kernel
theorem dX10_laySet_11 : decode cX10_laySet 11 = .ok (.iconst (-1), 1) := by decide +kernel
theorem dX10_laySet_12 : decode cX10_laySet 12 = .ok (.ixor, 1) := by decide +kernel
theorem dX10_laySet_13 : decode cX10_laySet 13 = .ok (.iand, 1) := by decide +kernel
theorem dX10_laySet_14 : decode cX10_laySet 14 = .ok (.ireturn, 1) := by decide +kernel
theorem dX11_init_0 : decode cX11_init 0 = .ok (.aload_n 0, 1) := by decide +kernel
theorem dX11_init_1 : decode cX11_init 1 = .ok (.invokespecial 1, 3) := by decide +kernel
theorem dX11_init_4 : decode cX11_init 4 = .ok (.aload_n 0, 1) := by decide +kernel
theorem dX11_init_5 : decode cX11_init 5 = .ok (.new 7, 3) := by decide +kernel
theorem dX11_init_8 : decode cX11_init 8 = .ok (.dup, 1) := by decide +kernel
theorem dX11_init_9 : decode cX11_init 9 = .ok (.sipush 800, 3) := by decide +kernel
theorem dX11_init_12 : decode cX11_init 12 = .ok (.invokespecial 11, 3) := by decide +kernel
theorem dX11_init_15 : decode cX11_init 15 = .ok (.putfield 14, 3) := by decide +kernel
theorem dX11_init_18 : decode cX11_init 18 = .ok (.aload_n 0, 1) := by decide +kernel
theorem dX11_init_19 : decode cX11_init 19 = .ok (.new 7, 3) := by decide +kernel
theorem dX11_init_22 : decode cX11_init 22 = .ok (.dup, 1) := by decide +kernel
theorem dX11_init_23 : decode cX11_init 23 = .ok (.sipush 1400, 3) := by decide +kernel
theorem dX11_init_26 : decode cX11_init 26 = .ok (.invokespecial 11, 3) := by decide +kernel
theorem dX11_init_29 : decode cX11_init 29 = .ok (.putfield 18, 3) := by decide +kernel
theorem dX11_init_32 : decode cX11_init 32 = .ok (.aload_n 0, 1) := by decide +kernel
theorem dX11_init_33 : decode cX11_init 33 = .ok (.new 21, 3) := by decide +kernel
theorem dX11_init_36 : decode cX11_init 36 = .ok (.dup, 1) := by decide +kernel
theorem dX11_init_37 : decode cX11_init 37 = .ok (.invokespecial 23, 3) := by decide +kernel
theorem dX11_init_40 : decode cX11_init 40 = .ok (.putfield 24, 3) := by decide +kernel
theorem dX11_init_43 : decode cX11_init 43 = .ok (.aload_n 0, 1) := by decide +kernel
theorem dX11_init_44 : decode cX11_init 44 = .ok (.new 21, 3) := by decide +kernel
theorem dX11_init_47 : decode cX11_init 47 = .ok (.dup, 1) := by decide +kernel
theorem dX11_init_48 : decode cX11_init 48 = .ok (.invokespecial 23, 3) := by decide +kernel
theorem dX11_init_51 : decode cX11_init 51 = .ok (.putfield 28, 3) := by decide +kernel
theorem dX11_init_54 : decode cX11_init 54 = .ok (.aload_n 0, 1) := by decide +kernel
theorem dX11_init_55 : decode cX11_init 55 = .ok (.new 31, 3) := by decide +kernel
theorem dX11_init_58 : decode cX11_init 58 = .ok (.dup, 1) := by decide +kernel
theorem dX11_init_59 : decode cX11_init 59 = .ok (.aload_n 0, 1) := by decide +kernel
theorem dX11_init_60 : decode cX11_init 60 = .ok (.getfield 14, 3) := by decide +kernel
theorem dX11_init_63 : decode cX11_init 63 = .ok (.aload_n 0, 1) := by decide +kernel
theorem dX11_init_64 : decode cX11_init 64 = .ok (.getfield 28, 3) := by decide +kernel
theorem dX11_init_67 : decode cX11_init 67 = .ok (.invokespecial 33, 3) := by decide +kernel
theorem dX11_init_70 : decode cX11_init 70 = .ok (.putfield 36, 3) := by decide +kernel
theorem dX11_init_73 : decode cX11_init 73 = .ok (.aload_n 0, 1) := by decide +kernel
theorem dX11_init_74 : decode cX11_init 74 = .ok (.new 40, 3) := by decide +kernel
theorem dX11_init_77 : decode cX11_init 77 = .ok (.dup, 1) := by decide +kernel
theorem dX11_init_78 : decode cX11_init 78 = .ok (.invokespecial 42, 3) := by decide +kernel
theorem dX11_init_81 : decode cX11_init 81 = .ok (.putfield 43, 3) := by decide +kernel
theorem dX11_init_84 : decode cX11_init 84 = .ok (.aload_n 0, 1) := by decide +kernel
theorem dX11_init_85 : decode cX11_init 85 = .ok (.new 47, 3) := by decide +kernel
theorem dX11_init_88 : decode cX11_init 88 = .ok (.dup, 1) := by decide +kernel
theorem dX11_init_89 : decode cX11_init 89 = .ok (.aload_n 0, 1) := by decide +kernel
theorem dX11_init_90 : decode cX11_init 90 = .ok (.getfield 24, 3) := by decide +kernel
theorem dX11_init_93 : decode cX11_init 93 = .ok (.invokespecial 49, 3) := by decide +kernel
theorem dX11_init_96 : decode cX11_init 96 = .ok (.putfield 52, 3) := by decide +kernel
theorem dX11_init_99 : decode cX11_init 99 = .ok (.aload_n 0, 1) := by decide +kernel
theorem dX11_init_100 : decode cX11_init 100 = .ok (.new 56, 3) := by decide +kernel
theorem dX11_init_103 : decode cX11_init 103 = .ok (.dup, 1) := by decide +kernel
theorem dX11_init_104 : decode cX11_init 104 = .ok (.aload_n 0, 1) := by decide +kernel
theorem dX11_init_105 : decode cX11_init 105 = .ok (.getfield 24, 3) := by decide +kernel
theorem dX11_init_108 : decode cX11_init 108 = .ok (.aload_n 0, 1) := by decide +kernel
theorem dX11_init_109 : decode cX11_init 109 = .ok (.getfield 52, 3) := by decide +kernel
theorem dX11_init_112 : decode cX11_init 112 = .ok (.aload_n 0, 1) := by decide +kernel
theorem dX11_init_113 : decode cX11_init 113 = .ok (.getfield 18, 3) := by decide +kernel
theorem dX11_init_116 : decode cX11_init 116 = .ok (.invokespecial 58, 3) := by decide +kernel
theorem dX11_init_119 : decode cX11_init 119 = .ok (.putfield 61, 3) := by decide +kernel
theorem dX11_init_122 : decode cX11_init 122 = .ok (.return_, 1) := by decide +kernel
theorem dX11_append_0 : decode cX11_append 0 = .ok (.aload_n 0, 1) := by decide +kernel
theorem dX11_append_1 : decode cX11_append 1 = .ok (.getfield 14, 3) := by decide +kernel
theorem dX11_append_4 : decode cX11_append 4 = .ok (.getfield 65, 3) := by decide +kernel
theorem dX11_append_7 : decode cX11_append 7 = .ok (.bipush 20, 2) := by decide +kernel
theorem dX11_append_9 : decode cX11_append 9 = .ok (.iadd, 1) := by decide +kernel
theorem dX11_append_10 : decode cX11_append 10 = .ok (.sipush 800, 3) := by decide +kernel
theorem dX11_append_13 : decode cX11_append 13 = .ok (.if_icmp .gt 7, 3) := by decide +kernel
theorem dX11_append_16 : decode cX11_append 16 = .ok (.iconst 1, 1) := by decide +kernel
theorem dX11_append_17 : decode cX11_append 17 = .ok (.goto 4, 3) := by decide +kernel
theorem dX11_append_20 : decode cX11_append 20 = .ok (.iconst 0, 1) := by decide +kernel
theorem dX11_append_21 : decode cX11_append 21 = .ok (.invokestatic 69, 3) := by decide +kernel
theorem dX11_append_24 : decode cX11_append 24 = .ok (.aload_n 0, 1) := by decide +kernel
theorem dX11_append_25 : decode cX11_append 25 = .ok (.getfield 14, 3) := by decide +kernel
theorem dX11_append_28 : decode cX11_append 28 = .ok (.iload_n 1, 1) := by decide +kernel
theorem dX11_append_29 : decode cX11_append 29 = .ok (.invokevirtual 73, 3) := by decide +kernel
theorem dX11_append_32 : decode cX11_append 32 = .ok (.aload_n 0, 1) := by decide +kernel
theorem dX11_append_33 : decode cX11_append 33 = .ok (.getfield 14, 3) := by decide +kernel
theorem dX11_append_36 : decode cX11_append 36 = .ok (.iload_n 2, 1) := by decide +kernel
theorem dX11_append_37 : decode cX11_append 37 = .ok (.invokevirtual 73, 3) := by decide +kernel
theorem dX11_append_40 : decode cX11_append 40 = .ok (.aload_n 0, 1) := by decide +kernel
theorem dX11_append_41 : decode cX11_append 41 = .ok (.getfield 14, 3) := by decide +kernel
theorem dX11_append_44 : decode cX11_append 44 = .ok (.iload_n 3, 1) := by decide +kernel
theorem dX11_append_45 : decode cX11_append 45 = .ok (.invokevirtual 73, 3) := by decide +kernel
theorem dX11_append_48 : decode cX11_append 48 = .ok (.aload_n 0, 1) := by decide +kernel
theorem dX11_append_49 : decode cX11_append 49 = .ok (.getfield 14, 3) := by decide +kernel
theorem dX11_append_52 : decode cX11_append 52 = .ok (.iload 4, 2) := by decide +kernel
theorem dX11_append_54 : decode cX11_append 54 = .ok (.invokevirtual 73, 3) := by decide +kernel
theorem dX11_append_57 : decode cX11_append 57 = .ok (.aload_n 0, 1) := by decide +kernel
theorem dX11_append_58 : decode cX11_append 58 = .ok (.getfield 14, 3) := by decide +kernel
theorem dX11_append_61 : decode cX11_append 61 = .ok (.iload 5, 2) := by decide +kernel
theorem dX11_append_63 : decode cX11_append 63 = .ok (.invokevirtual 73, 3) := by decide +kernel
theorem dX11_append_66 : decode cX11_append 66 = .ok (.aload_n 0, 1) := by decide +kernel
theorem dX11_append_67 : decode cX11_append 67 = .ok (.getfield 14, 3) := by decide +kernel
theorem dX11_append_70 : decode cX11_append 70 = .ok (.getfield 65, 3) := by decide +kernel
theorem dX11_append_73 : decode cX11_append 73 = .ok (.ireturn, 1) := by decide +kernel
theorem dX11_truncate_0 : decode cX11_truncate 0 = .ok (.iload_n 1, 1) := by decide +kernel
theorem dX11_truncate_1 : decode cX11_truncate 1 = .ok (.iconst 0, 1) := by decide +kernel
theorem dX11_truncate_2 : decode cX11_truncate 2 = .ok (.aload_n 0, 1) := by decide +kernel
theorem dX11_truncate_3 : decode cX11_truncate 3 = .ok (.getfield 14, 3) := by decide +kernel
theorem dX11_truncate_6 : decode cX11_truncate 6 = .ok (.getfield 65, 3) := by decide +kernel
theorem dX11_truncate_9 : decode cX11_truncate 9 = .ok (.invokestatic 76, 3) := by decide +kernel
theorem dX11_truncate_12 : decode cX11_truncate 12 = .ok (.aload_n 0, 1) := by decide +kernel
theorem dX11_truncate_13 : decode cX11_truncate 13 = .ok (.getfield 14, 3) := by decide +kernel
theorem dX11_truncate_16 : decode cX11_truncate 16 = .ok (.iload_n 1, 1) := by decide +kernel
theorem dX11_truncate_17 : decode cX11_truncate 17 = .ok (.putfield 65, 3) := by decide +kernel
theorem dX11_truncate_20 : decode cX11_truncate 20 = .ok (.return_, 1) := by decide +kernel
theorem dX11_load_0 : decode cX11_load 0 = .ok (.aload_n 0, 1) := by decide +kernel
theorem dX11_load_1 : decode cX11_load 1 = .ok (.getfield 36, 3) := by decide +kernel
theorem dX11_load_4 : decode cX11_load 4 = .ok (.invokevirtual 80, 3) := by decide +kernel
theorem dX11_load_7 : decode cX11_load 7 = .ok (.istore_n 1, 1) := by decide +kernel
theorem dX11_load_8 : decode cX11_load 8 = .ok (.aload_n 0, 1) := by decide +kernel
theorem dX11_load_9 : decode cX11_load 9 = .ok (.getfield 14, 3) := by decide +kernel
theorem dX11_load_12 : decode cX11_load 12 = .ok (.iconst 0, 1) := by decide +kernel
theorem dX11_load_13 : decode cX11_load 13 = .ok (.putfield 65, 3) := by decide +kernel
theorem dX11_load_16 : decode cX11_load 16 = .ok (.iload_n 1, 1) := by decide +kernel
theorem dX11_load_17 : decode cX11_load 17 = .ok (.ifCond .ne 6, 3) := by decide +kernel
theorem dX11_load_20 : decode cX11_load 20 = .ok (.bipush (-4), 2) := by decide +kernel
theorem dX11_load_22 : decode cX11_load 22 = .ok (.ireturn, 1) := by decide +kernel
theorem dX11_load_23 : decode cX11_load 23 = .ok (.aload_n 0, 1) := by decide +kernel
theorem dX11_load_24 : decode cX11_load 24 = .ok (.getfield 43, 3) := by decide +kernel
theorem dX11_load_27 : decode cX11_load 27 = .ok (.aload_n 0, 1) := by decide +kernel
theorem dX11_load_28 : decode cX11_load 28 = .ok (.getfield 24, 3) := by decide +kernel
theorem dX11_load_31 : decode cX11_load 31 = .ok (.invokevirtual 84, 3) := by decide +kernel
theorem dX11_load_34 : decode cX11_load 34 = .ok (.aload_n 0, 1) := by decide +kernel
theorem dX11_load_35 : decode cX11_load 35 = .ok (.getfield 24, 3) := by decide +kernel
theorem dX11_load_38 : decode cX11_load 38 = .ok (.aload_n 0, 1) := by decide +kernel
theorem dX11_load_39 : decode cX11_load 39 = .ok (.getfield 28, 3) := by decide +kernel
theorem dX11_load_42 : decode cX11_load 42 = .ok (.invokevirtual 87, 3) := by decide +kernel
theorem dX11_load_45 : decode cX11_load 45 = .ok (.aload_n 0, 1) := by decide +kernel
theorem dX11_load_46 : decode cX11_load 46 = .ok (.getfield 24, 3) := by decide +kernel
theorem dX11_load_49 : decode cX11_load 49 = .ok (.getfield 90, 3) := by decide +kernel
theorem dX11_load_52 : decode cX11_load 52 = .ok (.ireturn, 1) := by decide +kernel
theorem dX11_errorCode_0 : decode cX11_errorCode 0 = .ok (.aload_n 0, 1) := by decide +kernel
theorem dX11_errorCode_1 : decode cX11_errorCode 1 = .ok (.getfield 36, 3) := by decide +kernel
theorem dX11_errorCode_4 : decode cX11_errorCode 4 = .ok (.getfield 93, 3) := by decide +kernel
theorem dX11_errorCode_7 : decode cX11_errorCode 7 = .ok (.ireturn, 1) := by decide +kernel
theorem dX11_errorPosition_0 : decode cX11_errorPosition 0 = .ok (.aload_n 0, 1) := by decide +kernel
theorem dX11_errorPosition_1 : decode cX11_errorPosition 1 = .ok (.getfield 36, 3) := by decide +kernel
theorem dX11_errorPosition_4 : decode cX11_errorPosition 4 = .ok (.getfield 96, 3) := by decide +kernel
theorem dX11_errorPosition_7 : decode cX11_errorPosition 7 = .ok (.ireturn, 1) := by decide +kernel
theorem dX11_find_0 : decode cX11_find 0 = .ok (.aload_n 0, 1) := by decide +kernel
theorem dX11_find_1 : decode cX11_find 1 = .ok (.getfield 24, 3) := by decide +kernel
theorem dX11_find_4 : decode cX11_find 4 = .ok (.aload_n 0, 1) := by decide +kernel
theorem dX11_find_5 : decode cX11_find 5 = .ok (.getfield 14, 3) := by decide +kernel
theorem dX11_find_8 : decode cX11_find 8 = .ok (.iconst 0, 1) := by decide +kernel
theorem dX11_find_9 : decode cX11_find 9 = .ok (.aload_n 0, 1) := by decide +kernel
theorem dX11_find_10 : decode cX11_find 10 = .ok (.getfield 14, 3) := by decide +kernel
theorem dX11_find_13 : decode cX11_find 13 = .ok (.getfield 65, 3) := by decide +kernel
theorem dX11_find_16 : decode cX11_find 16 = .ok (.invokevirtual 99, 3) := by decide +kernel
theorem dX11_find_19 : decode cX11_find 19 = .ok (.istore_n 1, 1) := by decide +kernel
theorem dX11_find_20 : decode cX11_find 20 = .ok (.aload_n 0, 1) := by decide +kernel
theorem dX11_find_21 : decode cX11_find 21 = .ok (.getfield 14, 3) := by decide +kernel
theorem dX11_find_24 : decode cX11_find 24 = .ok (.iconst 0, 1) := by decide +kernel
theorem dX11_find_25 : decode cX11_find 25 = .ok (.putfield 65, 3) := by decide +kernel
theorem dX11_find_28 : decode cX11_find 28 = .ok (.iload_n 1, 1) := by decide +kernel
theorem dX11_find_29 : decode cX11_find 29 = .ok (.ireturn, 1) := by decide +kernel
theorem dX11_count_0 : decode cX11_count 0 = .ok (.iload_n 1, 1) := by decide +kernel
theorem dX11_count_1 : decode cX11_count 1 = .ok (.iconst 0, 1) := by decide +kernel
theorem dX11_count_2 : decode cX11_count 2 = .ok (.bipush 8, 2) := by decide +kernel
theorem dX11_count_4 : decode cX11_count 4 = .ok (.invokestatic 76, 3) := by decide +kernel
theorem dX11_count_7 : decode cX11_count 7 = .ok (.iload_n 1, 1) := by decide +kernel
theorem dX11_count_8 : decode cX11_count 8 = .ok (.tableswitch 118 0 7 #[48, 56, 64, 72, 80, 88, 96, 107], 48) := by decide +kernel
theorem dX11_count_56 : decode cX11_count 56 = .ok (.aload_n 0, 1) := by decide +kernel
theorem dX11_count_57 : decode cX11_count 57 = .ok (.getfield 24, 3) := by decide +kernel
theorem dX11_count_60 : decode cX11_count 60 = .ok (.getfield 90, 3) := by decide +kernel
theorem dX11_count_63 : decode cX11_count 63 = .ok (.ireturn, 1) := by decide +kernel
theorem dX11_count_64 : decode cX11_count 64 = .ok (.aload_n 0, 1) := by decide +kernel
theorem dX11_count_65 : decode cX11_count 65 = .ok (.getfield 24, 3) := by decide +kernel
theorem dX11_count_68 : decode cX11_count 68 = .ok (.getfield 103, 3) := by decide +kernel
theorem dX11_count_71 : decode cX11_count 71 = .ok (.ireturn, 1) := by decide +kernel
theorem dX11_count_72 : decode cX11_count 72 = .ok (.aload_n 0, 1) := by decide +kernel
theorem dX11_count_73 : decode cX11_count 73 = .ok (.getfield 24, 3) := by decide +kernel
theorem dX11_count_76 : decode cX11_count 76 = .ok (.getfield 106, 3) := by decide +kernel
theorem dX11_count_79 : decode cX11_count 79 = .ok (.ireturn, 1) := by decide +kernel
theorem dX11_count_80 : decode cX11_count 80 = .ok (.aload_n 0, 1) := by decide +kernel
theorem dX11_count_81 : decode cX11_count 81 = .ok (.getfield 24, 3) := by decide +kernel
theorem dX11_count_84 : decode cX11_count 84 = .ok (.getfield 109, 3) := by decide +kernel
theorem dX11_count_87 : decode cX11_count 87 = .ok (.ireturn, 1) := by decide +kernel
theorem dX11_count_88 : decode cX11_count 88 = .ok (.aload_n 0, 1) := by decide +kernel
theorem dX11_count_89 : decode cX11_count 89 = .ok (.getfield 24, 3) := by decide +kernel
theorem dX11_count_92 : decode cX11_count 92 = .ok (.getfield 112, 3) := by decide +kernel
theorem dX11_count_95 : decode cX11_count 95 = .ok (.ireturn, 1) := by decide +kernel
theorem dX11_count_96 : decode cX11_count 96 = .ok (.aload_n 0, 1) := by decide +kernel
theorem dX11_count_97 : decode cX11_count 97 = .ok (.getfield 24, 3) := by decide +kernel
theorem dX11_count_100 : decode cX11_count 100 = .ok (.getfield 115, 3) := by decide +kernel
theorem dX11_count_103 : decode cX11_count 103 = .ok (.ireturn, 1) := by decide +kernel
theorem dX11_count_104 : decode cX11_count 104 = .ok (.aload_n 0, 1) := by decide +kernel
theorem dX11_count_105 : decode cX11_count 105 = .ok (.getfield 24, 3) := by decide +kernel
theorem dX11_count_108 : decode cX11_count 108 = .ok (.invokevirtual 118, 3) := by decide +kernel
theorem dX11_count_111 : decode cX11_count 111 = .ok (.getfield 122, 3) := by decide +kernel
theorem dX11_count_114 : decode cX11_count 114 = .ok (.ireturn, 1) := by decide +kernel
theorem dX11_count_115 : decode cX11_count 115 = .ok (.aload_n 0, 1) := by decide +kernel
theorem dX11_count_116 : decode cX11_count 116 = .ok (.getfield 24, 3) := by decide +kernel
theorem dX11_count_119 : decode cX11_count 119 = .ok (.invokevirtual 118, 3) := by decide +kernel
theorem dX11_count_122 : decode cX11_count 122 = .ok (.getfield 127, 3) := by decide +kernel
theorem dX11_count_125 : decode cX11_count 125 = .ok (.ireturn, 1) := by decide +kernel
theorem dX11_count_126 : decode cX11_count 126 = .ok (.aload_n 0, 1) := by decide +kernel
theorem dX11_count_127 : decode cX11_count 127 = .ok (.getfield 24, 3) := by decide +kernel
theorem dX11_count_130 : decode cX11_count 130 = .ok (.invokevirtual 130, 3) := by decide +kernel
theorem dX11_count_133 : decode cX11_count 133 = .ok (.ireturn, 1) := by decide +kernel
theorem dX11_tariff_0 : decode cX11_tariff 0 = .ok (.iload_n 1, 1) := by decide +kernel
theorem dX11_tariff_1 : decode cX11_tariff 1 = .ok (.iconst 0, 1) := by decide +kernel
theorem dX11_tariff_2 : decode cX11_tariff 2 = .ok (.iconst 5, 1) := by decide +kernel
theorem dX11_tariff_3 : decode cX11_tariff 3 = .ok (.invokestatic 76, 3) := by decide +kernel
theorem dX11_tariff_6 : decode cX11_tariff 6 = .ok (.aload_n 0, 1) := by decide +kernel
theorem dX11_tariff_7 : decode cX11_tariff 7 = .ok (.getfield 24, 3) := by decide +kernel
theorem dX11_tariff_10 : decode cX11_tariff 10 = .ok (.invokevirtual 118, 3) := by decide +kernel
theorem dX11_tariff_13 : decode cX11_tariff 13 = .ok (.astore_n 2, 1) := by decide +kernel
theorem dX11_tariff_14 : decode cX11_tariff 14 = .ok (.iload_n 1, 1) := by decide +kernel
theorem dX11_tariff_15 : decode cX11_tariff 15 = .ok (.tableswitch 66 0 4 #[33, 46, 51, 56, 61], 33) := by decide +kernel
theorem dX11_tariff_48 : decode cX11_tariff 48 = .ok (.aload_n 2, 1) := by decide +kernel
theorem dX11_tariff_49 : decode cX11_tariff 49 = .ok (.getfield 134, 3) := by decide +kernel
theorem dX11_tariff_52 : decode cX11_tariff 52 = .ok (.ifCond .eq 7, 3) := by decide +kernel
theorem dX11_tariff_55 : decode cX11_tariff 55 = .ok (.iconst 1, 1) := by decide +kernel
theorem dX11_tariff_56 : decode cX11_tariff 56 = .ok (.goto 4, 3) := by decide +kernel
theorem dX11_tariff_59 : decode cX11_tariff 59 = .ok (.iconst 0, 1) := by decide +kernel
theorem dX11_tariff_60 : decode cX11_tariff 60 = .ok (.ireturn, 1) := by decide +kernel
theorem dX11_tariff_61 : decode cX11_tariff 61 = .ok (.aload_n 2, 1) := by decide +kernel
theorem dX11_tariff_62 : decode cX11_tariff 62 = .ok (.getfield 138, 3) := by decide +kernel
theorem dX11_tariff_65 : decode cX11_tariff 65 = .ok (.ireturn, 1) := by decide +kernel
theorem dX11_tariff_66 : decode cX11_tariff 66 = .ok (.aload_n 2, 1) := by decide +kernel
theorem dX11_tariff_67 : decode cX11_tariff 67 = .ok (.getfield 141, 3) := by decide +kernel
theorem dX11_tariff_70 : decode cX11_tariff 70 = .ok (.ireturn, 1) := by decide +kernel
theorem dX11_tariff_71 : decode cX11_tariff 71 = .ok (.aload_n 2, 1) := by decide +kernel
theorem dX11_tariff_72 : decode cX11_tariff 72 = .ok (.getfield 144, 3) := by decide +kernel
theorem dX11_tariff_75 : decode cX11_tariff 75 = .ok (.ireturn, 1) := by decide +kernel
theorem dX11_tariff_76 : decode cX11_tariff 76 = .ok (.aload_n 2, 1) := by decide +kernel
theorem dX11_tariff_77 : decode cX11_tariff 77 = .ok (.getfield 147, 3) := by decide +kernel
theorem dX11_tariff_80 : decode cX11_tariff 80 = .ok (.ireturn, 1) := by decide +kernel
theorem dX11_tariff_81 : decode cX11_tariff 81 = .ok (.aload_n 2, 1) := by decide +kernel
theorem dX11_tariff_82 : decode cX11_tariff 82 = .ok (.getfield 150, 3) := by decide +kernel
theorem dX11_tariff_85 : decode cX11_tariff 85 = .ok (.ireturn, 1) := by decide +kernel
theorem dX11_band_0 : decode cX11_band 0 = .ok (.aload_n 0, 1) := by decide +kernel
theorem dX11_band_1 : decode cX11_band 1 = .ok (.getfield 24, 3) := by decide +kernel
theorem dX11_band_4 : decode cX11_band 4 = .ok (.invokevirtual 118, 3) := by decide +kernel
theorem dX11_band_7 : decode cX11_band 7 = .ok (.astore_n 3, 1) := by decide +kernel
theorem dX11_band_8 : decode cX11_band 8 = .ok (.iload_n 1, 1) := by decide +kernel
theorem dX11_band_9 : decode cX11_band 9 = .ok (.aload_n 3, 1) := by decide +kernel
theorem dX11_band_10 : decode cX11_band 10 = .ok (.getfield 122, 3) := by decide +kernel
theorem dX11_band_13 : decode cX11_band 13 = .ok (.invokestatic 153, 3) := by decide +kernel
theorem dX11_band_16 : decode cX11_band 16 = .ok (.iload_n 2, 1) := by decide +kernel
theorem dX11_band_17 : decode cX11_band 17 = .ok (.iconst 0, 1) := by decide +kernel
theorem dX11_band_18 : decode cX11_band 18 = .ok (.iconst 1, 1) := by decide +kernel
theorem dX11_band_19 : decode cX11_band 19 = .ok (.invokestatic 76, 3) := by decide +kernel
theorem dX11_band_22 : decode cX11_band 22 = .ok (.iload_n 2, 1) := by decide +kernel
theorem dX11_band_23 : decode cX11_band 23 = .ok (.ifCond .ne 12, 3) := by decide +kernel
theorem dX11_band_26 : decode cX11_band 26 = .ok (.aload_n 3, 1) := by decide +kernel
theorem dX11_band_27 : decode cX11_band 27 = .ok (.getfield 157, 3) := by decide +kernel
theorem dX11_band_30 : decode cX11_band 30 = .ok (.iload_n 1, 1) := by decide +kernel
theorem dX11_band_31 : decode cX11_band 31 = .ok (.iaload, 1) := by decide +kernel
theorem dX11_band_32 : decode cX11_band 32 = .ok (.goto 9, 3) := by decide +kernel
theorem dX11_band_35 : decode cX11_band 35 = .ok (.aload_n 3, 1) := by decide +kernel
theorem dX11_band_36 : decode cX11_band 36 = .ok (.getfield 161, 3) := by decide +kernel
theorem dX11_band_39 : decode cX11_band 39 = .ok (.iload_n 1, 1) := by decide +kernel
theorem dX11_band_40 : decode cX11_band 40 = .ok (.iaload, 1) := by decide +kernel
theorem dX11_band_41 : decode cX11_band 41 = .ok (.ireturn, 1) := by decide +kernel
theorem dX11_rebate_0 : decode cX11_rebate 0 = .ok (.aload_n 0, 1) := by decide +kernel
theorem dX11_rebate_1 : decode cX11_rebate 1 = .ok (.getfield 24, 3) := by decide +kernel
theorem dX11_rebate_4 : decode cX11_rebate 4 = .ok (.invokevirtual 118, 3) := by decide +kernel
theorem dX11_rebate_7 : decode cX11_rebate 7 = .ok (.astore_n 3, 1) := by decide +kernel
theorem dX11_rebate_8 : decode cX11_rebate 8 = .ok (.iload_n 1, 1) := by decide +kernel
theorem dX11_rebate_9 : decode cX11_rebate 9 = .ok (.aload_n 3, 1) := by decide +kernel
theorem dX11_rebate_10 : decode cX11_rebate 10 = .ok (.getfield 127, 3) := by decide +kernel
theorem dX11_rebate_13 : decode cX11_rebate 13 = .ok (.invokestatic 153, 3) := by decide +kernel
theorem dX11_rebate_16 : decode cX11_rebate 16 = .ok (.iload_n 2, 1) := by decide +kernel
theorem dX11_rebate_17 : decode cX11_rebate 17 = .ok (.iconst 0, 1) := by decide +kernel
theorem dX11_rebate_18 : decode cX11_rebate 18 = .ok (.iconst 1, 1) := by decide +kernel
theorem dX11_rebate_19 : decode cX11_rebate 19 = .ok (.invokestatic 76, 3) := by decide +kernel
theorem dX11_rebate_22 : decode cX11_rebate 22 = .ok (.iload_n 2, 1) := by decide +kernel
theorem dX11_rebate_23 : decode cX11_rebate 23 = .ok (.ifCond .ne 12, 3) := by decide +kernel
theorem dX11_rebate_26 : decode cX11_rebate 26 = .ok (.aload_n 3, 1) := by decide +kernel
theorem dX11_rebate_27 : decode cX11_rebate 27 = .ok (.getfield 164, 3) := by decide +kernel
theorem dX11_rebate_30 : decode cX11_rebate 30 = .ok (.iload_n 1, 1) := by decide +kernel
theorem dX11_rebate_31 : decode cX11_rebate 31 = .ok (.iaload, 1) := by decide +kernel
theorem dX11_rebate_32 : decode cX11_rebate 32 = .ok (.goto 9, 3) := by decide +kernel
theorem dX11_rebate_35 : decode cX11_rebate 35 = .ok (.aload_n 3, 1) := by decide +kernel
theorem dX11_rebate_36 : decode cX11_rebate 36 = .ok (.getfield 167, 3) := by decide +kernel
theorem dX11_rebate_39 : decode cX11_rebate 39 = .ok (.iload_n 1, 1) := by decide +kernel
theorem dX11_rebate_40 : decode cX11_rebate 40 = .ok (.iaload, 1) := by decide +kernel
theorem dX11_rebate_41 : decode cX11_rebate 41 = .ok (.ireturn, 1) := by decide +kernel
theorem dX11_bandOf_0 : decode cX11_bandOf 0 = .ok (.iload_n 1, 1) := by decide +kernel
theorem dX11_bandOf_1 : decode cX11_bandOf 1 = .ok (.iconst 0, 1) := by decide +kernel
theorem dX11_bandOf_2 : decode cX11_bandOf 2 = .ok (.sipush 9999, 3) := by decide +kernel
theorem dX11_bandOf_5 : decode cX11_bandOf 5 = .ok (.invokestatic 76, 3) := by decide +kernel
theorem dX11_bandOf_8 : decode cX11_bandOf 8 = .ok (.aload_n 0, 1) := by decide +kernel
theorem dX11_bandOf_9 : decode cX11_bandOf 9 = .ok (.getfield 24, 3) := by decide +kernel
theorem dX11_bandOf_12 : decode cX11_bandOf 12 = .ok (.invokevirtual 118, 3) := by decide +kernel
theorem dX11_bandOf_15 : decode cX11_bandOf 15 = .ok (.iload_n 1, 1) := by decide +kernel
theorem dX11_bandOf_16 : decode cX11_bandOf 16 = .ok (.invokevirtual 170, 3) := by decide +kernel
theorem dX11_bandOf_19 : decode cX11_bandOf 19 = .ok (.ireturn, 1) := by decide +kernel
theorem dX11_dues_0 : decode cX11_dues 0 = .ok (.iload_n 1, 1) := by decide +kernel
theorem dX11_dues_1 : decode cX11_dues 1 = .ok (.iconst 0, 1) := by decide +kernel
theorem dX11_dues_2 : decode cX11_dues 2 = .ok (.sipush 9999, 3) := by decide +kernel
theorem dX11_dues_5 : decode cX11_dues 5 = .ok (.invokestatic 76, 3) := by decide +kernel
theorem dX11_dues_8 : decode cX11_dues 8 = .ok (.aload_n 0, 1) := by decide +kernel
theorem dX11_dues_9 : decode cX11_dues 9 = .ok (.getfield 24, 3) := by decide +kernel
theorem dX11_dues_12 : decode cX11_dues 12 = .ok (.invokevirtual 118, 3) := by decide +kernel
theorem dX11_dues_15 : decode cX11_dues 15 = .ok (.iload_n 1, 1) := by decide +kernel
theorem dX11_dues_16 : decode cX11_dues 16 = .ok (.invokevirtual 174, 3) := by decide +kernel
theorem dX11_dues_19 : decode cX11_dues 19 = .ok (.ireturn, 1) := by decide +kernel
theorem dX11_tonsIn_0 : decode cX11_tonsIn 0 = .ok (.iload_n 2, 1) := by decide +kernel
theorem dX11_tonsIn_1 : decode cX11_tonsIn 1 = .ok (.aload_n 0, 1) := by decide +kernel
theorem dX11_tonsIn_2 : decode cX11_tonsIn 2 = .ok (.getfield 24, 3) := by decide +kernel
theorem dX11_tonsIn_5 : decode cX11_tonsIn 5 = .ok (.invokevirtual 118, 3) := by decide +kernel
theorem dX11_tonsIn_8 : decode cX11_tonsIn 8 = .ok (.getfield 122, 3) := by decide +kernel
theorem dX11_tonsIn_11 : decode cX11_tonsIn 11 = .ok (.invokestatic 153, 3) := by decide +kernel
theorem dX11_tonsIn_14 : decode cX11_tonsIn 14 = .ok (.iload_n 1, 1) := by decide +kernel
theorem dX11_tonsIn_15 : decode cX11_tonsIn 15 = .ok (.iconst 0, 1) := by decide +kernel
theorem dX11_tonsIn_16 : decode cX11_tonsIn 16 = .ok (.sipush 9999, 3) := by decide +kernel
theorem dX11_tonsIn_19 : decode cX11_tonsIn 19 = .ok (.invokestatic 76, 3) := by decide +kernel
theorem dX11_tonsIn_22 : decode cX11_tonsIn 22 = .ok (.aload_n 0, 1) := by decide +kernel
theorem dX11_tonsIn_23 : decode cX11_tonsIn 23 = .ok (.getfield 24, 3) := by decide +kernel
theorem dX11_tonsIn_26 : decode cX11_tonsIn 26 = .ok (.invokevirtual 118, 3) := by decide +kernel
theorem dX11_tonsIn_29 : decode cX11_tonsIn 29 = .ok (.iload_n 1, 1) := by decide +kernel
theorem dX11_tonsIn_30 : decode cX11_tonsIn 30 = .ok (.iload_n 2, 1) := by decide +kernel
theorem dX11_tonsIn_31 : decode cX11_tonsIn 31 = .ok (.invokevirtual 177, 3) := by decide +kernel
theorem dX11_tonsIn_34 : decode cX11_tonsIn 34 = .ok (.ireturn, 1) := by decide +kernel
theorem dX11_wasteFee_0 : decode cX11_wasteFee 0 = .ok (.iload_n 1, 1) := by decide +kernel
theorem dX11_wasteFee_1 : decode cX11_wasteFee 1 = .ok (.iconst 0, 1) := by decide +kernel
theorem dX11_wasteFee_2 : decode cX11_wasteFee 2 = .ok (.sipush 999, 3) := by decide +kernel
theorem dX11_wasteFee_5 : decode cX11_wasteFee 5 = .ok (.invokestatic 76, 3) := by decide +kernel
theorem dX11_wasteFee_8 : decode cX11_wasteFee 8 = .ok (.aload_n 0, 1) := by decide +kernel
theorem dX11_wasteFee_9 : decode cX11_wasteFee 9 = .ok (.getfield 24, 3) := by decide +kernel
theorem dX11_wasteFee_12 : decode cX11_wasteFee 12 = .ok (.invokevirtual 118, 3) := by decide +kernel
theorem dX11_wasteFee_15 : decode cX11_wasteFee 15 = .ok (.iload_n 1, 1) := by decide +kernel
theorem dX11_wasteFee_16 : decode cX11_wasteFee 16 = .ok (.invokevirtual 181, 3) := by decide +kernel
theorem dX11_wasteFee_19 : decode cX11_wasteFee 19 = .ok (.ireturn, 1) := by decide +kernel
theorem dX11_tons_0 : decode cX11_tons 0 = .ok (.aload_n 0, 1) := by decide +kernel
theorem dX11_tons_1 : decode cX11_tons 1 = .ok (.iload_n 1, 1) := by decide +kernel
theorem dX11_tons_2 : decode cX11_tons 2 = .ok (.invokevirtual 184, 3) := by decide +kernel
theorem dX11_tons_5 : decode cX11_tons 5 = .ok (.aload_n 0, 1) := by decide +kernel
theorem dX11_tons_6 : decode cX11_tons 6 = .ok (.getfield 24, 3) := by decide +kernel
theorem dX11_tons_9 : decode cX11_tons 9 = .ok (.getfield 187, 3) := by decide +kernel
theorem dX11_tons_12 : decode cX11_tons 12 = .ok (.iload_n 1, 1) := by decide +kernel
theorem dX11_tons_13 : decode cX11_tons 13 = .ok (.aaload, 1) := by decide +kernel
theorem dX11_tons_14 : decode cX11_tons 14 = .ok (.getfield 191, 3) := by decide +kernel
theorem dX11_tons_17 : decode cX11_tons 17 = .ok (.ireturn, 1) := by decide +kernel
theorem dX11_calls_0 : decode cX11_calls 0 = .ok (.aload_n 0, 1) := by decide +kernel
theorem dX11_calls_1 : decode cX11_calls 1 = .ok (.iload_n 1, 1) := by decide +kernel
theorem dX11_calls_2 : decode cX11_calls 2 = .ok (.invokevirtual 184, 3) := by decide +kernel
theorem dX11_calls_5 : decode cX11_calls 5 = .ok (.iload_n 2, 1) := by decide +kernel
theorem dX11_calls_6 : decode cX11_calls 6 = .ok (.iconst 0, 1) := by decide +kernel
theorem dX11_calls_7 : decode cX11_calls 7 = .ok (.bipush 9, 2) := by decide +kernel
theorem dX11_calls_9 : decode cX11_calls 9 = .ok (.invokestatic 76, 3) := by decide +kernel
theorem dX11_calls_12 : decode cX11_calls 12 = .ok (.aload_n 0, 1) := by decide +kernel
theorem dX11_calls_13 : decode cX11_calls 13 = .ok (.getfield 24, 3) := by decide +kernel
theorem dX11_calls_16 : decode cX11_calls 16 = .ok (.iload_n 1, 1) := by decide +kernel
theorem dX11_calls_17 : decode cX11_calls 17 = .ok (.iload_n 2, 1) := by decide +kernel
theorem dX11_calls_18 : decode cX11_calls 18 = .ok (.invokevirtual 196, 3) := by decide +kernel
theorem dX11_calls_21 : decode cX11_calls 21 = .ok (.ireturn, 1) := by decide +kernel
theorem dX11_call_0 : decode cX11_call 0 = .ok (.aload_n 0, 1) := by decide +kernel
theorem dX11_call_1 : decode cX11_call 1 = .ok (.iload_n 1, 1) := by decide +kernel
theorem dX11_call_2 : decode cX11_call 2 = .ok (.invokevirtual 199, 3) := by decide +kernel
theorem dX11_call_5 : decode cX11_call 5 = .ok (.iload_n 2, 1) := by decide +kernel
theorem dX11_call_6 : decode cX11_call 6 = .ok (.iconst 0, 1) := by decide +kernel
theorem dX11_call_7 : decode cX11_call 7 = .ok (.bipush 7, 2) := by decide +kernel
theorem dX11_call_9 : decode cX11_call 9 = .ok (.invokestatic 76, 3) := by decide +kernel
theorem dX11_call_12 : decode cX11_call 12 = .ok (.aload_n 0, 1) := by decide +kernel
theorem dX11_call_13 : decode cX11_call 13 = .ok (.getfield 24, 3) := by decide +kernel
theorem dX11_call_16 : decode cX11_call 16 = .ok (.getfield 202, 3) := by decide +kernel
theorem dX11_call_19 : decode cX11_call 19 = .ok (.iload_n 1, 1) := by decide +kernel
theorem dX11_call_20 : decode cX11_call 20 = .ok (.aaload, 1) := by decide +kernel
theorem dX11_call_21 : decode cX11_call 21 = .ok (.astore_n 3, 1) := by decide +kernel
theorem dX11_call_22 : decode cX11_call 22 = .ok (.iload_n 2, 1) := by decide +kernel
theorem dX11_call_23 : decode cX11_call 23 = .ok (.tableswitch 102 0 6 #[41, 46, 51, 56, 61, 74, 83], 41) := by decide +kernel
theorem dX11_call_64 : decode cX11_call 64 = .ok (.aload_n 3, 1) := by decide +kernel
theorem dX11_call_65 : decode cX11_call 65 = .ok (.getfield 206, 3) := by decide +kernel
theorem dX11_call_68 : decode cX11_call 68 = .ok (.ireturn, 1) := by decide +kernel
theorem dX11_call_69 : decode cX11_call 69 = .ok (.aload_n 3, 1) := by decide +kernel
theorem dX11_call_70 : decode cX11_call 70 = .ok (.getfield 211, 3) := by decide +kernel
theorem dX11_call_73 : decode cX11_call 73 = .ok (.ireturn, 1) := by decide +kernel
theorem dX11_call_74 : decode cX11_call 74 = .ok (.aload_n 3, 1) := by decide +kernel
theorem dX11_call_75 : decode cX11_call 75 = .ok (.getfield 214, 3) := by decide +kernel
theorem dX11_call_78 : decode cX11_call 78 = .ok (.ireturn, 1) := by decide +kernel
theorem dX11_call_79 : decode cX11_call 79 = .ok (.aload_n 3, 1) := by decide +kernel
theorem dX11_call_80 : decode cX11_call 80 = .ok (.getfield 217, 3) := by decide +kernel
theorem dX11_call_83 : decode cX11_call 83 = .ok (.ireturn, 1) := by decide +kernel
theorem dX11_call_84 : decode cX11_call 84 = .ok (.aload_n 3, 1) := by decide +kernel
theorem dX11_call_85 : decode cX11_call 85 = .ok (.getfield 220, 3) := by decide +kernel
theorem dX11_call_88 : decode cX11_call 88 = .ok (.ifCond .eq 7, 3) := by decide +kernel
theorem dX11_call_91 : decode cX11_call 91 = .ok (.iconst 1, 1) := by decide +kernel
theorem dX11_call_92 : decode cX11_call 92 = .ok (.goto 4, 3) := by decide +kernel
theorem dX11_call_95 : decode cX11_call 95 = .ok (.iconst 0, 1) := by decide +kernel
theorem dX11_call_96 : decode cX11_call 96 = .ok (.ireturn, 1) := by decide +kernel
theorem dX11_call_97 : decode cX11_call 97 = .ok (.aload_n 0, 1) := by decide +kernel
theorem dX11_call_98 : decode cX11_call 98 = .ok (.getfield 24, 3) := by decide +kernel
theorem dX11_call_101 : decode cX11_call 101 = .ok (.iload_n 1, 1) := by decide +kernel
theorem dX11_call_102 : decode cX11_call 102 = .ok (.invokevirtual 223, 3) := by decide +kernel
theorem dX11_call_105 : decode cX11_call 105 = .ok (.ireturn, 1) := by decide +kernel
theorem dX11_call_106 : decode cX11_call 106 = .ok (.aload_n 0, 1) := by decide +kernel
theorem dX11_call_107 : decode cX11_call 107 = .ok (.getfield 24, 3) := by decide +kernel
theorem dX11_call_110 : decode cX11_call 110 = .ok (.invokevirtual 118, 3) := by decide +kernel
theorem dX11_call_113 : decode cX11_call 113 = .ok (.aload_n 0, 1) := by decide +kernel
theorem dX11_call_114 : decode cX11_call 114 = .ok (.getfield 24, 3) := by decide +kernel
theorem dX11_call_117 : decode cX11_call 117 = .ok (.iload_n 1, 1) := by decide +kernel
theorem dX11_call_118 : decode cX11_call 118 = .ok (.invokevirtual 223, 3) := by decide +kernel
theorem dX11_call_121 : decode cX11_call 121 = .ok (.invokevirtual 226, 3) := by decide +kernel
theorem dX11_call_124 : decode cX11_call 124 = .ok (.ireturn, 1) := by decide +kernel
theorem dX11_call_125 : decode cX11_call 125 = .ok (.aload_n 0, 1) := by decide +kernel
theorem dX11_call_126 : decode cX11_call 126 = .ok (.getfield 52, 3) := by decide +kernel
theorem dX11_call_129 : decode cX11_call 129 = .ok (.iload_n 1, 1) := by decide +kernel
theorem dX11_call_130 : decode cX11_call 130 = .ok (.invokevirtual 229, 3) := by decide +kernel
theorem dX11_call_133 : decode cX11_call 133 = .ok (.ireturn, 1) := by decide +kernel
theorem dX11_layDays_0 : decode cX11_layDays 0 = .ok (.aload_n 0, 1) := by decide +kernel
theorem dX11_layDays_1 : decode cX11_layDays 1 = .ok (.iload_n 1, 1) := by decide +kernel
theorem dX11_layDays_2 : decode cX11_layDays 2 = .ok (.invokevirtual 199, 3) := by decide +kernel
theorem dX11_layDays_5 : decode cX11_layDays 5 = .ok (.aload_n 0, 1) := by decide +kernel
theorem dX11_layDays_6 : decode cX11_layDays 6 = .ok (.getfield 24, 3) := by decide +kernel
theorem dX11_layDays_9 : decode cX11_layDays 9 = .ok (.iload_n 1, 1) := by decide +kernel
theorem dX11_layDays_10 : decode cX11_layDays 10 = .ok (.invokevirtual 232, 3) := by decide +kernel
theorem dX11_layDays_13 : decode cX11_layDays 13 = .ok (.ireturn, 1) := by decide +kernel
theorem dX11_pending_0 : decode cX11_pending 0 = .ok (.aload_n 0, 1) := by decide +kernel
theorem dX11_pending_1 : decode cX11_pending 1 = .ok (.iload_n 1, 1) := by decide +kernel
theorem dX11_pending_2 : decode cX11_pending 2 = .ok (.invokevirtual 199, 3) := by decide +kernel
theorem dX11_pending_5 : decode cX11_pending 5 = .ok (.aload_n 0, 1) := by decide +kernel
theorem dX11_pending_6 : decode cX11_pending 6 = .ok (.getfield 24, 3) := by decide +kernel
theorem dX11_pending_9 : decode cX11_pending 9 = .ok (.getfield 202, 3) := by decide +kernel
theorem dX11_pending_12 : decode cX11_pending 12 = .ok (.iload_n 1, 1) := by decide +kernel
theorem dX11_pending_13 : decode cX11_pending 13 = .ok (.aaload, 1) := by decide +kernel
theorem dX11_pending_14 : decode cX11_pending 14 = .ok (.getfield 235, 3) := by decide +kernel
theorem dX11_pending_17 : decode cX11_pending 17 = .ok (.ireturn, 1) := by decide +kernel
theorem dX11_upheld_0 : decode cX11_upheld 0 = .ok (.aload_n 0, 1) := by decide +kernel
theorem dX11_upheld_1 : decode cX11_upheld 1 = .ok (.iload_n 1, 1) := by decide +kernel
theorem dX11_upheld_2 : decode cX11_upheld 2 = .ok (.invokevirtual 199, 3) := by decide +kernel
theorem dX11_upheld_5 : decode cX11_upheld 5 = .ok (.aload_n 0, 1) := by decide +kernel
theorem dX11_upheld_6 : decode cX11_upheld 6 = .ok (.getfield 24, 3) := by decide +kernel
theorem dX11_upheld_9 : decode cX11_upheld 9 = .ok (.getfield 202, 3) := by decide +kernel
theorem dX11_upheld_12 : decode cX11_upheld 12 = .ok (.iload_n 1, 1) := by decide +kernel
theorem dX11_upheld_13 : decode cX11_upheld 13 = .ok (.aaload, 1) := by decide +kernel
theorem dX11_upheld_14 : decode cX11_upheld 14 = .ok (.getfield 238, 3) := by decide +kernel
theorem dX11_upheld_17 : decode cX11_upheld 17 = .ok (.ireturn, 1) := by decide +kernel
theorem dX11_billedDays_0 : decode cX11_billedDays 0 = .ok (.aload_n 0, 1) := by decide +kernel
theorem dX11_billedDays_1 : decode cX11_billedDays 1 = .ok (.iload_n 1, 1) := by decide +kernel
theorem dX11_billedDays_2 : decode cX11_billedDays 2 = .ok (.invokevirtual 199, 3) := by decide +kernel
theorem dX11_billedDays_5 : decode cX11_billedDays 5 = .ok (.aload_n 0, 1) := by decide +kernel
theorem dX11_billedDays_6 : decode cX11_billedDays 6 = .ok (.getfield 52, 3) := by decide +kernel
theorem dX11_billedDays_9 : decode cX11_billedDays 9 = .ok (.iload_n 1, 1) := by decide +kernel
theorem dX11_billedDays_10 : decode cX11_billedDays 10 = .ok (.invokevirtual 241, 3) := by decide +kernel
theorem dX11_billedDays_13 : decode cX11_billedDays 13 = .ok (.ireturn, 1) := by decide +kernel
theorem dX11_billable_0 : decode cX11_billable 0 = .ok (.aload_n 0, 1) := by decide +kernel
theorem dX11_billable_1 : decode cX11_billable 1 = .ok (.iload_n 1, 1) := by decide +kernel
theorem dX11_billable_2 : decode cX11_billable 2 = .ok (.invokevirtual 199, 3) := by decide +kernel
theorem dX11_billable_5 : decode cX11_billable 5 = .ok (.aload_n 0, 1) := by decide +kernel
theorem dX11_billable_6 : decode cX11_billable 6 = .ok (.getfield 52, 3) := by decide +kernel
theorem dX11_billable_9 : decode cX11_billable 9 = .ok (.iload_n 1, 1) := by decide +kernel
theorem dX11_billable_10 : decode cX11_billable 10 = .ok (.invokevirtual 244, 3) := by decide +kernel
theorem dX11_billable_13 : decode cX11_billable 13 = .ok (.ireturn, 1) := by decide +kernel
theorem dX11_amount_0 : decode cX11_amount 0 = .ok (.aload_n 0, 1) := by decide +kernel
theorem dX11_amount_1 : decode cX11_amount 1 = .ok (.iload_n 1, 1) := by decide +kernel
theorem dX11_amount_2 : decode cX11_amount 2 = .ok (.invokevirtual 199, 3) := by decide +kernel
theorem dX11_amount_5 : decode cX11_amount 5 = .ok (.iload_n 2, 1) := by decide +kernel
theorem dX11_amount_6 : decode cX11_amount 6 = .ok (.invokestatic 247, 3) := by decide +kernel
theorem dX11_amount_9 : decode cX11_amount 9 = .ok (.aload_n 0, 1) := by decide +kernel
theorem dX11_amount_10 : decode cX11_amount 10 = .ok (.getfield 24, 3) := by decide +kernel
theorem dX11_amount_13 : decode cX11_amount 13 = .ok (.iload_n 1, 1) := by decide +kernel
theorem dX11_amount_14 : decode cX11_amount 14 = .ok (.iload_n 2, 1) := by decide +kernel
theorem dX11_amount_15 : decode cX11_amount 15 = .ok (.aload_n 0, 1) := by decide +kernel
theorem dX11_amount_16 : decode cX11_amount 16 = .ok (.getfield 24, 3) := by decide +kernel
theorem dX11_amount_19 : decode cX11_amount 19 = .ok (.invokevirtual 118, 3) := by decide +kernel
theorem dX11_amount_22 : decode cX11_amount 22 = .ok (.aload_n 0, 1) := by decide +kernel
theorem dX11_amount_23 : decode cX11_amount 23 = .ok (.getfield 24, 3) := by decide +kernel
theorem dX11_amount_26 : decode cX11_amount 26 = .ok (.iload_n 1, 1) := by decide +kernel
theorem dX11_amount_27 : decode cX11_amount 27 = .ok (.invokevirtual 223, 3) := by decide +kernel
theorem dX11_amount_30 : decode cX11_amount 30 = .ok (.invokevirtual 250, 3) := by decide +kernel
theorem dX11_amount_33 : decode cX11_amount 33 = .ok (.ireturn, 1) := by decide +kernel
theorem dX11_callTotal_0 : decode cX11_callTotal 0 = .ok (.aload_n 0, 1) := by decide +kernel
theorem dX11_callTotal_1 : decode cX11_callTotal 1 = .ok (.iload_n 1, 1) := by decide +kernel
theorem dX11_callTotal_2 : decode cX11_callTotal 2 = .ok (.invokevirtual 199, 3) := by decide +kernel
theorem dX11_callTotal_5 : decode cX11_callTotal 5 = .ok (.aload_n 0, 1) := by decide +kernel
theorem dX11_callTotal_6 : decode cX11_callTotal 6 = .ok (.getfield 24, 3) := by decide +kernel
theorem dX11_callTotal_9 : decode cX11_callTotal 9 = .ok (.getfield 202, 3) := by decide +kernel
theorem dX11_callTotal_12 : decode cX11_callTotal 12 = .ok (.iload_n 1, 1) := by decide +kernel
theorem dX11_callTotal_13 : decode cX11_callTotal 13 = .ok (.aaload, 1) := by decide +kernel
theorem dX11_callTotal_14 : decode cX11_callTotal 14 = .ok (.getfield 220, 3) := by decide +kernel
theorem dX11_callTotal_17 : decode cX11_callTotal 17 = .ok (.ifCond .eq 5, 3) := by decide +kernel
theorem dX11_callTotal_20 : decode cX11_callTotal 20 = .ok (.iconst 0, 1) := by decide +kernel
theorem dX11_callTotal_21 : decode cX11_callTotal 21 = .ok (.ireturn, 1) := by decide +kernel
theorem dX11_callTotal_22 : decode cX11_callTotal 22 = .ok (.aload_n 0, 1) := by decide +kernel
theorem dX11_callTotal_23 : decode cX11_callTotal 23 = .ok (.getfield 24, 3) := by decide +kernel
theorem dX11_callTotal_26 : decode cX11_callTotal 26 = .ok (.iload_n 1, 1) := by decide +kernel
theorem dX11_callTotal_27 : decode cX11_callTotal 27 = .ok (.aload_n 0, 1) := by decide +kernel
theorem dX11_callTotal_28 : decode cX11_callTotal 28 = .ok (.getfield 24, 3) := by decide +kernel
theorem dX11_callTotal_31 : decode cX11_callTotal 31 = .ok (.iload_n 1, 1) := by decide +kernel
theorem dX11_callTotal_32 : decode cX11_callTotal 32 = .ok (.invokevirtual 223, 3) := by decide +kernel
theorem dX11_callTotal_35 : decode cX11_callTotal 35 = .ok (.invokevirtual 254, 3) := by decide +kernel
theorem dX11_callTotal_38 : decode cX11_callTotal 38 = .ok (.ireturn, 1) := by decide +kernel
theorem dX11_invoice_0 : decode cX11_invoice 0 = .ok (.aload_n 0, 1) := by decide +kernel
theorem dX11_invoice_1 : decode cX11_invoice 1 = .ok (.iload_n 1, 1) := by decide +kernel
theorem dX11_invoice_2 : decode cX11_invoice 2 = .ok (.invokevirtual 257, 3) := by decide +kernel
theorem dX11_invoice_5 : decode cX11_invoice 5 = .ok (.iload_n 2, 1) := by decide +kernel
theorem dX11_invoice_6 : decode cX11_invoice 6 = .ok (.iconst 0, 1) := by decide +kernel
theorem dX11_invoice_7 : decode cX11_invoice 7 = .ok (.iconst 5, 1) := by decide +kernel
theorem dX11_invoice_8 : decode cX11_invoice 8 = .ok (.invokestatic 76, 3) := by decide +kernel
theorem dX11_invoice_11 : decode cX11_invoice 11 = .ok (.aload_n 0, 1) := by decide +kernel
theorem dX11_invoice_12 : decode cX11_invoice 12 = .ok (.getfield 24, 3) := by decide +kernel
theorem dX11_invoice_15 : decode cX11_invoice 15 = .ok (.getfield 260, 3) := by decide +kernel
theorem dX11_invoice_18 : decode cX11_invoice 18 = .ok (.iload_n 1, 1) := by decide +kernel
theorem dX11_invoice_19 : decode cX11_invoice 19 = .ok (.aaload, 1) := by decide +kernel
theorem dX11_invoice_20 : decode cX11_invoice 20 = .ok (.astore_n 3, 1) := by decide +kernel
theorem dX11_invoice_21 : decode cX11_invoice 21 = .ok (.iload_n 2, 1) := by decide +kernel
theorem dX11_invoice_22 : decode cX11_invoice 22 = .ok (.tableswitch 59 0 4 #[34, 39, 44, 49, 54], 34) := by decide +kernel
theorem dX11_invoice_56 : decode cX11_invoice 56 = .ok (.aload_n 3, 1) := by decide +kernel
theorem dX11_invoice_57 : decode cX11_invoice 57 = .ok (.getfield 264, 3) := by decide +kernel
theorem dX11_invoice_60 : decode cX11_invoice 60 = .ok (.ireturn, 1) := by decide +kernel
theorem dX11_invoice_61 : decode cX11_invoice 61 = .ok (.aload_n 3, 1) := by decide +kernel
theorem dX11_invoice_62 : decode cX11_invoice 62 = .ok (.getfield 269, 3) := by decide +kernel
theorem dX11_invoice_65 : decode cX11_invoice 65 = .ok (.ireturn, 1) := by decide +kernel
theorem dX11_invoice_66 : decode cX11_invoice 66 = .ok (.aload_n 3, 1) := by decide +kernel
theorem dX11_invoice_67 : decode cX11_invoice 67 = .ok (.getfield 272, 3) := by decide +kernel
theorem dX11_invoice_70 : decode cX11_invoice 70 = .ok (.ireturn, 1) := by decide +kernel
theorem dX11_invoice_71 : decode cX11_invoice 71 = .ok (.aload_n 3, 1) := by decide +kernel
theorem dX11_invoice_72 : decode cX11_invoice 72 = .ok (.getfield 273, 3) := by decide +kernel
theorem dX11_invoice_75 : decode cX11_invoice 75 = .ok (.ireturn, 1) := by decide +kernel
theorem dX11_invoice_76 : decode cX11_invoice 76 = .ok (.aload_n 3, 1) := by decide +kernel
theorem dX11_invoice_77 : decode cX11_invoice 77 = .ok (.getfield 276, 3) := by decide +kernel
theorem dX11_invoice_80 : decode cX11_invoice 80 = .ok (.ireturn, 1) := by decide +kernel
theorem dX11_invoice_81 : decode cX11_invoice 81 = .ok (.aload_n 3, 1) := by decide +kernel
theorem dX11_invoice_82 : decode cX11_invoice 82 = .ok (.getfield 279, 3) := by decide +kernel
theorem dX11_invoice_85 : decode cX11_invoice 85 = .ok (.ireturn, 1) := by decide +kernel
theorem dX11_line_0 : decode cX11_line 0 = .ok (.aload_n 0, 1) := by decide +kernel
theorem dX11_line_1 : decode cX11_line 1 = .ok (.iload_n 1, 1) := by decide +kernel
theorem dX11_line_2 : decode cX11_line 2 = .ok (.invokevirtual 257, 3) := by decide +kernel
theorem dX11_line_5 : decode cX11_line 5 = .ok (.iload_n 2, 1) := by decide +kernel
theorem dX11_line_6 : decode cX11_line 6 = .ok (.invokestatic 247, 3) := by decide +kernel
theorem dX11_line_9 : decode cX11_line 9 = .ok (.aload_n 0, 1) := by decide +kernel
theorem dX11_line_10 : decode cX11_line 10 = .ok (.getfield 24, 3) := by decide +kernel
theorem dX11_line_13 : decode cX11_line 13 = .ok (.getfield 260, 3) := by decide +kernel
theorem dX11_line_16 : decode cX11_line 16 = .ok (.iload_n 1, 1) := by decide +kernel
theorem dX11_line_17 : decode cX11_line 17 = .ok (.aaload, 1) := by decide +kernel
theorem dX11_line_18 : decode cX11_line 18 = .ok (.getfield 282, 3) := by decide +kernel
theorem dX11_line_21 : decode cX11_line 21 = .ok (.iload_n 2, 1) := by decide +kernel
theorem dX11_line_22 : decode cX11_line 22 = .ok (.iaload, 1) := by decide +kernel
theorem dX11_line_23 : decode cX11_line 23 = .ok (.ireturn, 1) := by decide +kernel
theorem dX11_net_0 : decode cX11_net 0 = .ok (.aload_n 0, 1) := by decide +kernel
theorem dX11_net_1 : decode cX11_net 1 = .ok (.iload_n 1, 1) := by decide +kernel
theorem dX11_net_2 : decode cX11_net 2 = .ok (.invokevirtual 257, 3) := by decide +kernel
theorem dX11_net_5 : decode cX11_net 5 = .ok (.aload_n 0, 1) := by decide +kernel
theorem dX11_net_6 : decode cX11_net 6 = .ok (.getfield 24, 3) := by decide +kernel
theorem dX11_net_9 : decode cX11_net 9 = .ok (.getfield 260, 3) := by decide +kernel
theorem dX11_net_12 : decode cX11_net 12 = .ok (.iload_n 1, 1) := by decide +kernel
theorem dX11_net_13 : decode cX11_net 13 = .ok (.aaload, 1) := by decide +kernel
theorem dX11_net_14 : decode cX11_net 14 = .ok (.invokevirtual 285, 3) := by decide +kernel
theorem dX11_net_17 : decode cX11_net 17 = .ok (.ireturn, 1) := by decide +kernel
theorem dX11_open_0 : decode cX11_open 0 = .ok (.aload_n 0, 1) := by decide +kernel
theorem dX11_open_1 : decode cX11_open 1 = .ok (.iload_n 1, 1) := by decide +kernel
theorem dX11_open_2 : decode cX11_open 2 = .ok (.invokevirtual 257, 3) := by decide +kernel
theorem dX11_open_5 : decode cX11_open 5 = .ok (.aload_n 0, 1) := by decide +kernel
theorem dX11_open_6 : decode cX11_open 6 = .ok (.getfield 52, 3) := by decide +kernel
theorem dX11_open_9 : decode cX11_open 9 = .ok (.iload_n 1, 1) := by decide +kernel
theorem dX11_open_10 : decode cX11_open 10 = .ok (.invokevirtual 288, 3) := by decide +kernel
theorem dX11_open_13 : decode cX11_open 13 = .ok (.ireturn, 1) := by decide +kernel
theorem dX11_rebuilt_0 : decode cX11_rebuilt 0 = .ok (.aload_n 0, 1) := by decide +kernel
theorem dX11_rebuilt_1 : decode cX11_rebuilt 1 = .ok (.iload_n 1, 1) := by decide +kernel
theorem dX11_rebuilt_2 : decode cX11_rebuilt 2 = .ok (.invokevirtual 257, 3) := by decide +kernel
theorem dX11_rebuilt_5 : decode cX11_rebuilt 5 = .ok (.iload_n 2, 1) := by decide +kernel
theorem dX11_rebuilt_6 : decode cX11_rebuilt 6 = .ok (.invokestatic 247, 3) := by decide +kernel
theorem dX11_rebuilt_9 : decode cX11_rebuilt 9 = .ok (.aload_n 0, 1) := by decide +kernel
theorem dX11_rebuilt_10 : decode cX11_rebuilt 10 = .ok (.getfield 52, 3) := by decide +kernel
theorem dX11_rebuilt_13 : decode cX11_rebuilt 13 = .ok (.aload_n 0, 1) := by decide +kernel
theorem dX11_rebuilt_14 : decode cX11_rebuilt 14 = .ok (.getfield 24, 3) := by decide +kernel
theorem dX11_rebuilt_17 : decode cX11_rebuilt 17 = .ok (.getfield 260, 3) := by decide +kernel
theorem dX11_rebuilt_20 : decode cX11_rebuilt 20 = .ok (.iload_n 1, 1) := by decide +kernel
theorem dX11_rebuilt_21 : decode cX11_rebuilt 21 = .ok (.aaload, 1) := by decide +kernel
theorem dX11_rebuilt_22 : decode cX11_rebuilt 22 = .ok (.iload_n 2, 1) := by decide +kernel
theorem dX11_rebuilt_23 : decode cX11_rebuilt 23 = .ok (.invokevirtual 291, 3) := by decide +kernel
theorem dX11_rebuilt_26 : decode cX11_rebuilt 26 = .ok (.ireturn, 1) := by decide +kernel
theorem dX11_isStale_0 : decode cX11_isStale 0 = .ok (.aload_n 0, 1) := by decide +kernel
theorem dX11_isStale_1 : decode cX11_isStale 1 = .ok (.iload_n 1, 1) := by decide +kernel
theorem dX11_isStale_2 : decode cX11_isStale 2 = .ok (.invokevirtual 257, 3) := by decide +kernel
theorem dX11_isStale_5 : decode cX11_isStale 5 = .ok (.aload_n 0, 1) := by decide +kernel
theorem dX11_isStale_6 : decode cX11_isStale 6 = .ok (.getfield 52, 3) := by decide +kernel
theorem dX11_isStale_9 : decode cX11_isStale 9 = .ok (.iload_n 1, 1) := by decide +kernel
theorem dX11_isStale_10 : decode cX11_isStale 10 = .ok (.invokevirtual 295, 3) := by decide +kernel
theorem dX11_isStale_13 : decode cX11_isStale 13 = .ok (.ireturn, 1) := by decide +kernel
theorem dX11_staleCount_0 : decode cX11_staleCount 0 = .ok (.iconst 0, 1) := by decide +kernel
theorem dX11_staleCount_1 : decode cX11_staleCount 1 = .ok (.istore_n 1, 1) := by decide +kernel
theorem dX11_staleCount_2 : decode cX11_staleCount 2 = .ok (.iconst 0, 1) := by decide +kernel
theorem dX11_staleCount_3 : decode cX11_staleCount 3 = .ok (.istore_n 2, 1) := by decide +kernel
theorem dX11_staleCount_4 : decode cX11_staleCount 4 = .ok (.iload_n 2, 1) := by decide +kernel
theorem dX11_staleCount_5 : decode cX11_staleCount 5 = .ok (.aload_n 0, 1) := by decide +kernel
theorem dX11_staleCount_6 : decode cX11_staleCount 6 = .ok (.getfield 24, 3) := by decide +kernel
theorem dX11_staleCount_9 : decode cX11_staleCount 9 = .ok (.getfield 106, 3) := by decide +kernel
theorem dX11_staleCount_12 : decode cX11_staleCount 12 = .ok (.if_icmp .ge 23, 3) := by decide +kernel
theorem dX11_staleCount_15 : decode cX11_staleCount 15 = .ok (.aload_n 0, 1) := by decide +kernel
theorem dX11_staleCount_16 : decode cX11_staleCount 16 = .ok (.getfield 52, 3) := by decide +kernel
theorem dX11_staleCount_19 : decode cX11_staleCount 19 = .ok (.iload_n 2, 1) := by decide +kernel
theorem dX11_staleCount_20 : decode cX11_staleCount 20 = .ok (.invokevirtual 295, 3) := by decide +kernel
theorem dX11_staleCount_23 : decode cX11_staleCount 23 = .ok (.ifCond .eq 6, 3) := by decide +kernel
theorem dX11_staleCount_26 : decode cX11_staleCount 26 = .ok (.iinc 1 1, 3) := by decide +kernel
theorem dX11_staleCount_29 : decode cX11_staleCount 29 = .ok (.iinc 2 1, 3) := by decide +kernel
theorem dX11_staleCount_32 : decode cX11_staleCount 32 = .ok (.goto (-28), 3) := by decide +kernel
theorem dX11_staleCount_35 : decode cX11_staleCount 35 = .ok (.iload_n 1, 1) := by decide +kernel
theorem dX11_staleCount_36 : decode cX11_staleCount 36 = .ok (.ireturn, 1) := by decide +kernel
theorem dX11_contested_0 : decode cX11_contested 0 = .ok (.aload_n 0, 1) := by decide +kernel
theorem dX11_contested_1 : decode cX11_contested 1 = .ok (.iload_n 1, 1) := by decide +kernel
theorem dX11_contested_2 : decode cX11_contested 2 = .ok (.invokevirtual 257, 3) := by decide +kernel
theorem dX11_contested_5 : decode cX11_contested 5 = .ok (.aload_n 0, 1) := by decide +kernel
theorem dX11_contested_6 : decode cX11_contested 6 = .ok (.getfield 24, 3) := by decide +kernel
theorem dX11_contested_9 : decode cX11_contested 9 = .ok (.getfield 260, 3) := by decide +kernel
theorem dX11_contested_12 : decode cX11_contested 12 = .ok (.iload_n 1, 1) := by decide +kernel
theorem dX11_contested_13 : decode cX11_contested 13 = .ok (.aaload, 1) := by decide +kernel
theorem dX11_contested_14 : decode cX11_contested 14 = .ok (.astore_n 2, 1) := by decide +kernel
theorem dX11_contested_15 : decode cX11_contested 15 = .ok (.aload_n 2, 1) := by decide +kernel
theorem dX11_contested_16 : decode cX11_contested 16 = .ok (.iconst 3, 1) := by decide +kernel
theorem dX11_contested_17 : decode cX11_contested 17 = .ok (.invokevirtual 299, 3) := by decide +kernel
theorem dX11_contested_20 : decode cX11_contested 20 = .ok (.ifCond .ne 5, 3) := by decide +kernel
theorem dX11_contested_23 : decode cX11_contested 23 = .ok (.iconst 0, 1) := by decide +kernel
theorem dX11_contested_24 : decode cX11_contested 24 = .ok (.ireturn, 1) := by decide +kernel
theorem dX11_contested_25 : decode cX11_contested 25 = .ok (.aload_n 2, 1) := by decide +kernel
theorem dX11_contested_26 : decode cX11_contested 26 = .ok (.getfield 279, 3) := by decide +kernel
theorem dX11_contested_29 : decode cX11_contested 29 = .ok (.aload_n 0, 1) := by decide +kernel
theorem dX11_contested_30 : decode cX11_contested 30 = .ok (.getfield 24, 3) := by decide +kernel
theorem dX11_contested_33 : decode cX11_contested 33 = .ok (.getfield 202, 3) := by decide +kernel
theorem dX11_contested_36 : decode cX11_contested 36 = .ok (.aload_n 2, 1) := by decide +kernel
theorem dX11_contested_37 : decode cX11_contested 37 = .ok (.getfield 264, 3) := by decide +kernel
theorem dX11_contested_40 : decode cX11_contested 40 = .ok (.aaload, 1) := by decide +kernel
theorem dX11_contested_41 : decode cX11_contested 41 = .ok (.invokevirtual 302, 3) := by decide +kernel
theorem dX11_contested_44 : decode cX11_contested 44 = .ok (.iand, 1) := by decide +kernel
theorem dX11_contested_45 : decode cX11_contested 45 = .ok (.invokestatic 305, 3) := by decide +kernel
theorem dX11_contested_48 : decode cX11_contested 48 = .ok (.ireturn, 1) := by decide +kernel
theorem dX11_note_0 : decode cX11_note 0 = .ok (.iload_n 1, 1) := by decide +kernel
theorem dX11_note_1 : decode cX11_note 1 = .ok (.aload_n 0, 1) := by decide +kernel
theorem dX11_note_2 : decode cX11_note 2 = .ok (.getfield 24, 3) := by decide +kernel
theorem dX11_note_5 : decode cX11_note 5 = .ok (.getfield 109, 3) := by decide +kernel
theorem dX11_note_8 : decode cX11_note 8 = .ok (.invokestatic 153, 3) := by decide +kernel
theorem dX11_note_11 : decode cX11_note 11 = .ok (.iload_n 2, 1) := by decide +kernel
theorem dX11_note_12 : decode cX11_note 12 = .ok (.iconst 0, 1) := by decide +kernel
theorem dX11_note_13 : decode cX11_note 13 = .ok (.iconst 3, 1) := by decide +kernel
theorem dX11_note_14 : decode cX11_note 14 = .ok (.invokestatic 76, 3) := by decide +kernel
theorem dX11_note_17 : decode cX11_note 17 = .ok (.aload_n 0, 1) := by decide +kernel
theorem dX11_note_18 : decode cX11_note 18 = .ok (.getfield 24, 3) := by decide +kernel
theorem dX11_note_21 : decode cX11_note 21 = .ok (.getfield 310, 3) := by decide +kernel
theorem dX11_note_24 : decode cX11_note 24 = .ok (.iload_n 1, 1) := by decide +kernel
theorem dX11_note_25 : decode cX11_note 25 = .ok (.aaload, 1) := by decide +kernel
theorem dX11_note_26 : decode cX11_note 26 = .ok (.astore_n 3, 1) := by decide +kernel
theorem dX11_note_27 : decode cX11_note 27 = .ok (.iload_n 2, 1) := by decide +kernel
theorem dX11_note_28 : decode cX11_note 28 = .ok (.tableswitch 43 0 2 #[28, 33, 38], 28) := by decide +kernel
theorem dX11_note_56 : decode cX11_note 56 = .ok (.aload_n 3, 1) := by decide +kernel
theorem dX11_note_57 : decode cX11_note 57 = .ok (.getfield 314, 3) := by decide +kernel
theorem dX11_note_60 : decode cX11_note 60 = .ok (.ireturn, 1) := by decide +kernel
theorem dX11_note_61 : decode cX11_note 61 = .ok (.aload_n 3, 1) := by decide +kernel
theorem dX11_note_62 : decode cX11_note 62 = .ok (.getfield 319, 3) := by decide +kernel
theorem dX11_note_65 : decode cX11_note 65 = .ok (.ireturn, 1) := by decide +kernel
theorem dX11_note_66 : decode cX11_note 66 = .ok (.aload_n 3, 1) := by decide +kernel
theorem dX11_note_67 : decode cX11_note 67 = .ok (.getfield 320, 3) := by decide +kernel
theorem dX11_note_70 : decode cX11_note 70 = .ok (.ireturn, 1) := by decide +kernel
theorem dX11_note_71 : decode cX11_note 71 = .ok (.aload_n 3, 1) := by decide +kernel
theorem dX11_note_72 : decode cX11_note 72 = .ok (.getfield 321, 3) := by decide +kernel
theorem dX11_note_75 : decode cX11_note 75 = .ok (.ireturn, 1) := by decide +kernel
theorem dX11_balance_0 : decode cX11_balance 0 = .ok (.aload_n 0, 1) := by decide +kernel
theorem dX11_balance_1 : decode cX11_balance 1 = .ok (.iload_n 1, 1) := by decide +kernel
theorem dX11_balance_2 : decode cX11_balance 2 = .ok (.invokevirtual 184, 3) := by decide +kernel
theorem dX11_balance_5 : decode cX11_balance 5 = .ok (.aload_n 0, 1) := by decide +kernel
theorem dX11_balance_6 : decode cX11_balance 6 = .ok (.getfield 52, 3) := by decide +kernel
theorem dX11_balance_9 : decode cX11_balance 9 = .ok (.iload_n 1, 1) := by decide +kernel
theorem dX11_balance_10 : decode cX11_balance 10 = .ok (.invokevirtual 324, 3) := by decide +kernel
theorem dX11_balance_13 : decode cX11_balance 13 = .ok (.lreturn, 1) := by decide +kernel
theorem dX11_paid_0 : decode cX11_paid 0 = .ok (.aload_n 0, 1) := by decide +kernel
theorem dX11_paid_1 : decode cX11_paid 1 = .ok (.iload_n 1, 1) := by decide +kernel
theorem dX11_paid_2 : decode cX11_paid 2 = .ok (.invokevirtual 184, 3) := by decide +kernel
theorem dX11_paid_5 : decode cX11_paid 5 = .ok (.aload_n 0, 1) := by decide +kernel
theorem dX11_paid_6 : decode cX11_paid 6 = .ok (.getfield 24, 3) := by decide +kernel
theorem dX11_paid_9 : decode cX11_paid 9 = .ok (.getfield 187, 3) := by decide +kernel
theorem dX11_paid_12 : decode cX11_paid 12 = .ok (.iload_n 1, 1) := by decide +kernel
theorem dX11_paid_13 : decode cX11_paid 13 = .ok (.aaload, 1) := by decide +kernel
theorem dX11_paid_14 : decode cX11_paid 14 = .ok (.getfield 328, 3) := by decide +kernel
theorem dX11_paid_17 : decode cX11_paid 17 = .ok (.lreturn, 1) := by decide +kernel
theorem dX11_oldestOpen_0 : decode cX11_oldestOpen 0 = .ok (.aload_n 0, 1) := by decide +kernel
theorem dX11_oldestOpen_1 : decode cX11_oldestOpen 1 = .ok (.iload_n 1, 1) := by decide +kernel
theorem dX11_oldestOpen_2 : decode cX11_oldestOpen 2 = .ok (.invokevirtual 184, 3) := by decide +kernel
theorem dX11_oldestOpen_5 : decode cX11_oldestOpen 5 = .ok (.iconst 0, 1) := by decide +kernel
theorem dX11_oldestOpen_6 : decode cX11_oldestOpen 6 = .ok (.istore_n 2, 1) := by decide +kernel
theorem dX11_oldestOpen_7 : decode cX11_oldestOpen 7 = .ok (.iload_n 2, 1) := by decide +kernel
theorem dX11_oldestOpen_8 : decode cX11_oldestOpen 8 = .ok (.aload_n 0, 1) := by decide +kernel
theorem dX11_oldestOpen_9 : decode cX11_oldestOpen 9 = .ok (.getfield 24, 3) := by decide +kernel
theorem dX11_oldestOpen_12 : decode cX11_oldestOpen 12 = .ok (.getfield 106, 3) := by decide +kernel
theorem dX11_oldestOpen_15 : decode cX11_oldestOpen 15 = .ok (.if_icmp .ge 34, 3) := by decide +kernel
theorem dX11_oldestOpen_18 : decode cX11_oldestOpen 18 = .ok (.aload_n 0, 1) := by decide +kernel
theorem dX11_oldestOpen_19 : decode cX11_oldestOpen 19 = .ok (.getfield 52, 3) := by decide +kernel
theorem dX11_oldestOpen_22 : decode cX11_oldestOpen 22 = .ok (.iload_n 2, 1) := by decide +kernel
theorem dX11_oldestOpen_23 : decode cX11_oldestOpen 23 = .ok (.invokevirtual 332, 3) := by decide +kernel
theorem dX11_oldestOpen_26 : decode cX11_oldestOpen 26 = .ok (.iload_n 1, 1) := by decide +kernel
theorem dX11_oldestOpen_27 : decode cX11_oldestOpen 27 = .ok (.if_icmp .ne 16, 3) := by decide +kernel
theorem dX11_oldestOpen_30 : decode cX11_oldestOpen 30 = .ok (.aload_n 0, 1) := by decide +kernel
theorem dX11_oldestOpen_31 : decode cX11_oldestOpen 31 = .ok (.getfield 52, 3) := by decide +kernel
theorem dX11_oldestOpen_34 : decode cX11_oldestOpen 34 = .ok (.iload_n 2, 1) := by decide +kernel
theorem dX11_oldestOpen_35 : decode cX11_oldestOpen 35 = .ok (.invokevirtual 288, 3) := by decide +kernel
theorem dX11_oldestOpen_38 : decode cX11_oldestOpen 38 = .ok (.ifCond .le 5, 3) := by decide +kernel
theorem dX11_oldestOpen_41 : decode cX11_oldestOpen 41 = .ok (.iload_n 2, 1) := by decide +kernel
theorem dX11_oldestOpen_42 : decode cX11_oldestOpen 42 = .ok (.ireturn, 1) := by decide +kernel
theorem dX11_oldestOpen_43 : decode cX11_oldestOpen 43 = .ok (.iinc 2 1, 3) := by decide +kernel
theorem dX11_oldestOpen_46 : decode cX11_oldestOpen 46 = .ok (.goto (-39), 3) := by decide +kernel
theorem dX11_oldestOpen_49 : decode cX11_oldestOpen 49 = .ok (.iconst (-1), 1) := by decide +kernel
theorem dX11_oldestOpen_50 : decode cX11_oldestOpen 50 = .ok (.ireturn, 1) := by decide +kernel
theorem dX11_overdue_0 : decode cX11_overdue 0 = .ok (.iload_n 1, 1) := by decide +kernel
theorem dX11_overdue_1 : decode cX11_overdue 1 = .ok (.iconst 0, 1) := by decide +kernel
theorem dX11_overdue_2 : decode cX11_overdue 2 = .ok (.sipush 3599, 3) := by decide +kernel
theorem dX11_overdue_5 : decode cX11_overdue 5 = .ok (.invokestatic 76, 3) := by decide +kernel
theorem dX11_overdue_8 : decode cX11_overdue 8 = .ok (.iconst 0, 1) := by decide +kernel
theorem dX11_overdue_9 : decode cX11_overdue 9 = .ok (.istore_n 2, 1) := by decide +kernel
theorem dX11_overdue_10 : decode cX11_overdue 10 = .ok (.iconst 0, 1) := by decide +kernel
theorem dX11_overdue_11 : decode cX11_overdue 11 = .ok (.istore_n 3, 1) := by decide +kernel
theorem dX11_overdue_12 : decode cX11_overdue 12 = .ok (.iload_n 3, 1) := by decide +kernel
theorem dX11_overdue_13 : decode cX11_overdue 13 = .ok (.aload_n 0, 1) := by decide +kernel
theorem dX11_overdue_14 : decode cX11_overdue 14 = .ok (.getfield 24, 3) := by decide +kernel
theorem dX11_overdue_17 : decode cX11_overdue 17 = .ok (.getfield 106, 3) := by decide +kernel
theorem dX11_overdue_20 : decode cX11_overdue 20 = .ok (.if_icmp .ge 47, 3) := by decide +kernel
theorem dX11_overdue_23 : decode cX11_overdue 23 = .ok (.aload_n 0, 1) := by decide +kernel
theorem dX11_overdue_24 : decode cX11_overdue 24 = .ok (.getfield 24, 3) := by decide +kernel
theorem dX11_overdue_27 : decode cX11_overdue 27 = .ok (.getfield 115, 3) := by decide +kernel
theorem dX11_overdue_30 : decode cX11_overdue 30 = .ok (.aload_n 0, 1) := by decide +kernel
theorem dX11_overdue_31 : decode cX11_overdue 31 = .ok (.getfield 24, 3) := by decide +kernel
theorem dX11_overdue_34 : decode cX11_overdue 34 = .ok (.getfield 260, 3) := by decide +kernel
theorem dX11_overdue_37 : decode cX11_overdue 37 = .ok (.iload_n 3, 1) := by decide +kernel
theorem dX11_overdue_38 : decode cX11_overdue 38 = .ok (.aaload, 1) := by decide +kernel
theorem dX11_overdue_39 : decode cX11_overdue 39 = .ok (.getfield 269, 3) := by decide +kernel
theorem dX11_overdue_42 : decode cX11_overdue 42 = .ok (.isub, 1) := by decide +kernel
theorem dX11_overdue_43 : decode cX11_overdue 43 = .ok (.iload_n 1, 1) := by decide +kernel
theorem dX11_overdue_44 : decode cX11_overdue 44 = .ok (.if_icmp .lt 17, 3) := by decide +kernel
theorem dX11_overdue_47 : decode cX11_overdue 47 = .ok (.aload_n 0, 1) := by decide +kernel
theorem dX11_overdue_48 : decode cX11_overdue 48 = .ok (.getfield 52, 3) := by decide +kernel
theorem dX11_overdue_51 : decode cX11_overdue 51 = .ok (.iload_n 3, 1) := by decide +kernel
theorem dX11_overdue_52 : decode cX11_overdue 52 = .ok (.invokevirtual 288, 3) := by decide +kernel
theorem dX11_overdue_55 : decode cX11_overdue 55 = .ok (.ifCond .le 6, 3) := by decide +kernel
theorem dX11_overdue_58 : decode cX11_overdue 58 = .ok (.iinc 2 1, 3) := by decide +kernel
theorem dX11_overdue_61 : decode cX11_overdue 61 = .ok (.iinc 3 1, 3) := by decide +kernel
theorem dX11_overdue_64 : decode cX11_overdue 64 = .ok (.goto (-52), 3) := by decide +kernel
theorem dX11_overdue_67 : decode cX11_overdue 67 = .ok (.iload_n 2, 1) := by decide +kernel
theorem dX11_overdue_68 : decode cX11_overdue 68 = .ok (.ireturn, 1) := by decide +kernel
theorem dX11_revenue_0 : decode cX11_revenue 0 = .ok (.iload_n 1, 1) := by decide +kernel
theorem dX11_revenue_1 : decode cX11_revenue 1 = .ok (.iconst 0, 1) := by decide +kernel
theorem dX11_revenue_2 : decode cX11_revenue 2 = .ok (.bipush 9, 2) := by decide +kernel
theorem dX11_revenue_4 : decode cX11_revenue 4 = .ok (.invokestatic 76, 3) := by decide +kernel
theorem dX11_revenue_7 : decode cX11_revenue 7 = .ok (.iload_n 2, 1) := by decide +kernel
theorem dX11_revenue_8 : decode cX11_revenue 8 = .ok (.invokestatic 247, 3) := by decide +kernel
theorem dX11_revenue_11 : decode cX11_revenue 11 = .ok (.lconst 0, 1) := by decide +kernel
theorem dX11_revenue_12 : decode cX11_revenue 12 = .ok (.lstore_n 3, 1) := by decide +kernel
theorem dX11_revenue_13 : decode cX11_revenue 13 = .ok (.iconst 0, 1) := by decide +kernel
theorem dX11_revenue_14 : decode cX11_revenue 14 = .ok (.istore 5, 2) := by decide +kernel
theorem dX11_revenue_16 : decode cX11_revenue 16 = .ok (.iload 5, 2) := by decide +kernel
theorem dX11_revenue_18 : decode cX11_revenue 18 = .ok (.aload_n 0, 1) := by decide +kernel
theorem dX11_revenue_19 : decode cX11_revenue 19 = .ok (.getfield 24, 3) := by decide +kernel
theorem dX11_revenue_22 : decode cX11_revenue 22 = .ok (.getfield 106, 3) := by decide +kernel
theorem dX11_revenue_25 : decode cX11_revenue 25 = .ok (.if_icmp .ge 61, 3) := by decide +kernel
theorem dX11_revenue_28 : decode cX11_revenue 28 = .ok (.aload_n 0, 1) := by decide +kernel
theorem dX11_revenue_29 : decode cX11_revenue 29 = .ok (.getfield 24, 3) := by decide +kernel
theorem dX11_revenue_32 : decode cX11_revenue 32 = .ok (.getfield 260, 3) := by decide +kernel
theorem dX11_revenue_35 : decode cX11_revenue 35 = .ok (.iload 5, 2) := by decide +kernel
theorem dX11_revenue_37 : decode cX11_revenue 37 = .ok (.aaload, 1) := by decide +kernel
theorem dX11_revenue_38 : decode cX11_revenue 38 = .ok (.astore 6, 2) := by decide +kernel
theorem dX11_revenue_40 : decode cX11_revenue 40 = .ok (.aload 6, 2) := by decide +kernel
theorem dX11_revenue_42 : decode cX11_revenue 42 = .ok (.iload_n 2, 1) := by decide +kernel
theorem dX11_revenue_43 : decode cX11_revenue 43 = .ok (.invokevirtual 299, 3) := by decide +kernel
theorem dX11_revenue_46 : decode cX11_revenue 46 = .ok (.ifCond .eq 34, 3) := by decide +kernel
theorem dX11_revenue_49 : decode cX11_revenue 49 = .ok (.aload_n 0, 1) := by decide +kernel
theorem dX11_revenue_50 : decode cX11_revenue 50 = .ok (.getfield 24, 3) := by decide +kernel
theorem dX11_revenue_53 : decode cX11_revenue 53 = .ok (.getfield 202, 3) := by decide +kernel
theorem dX11_revenue_56 : decode cX11_revenue 56 = .ok (.aload 6, 2) := by decide +kernel
theorem dX11_revenue_58 : decode cX11_revenue 58 = .ok (.getfield 264, 3) := by decide +kernel
theorem dX11_revenue_61 : decode cX11_revenue 61 = .ok (.aaload, 1) := by decide +kernel
theorem dX11_revenue_62 : decode cX11_revenue 62 = .ok (.invokevirtual 335, 3) := by decide +kernel
theorem dX11_revenue_65 : decode cX11_revenue 65 = .ok (.iload_n 1, 1) := by decide +kernel
theorem dX11_revenue_66 : decode cX11_revenue 66 = .ok (.if_icmp .ne 14, 3) := by decide +kernel
theorem dX11_revenue_69 : decode cX11_revenue 69 = .ok (.lload_n 3, 1) := by decide +kernel
theorem dX11_revenue_70 : decode cX11_revenue 70 = .ok (.aload 6, 2) := by decide +kernel
theorem dX11_revenue_72 : decode cX11_revenue 72 = .ok (.getfield 282, 3) := by decide +kernel
theorem dX11_revenue_75 : decode cX11_revenue 75 = .ok (.iload_n 2, 1) := by decide +kernel
theorem dX11_revenue_76 : decode cX11_revenue 76 = .ok (.iaload, 1) := by decide +kernel
theorem dX11_revenue_77 : decode cX11_revenue 77 = .ok (.i2l, 1) := by decide +kernel
theorem dX11_revenue_78 : decode cX11_revenue 78 = .ok (.ladd, 1) := by decide +kernel
theorem dX11_revenue_79 : decode cX11_revenue 79 = .ok (.lstore_n 3, 1) := by decide +kernel
theorem dX11_revenue_80 : decode cX11_revenue 80 = .ok (.iinc 5 1, 3) := by decide +kernel
theorem dX11_revenue_83 : decode cX11_revenue 83 = .ok (.goto (-67), 3) := by decide +kernel
theorem dX11_revenue_86 : decode cX11_revenue 86 = .ok (.lload_n 3, 1) := by decide +kernel
theorem dX11_revenue_87 : decode cX11_revenue 87 = .ok (.lreturn, 1) := by decide +kernel
theorem dX11_rebates_0 : decode cX11_rebates 0 = .ok (.aload_n 0, 1) := by decide +kernel
theorem dX11_rebates_1 : decode cX11_rebates 1 = .ok (.iload_n 1, 1) := by decide +kernel
theorem dX11_rebates_2 : decode cX11_rebates 2 = .ok (.invokevirtual 184, 3) := by decide +kernel
theorem dX11_rebates_5 : decode cX11_rebates 5 = .ok (.iload_n 2, 1) := by decide +kernel
theorem dX11_rebates_6 : decode cX11_rebates 6 = .ok (.iconst 0, 1) := by decide +kernel
theorem dX11_rebates_7 : decode cX11_rebates 7 = .ok (.bipush 9, 2) := by decide +kernel
theorem dX11_rebates_9 : decode cX11_rebates 9 = .ok (.invokestatic 76, 3) := by decide +kernel
theorem dX11_rebates_12 : decode cX11_rebates 12 = .ok (.lconst 0, 1) := by decide +kernel
theorem dX11_rebates_13 : decode cX11_rebates 13 = .ok (.lstore_n 3, 1) := by decide +kernel
theorem dX11_rebates_14 : decode cX11_rebates 14 = .ok (.iconst 0, 1) := by decide +kernel
theorem dX11_rebates_15 : decode cX11_rebates 15 = .ok (.istore 5, 2) := by decide +kernel
theorem dX11_rebates_17 : decode cX11_rebates 17 = .ok (.iload 5, 2) := by decide +kernel
theorem dX11_rebates_19 : decode cX11_rebates 19 = .ok (.aload_n 0, 1) := by decide +kernel
theorem dX11_rebates_20 : decode cX11_rebates 20 = .ok (.getfield 24, 3) := by decide +kernel
theorem dX11_rebates_23 : decode cX11_rebates 23 = .ok (.getfield 103, 3) := by decide +kernel
theorem dX11_rebates_26 : decode cX11_rebates 26 = .ok (.if_icmp .ge 69, 3) := by decide +kernel
theorem dX11_rebates_29 : decode cX11_rebates 29 = .ok (.aload_n 0, 1) := by decide +kernel
theorem dX11_rebates_30 : decode cX11_rebates 30 = .ok (.getfield 24, 3) := by decide +kernel
theorem dX11_rebates_33 : decode cX11_rebates 33 = .ok (.getfield 202, 3) := by decide +kernel
theorem dX11_rebates_36 : decode cX11_rebates 36 = .ok (.iload 5, 2) := by decide +kernel
theorem dX11_rebates_38 : decode cX11_rebates 38 = .ok (.aaload, 1) := by decide +kernel
theorem dX11_rebates_39 : decode cX11_rebates 39 = .ok (.astore 6, 2) := by decide +kernel
theorem dX11_rebates_41 : decode cX11_rebates 41 = .ok (.aload 6, 2) := by decide +kernel
theorem dX11_rebates_43 : decode cX11_rebates 43 = .ok (.getfield 206, 3) := by decide +kernel
theorem dX11_rebates_46 : decode cX11_rebates 46 = .ok (.iload_n 1, 1) := by decide +kernel
theorem dX11_rebates_47 : decode cX11_rebates 47 = .ok (.if_icmp .ne 42, 3) := by decide +kernel
theorem dX11_rebates_50 : decode cX11_rebates 50 = .ok (.aload 6, 2) := by decide +kernel
theorem dX11_rebates_52 : decode cX11_rebates 52 = .ok (.invokevirtual 335, 3) := by decide +kernel
theorem dX11_rebates_55 : decode cX11_rebates 55 = .ok (.iload_n 2, 1) := by decide +kernel
theorem dX11_rebates_56 : decode cX11_rebates 56 = .ok (.if_icmp .ne 33, 3) := by decide +kernel
theorem dX11_rebates_59 : decode cX11_rebates 59 = .ok (.lload_n 3, 1) := by decide +kernel
theorem dX11_rebates_60 : decode cX11_rebates 60 = .ok (.aload_n 0, 1) := by decide +kernel
theorem dX11_rebates_61 : decode cX11_rebates 61 = .ok (.getfield 24, 3) := by decide +kernel
theorem dX11_rebates_64 : decode cX11_rebates 64 = .ok (.iload 5, 2) := by decide +kernel
theorem dX11_rebates_66 : decode cX11_rebates 66 = .ok (.iconst 1, 1) := by decide +kernel
theorem dX11_rebates_67 : decode cX11_rebates 67 = .ok (.aload_n 0, 1) := by decide +kernel
theorem dX11_rebates_68 : decode cX11_rebates 68 = .ok (.getfield 24, 3) := by decide +kernel
theorem dX11_rebates_71 : decode cX11_rebates 71 = .ok (.invokevirtual 118, 3) := by decide +kernel
theorem dX11_rebates_74 : decode cX11_rebates 74 = .ok (.aload_n 0, 1) := by decide +kernel
theorem dX11_rebates_75 : decode cX11_rebates 75 = .ok (.getfield 24, 3) := by decide +kernel
theorem dX11_rebates_78 : decode cX11_rebates 78 = .ok (.iload 5, 2) := by decide +kernel
theorem dX11_rebates_80 : decode cX11_rebates 80 = .ok (.invokevirtual 223, 3) := by decide +kernel
theorem dX11_rebates_83 : decode cX11_rebates 83 = .ok (.invokevirtual 250, 3) := by decide +kernel
theorem dX11_rebates_86 : decode cX11_rebates 86 = .ok (.i2l, 1) := by decide +kernel
theorem dX11_rebates_87 : decode cX11_rebates 87 = .ok (.ladd, 1) := by decide +kernel
theorem dX11_rebates_88 : decode cX11_rebates 88 = .ok (.lstore_n 3, 1) := by decide +kernel
theorem dX11_rebates_89 : decode cX11_rebates 89 = .ok (.iinc 5 1, 3) := by decide +kernel
theorem dX11_rebates_92 : decode cX11_rebates 92 = .ok (.goto (-75), 3) := by decide +kernel
theorem dX11_rebates_95 : decode cX11_rebates 95 = .ok (.lload_n 3, 1) := by decide +kernel
theorem dX11_rebates_96 : decode cX11_rebates 96 = .ok (.lreturn, 1) := by decide +kernel
theorem dX11_quote_0 : decode cX11_quote 0 = .ok (.aload_n 0, 1) := by decide +kernel
theorem dX11_quote_1 : decode cX11_quote 1 = .ok (.iload_n 1, 1) := by decide +kernel
theorem dX11_quote_2 : decode cX11_quote 2 = .ok (.invokevirtual 184, 3) := by decide +kernel
theorem dX11_quote_5 : decode cX11_quote 5 = .ok (.iload_n 2, 1) := by decide +kernel
theorem dX11_quote_6 : decode cX11_quote 6 = .ok (.iload_n 3, 1) := by decide +kernel
theorem dX11_quote_7 : decode cX11_quote 7 = .ok (.iload 4, 2) := by decide +kernel
theorem dX11_quote_9 : decode cX11_quote 9 = .ok (.invokestatic 338, 3) := by decide +kernel
theorem dX11_quote_12 : decode cX11_quote 12 = .ok (.aload_n 0, 1) := by decide +kernel
theorem dX11_quote_13 : decode cX11_quote 13 = .ok (.getfield 24, 3) := by decide +kernel
theorem dX11_quote_16 : decode cX11_quote 16 = .ok (.invokevirtual 118, 3) := by decide +kernel
theorem dX11_quote_19 : decode cX11_quote 19 = .ok (.astore 5, 2) := by decide +kernel
theorem dX11_quote_21 : decode cX11_quote 21 = .ok (.aload_n 0, 1) := by decide +kernel
theorem dX11_quote_22 : decode cX11_quote 22 = .ok (.getfield 24, 3) := by decide +kernel
theorem dX11_quote_25 : decode cX11_quote 25 = .ok (.getfield 187, 3) := by decide +kernel
theorem dX11_quote_28 : decode cX11_quote 28 = .ok (.iload_n 1, 1) := by decide +kernel
theorem dX11_quote_29 : decode cX11_quote 29 = .ok (.aaload, 1) := by decide +kernel
theorem dX11_quote_30 : decode cX11_quote 30 = .ok (.getfield 191, 3) := by decide +kernel
theorem dX11_quote_33 : decode cX11_quote 33 = .ok (.istore 6, 2) := by decide +kernel
theorem dX11_quote_35 : decode cX11_quote 35 = .ok (.aload 5, 2) := by decide +kernel
theorem dX11_quote_37 : decode cX11_quote 37 = .ok (.iload_n 3, 1) := by decide +kernel
theorem dX11_quote_38 : decode cX11_quote 38 = .ok (.iload_n 2, 1) := by decide +kernel
theorem dX11_quote_39 : decode cX11_quote 39 = .ok (.isub, 1) := by decide +kernel
theorem dX11_quote_40 : decode cX11_quote 40 = .ok (.iconst 1, 1) := by decide +kernel
theorem dX11_quote_41 : decode cX11_quote 41 = .ok (.iadd, 1) := by decide +kernel
theorem dX11_quote_42 : decode cX11_quote 42 = .ok (.invokevirtual 341, 3) := by decide +kernel
theorem dX11_quote_45 : decode cX11_quote 45 = .ok (.invokestatic 305, 3) := by decide +kernel
theorem dX11_quote_48 : decode cX11_quote 48 = .ok (.istore 7, 2) := by decide +kernel
theorem dX11_quote_50 : decode cX11_quote 50 = .ok (.iconst 1, 1) := by decide +kernel
theorem dX11_quote_51 : decode cX11_quote 51 = .ok (.aload_n 0, 1) := by decide +kernel
theorem dX11_quote_52 : decode cX11_quote 52 = .ok (.getfield 24, 3) := by decide +kernel
theorem dX11_quote_55 : decode cX11_quote 55 = .ok (.iload_n 1, 1) := by decide +kernel
theorem dX11_quote_56 : decode cX11_quote 56 = .ok (.iload_n 2, 1) := by decide +kernel
theorem dX11_quote_57 : decode cX11_quote 57 = .ok (.bipush 40, 2) := by decide +kernel
theorem dX11_quote_59 : decode cX11_quote 59 = .ok (.invokevirtual 344, 3) := by decide +kernel
theorem dX11_quote_62 : decode cX11_quote 62 = .ok (.iadd, 1) := by decide +kernel
theorem dX11_quote_63 : decode cX11_quote 63 = .ok (.istore 8, 2) := by decide +kernel
theorem dX11_quote_65 : decode cX11_quote 65 = .ok (.aload 5, 2) := by decide +kernel
theorem dX11_quote_67 : decode cX11_quote 67 = .ok (.iload 6, 2) := by decide +kernel
theorem dX11_quote_69 : decode cX11_quote 69 = .ok (.invokevirtual 174, 3) := by decide +kernel
theorem dX11_quote_72 : decode cX11_quote 72 = .ok (.aload 5, 2) := by decide +kernel
theorem dX11_quote_74 : decode cX11_quote 74 = .ok (.iload 6, 2) := by decide +kernel
theorem dX11_quote_76 : decode cX11_quote 76 = .ok (.iload 8, 2) := by decide +kernel
theorem dX11_quote_78 : decode cX11_quote 78 = .ok (.invokevirtual 348, 3) := by decide +kernel
theorem dX11_quote_81 : decode cX11_quote 81 = .ok (.iadd, 1) := by decide +kernel
theorem dX11_quote_82 : decode cX11_quote 82 = .ok (.aload 5, 2) := by decide +kernel
theorem dX11_quote_84 : decode cX11_quote 84 = .ok (.iload 4, 2) := by decide +kernel
theorem dX11_quote_86 : decode cX11_quote 86 = .ok (.invokevirtual 181, 3) := by decide +kernel
theorem dX11_quote_89 : decode cX11_quote 89 = .ok (.iadd, 1) := by decide +kernel
theorem dX11_quote_90 : decode cX11_quote 90 = .ok (.aload 5, 2) := by decide +kernel
theorem dX11_quote_92 : decode cX11_quote 92 = .ok (.getfield 150, 3) := by decide +kernel
theorem dX11_quote_95 : decode cX11_quote 95 = .ok (.iload 7, 2) := by decide +kernel
theorem dX11_quote_97 : decode cX11_quote 97 = .ok (.imul, 1) := by decide +kernel
theorem dX11_quote_98 : decode cX11_quote 98 = .ok (.iadd, 1) := by decide +kernel
theorem dX11_quote_99 : decode cX11_quote 99 = .ok (.ireturn, 1) := by decide +kernel
theorem dX11_callsToRebate_0 : decode cX11_callsToRebate 0 = .ok (.aload_n 0, 1) := by decide +kernel
theorem dX11_callsToRebate_1 : decode cX11_callsToRebate 1 = .ok (.iload_n 1, 1) := by decide +kernel
theorem dX11_callsToRebate_2 : decode cX11_callsToRebate 2 = .ok (.invokevirtual 184, 3) := by decide +kernel
theorem dX11_callsToRebate_5 : decode cX11_callsToRebate 5 = .ok (.iload_n 2, 1) := by decide +kernel
theorem dX11_callsToRebate_6 : decode cX11_callsToRebate 6 = .ok (.iconst 0, 1) := by decide +kernel
theorem dX11_callsToRebate_7 : decode cX11_callsToRebate 7 = .ok (.bipush 9, 2) := by decide +kernel
theorem dX11_callsToRebate_9 : decode cX11_callsToRebate 9 = .ok (.invokestatic 76, 3) := by decide +kernel
theorem dX11_callsToRebate_12 : decode cX11_callsToRebate 12 = .ok (.aload_n 0, 1) := by decide +kernel
theorem dX11_callsToRebate_13 : decode cX11_callsToRebate 13 = .ok (.getfield 24, 3) := by decide +kernel
theorem dX11_callsToRebate_16 : decode cX11_callsToRebate 16 = .ok (.invokevirtual 118, 3) := by decide +kernel
theorem dX11_callsToRebate_19 : decode cX11_callsToRebate 19 = .ok (.astore_n 3, 1) := by decide +kernel
theorem dX11_callsToRebate_20 : decode cX11_callsToRebate 20 = .ok (.aload_n 0, 1) := by decide +kernel
theorem dX11_callsToRebate_21 : decode cX11_callsToRebate 21 = .ok (.getfield 24, 3) := by decide +kernel
theorem dX11_callsToRebate_24 : decode cX11_callsToRebate 24 = .ok (.iload_n 1, 1) := by decide +kernel
theorem dX11_callsToRebate_25 : decode cX11_callsToRebate 25 = .ok (.iload_n 2, 1) := by decide +kernel
theorem dX11_callsToRebate_26 : decode cX11_callsToRebate 26 = .ok (.invokevirtual 196, 3) := by decide +kernel
theorem dX11_callsToRebate_29 : decode cX11_callsToRebate 29 = .ok (.istore 4, 2) := by decide +kernel
theorem dX11_callsToRebate_31 : decode cX11_callsToRebate 31 = .ok (.aload_n 3, 1) := by decide +kernel
theorem dX11_callsToRebate_32 : decode cX11_callsToRebate 32 = .ok (.iload 4, 2) := by decide +kernel
theorem dX11_callsToRebate_34 : decode cX11_callsToRebate 34 = .ok (.invokevirtual 226, 3) := by decide +kernel
theorem dX11_callsToRebate_37 : decode cX11_callsToRebate 37 = .ok (.istore 5, 2) := by decide +kernel
theorem dX11_callsToRebate_39 : decode cX11_callsToRebate 39 = .ok (.iconst 1, 1) := by decide +kernel
theorem dX11_callsToRebate_40 : decode cX11_callsToRebate 40 = .ok (.istore 6, 2) := by decide +kernel
theorem dX11_callsToRebate_42 : decode cX11_callsToRebate 42 = .ok (.iload 6, 2) := by decide +kernel
theorem dX11_callsToRebate_44 : decode cX11_callsToRebate 44 = .ok (.bipush 99, 2) := by decide +kernel
theorem dX11_callsToRebate_46 : decode cX11_callsToRebate 46 = .ok (.if_icmp .gt 26, 3) := by decide +kernel
theorem dX11_callsToRebate_49 : decode cX11_callsToRebate 49 = .ok (.aload_n 3, 1) := by decide +kernel
theorem dX11_callsToRebate_50 : decode cX11_callsToRebate 50 = .ok (.iload 4, 2) := by decide +kernel
theorem dX11_callsToRebate_52 : decode cX11_callsToRebate 52 = .ok (.iload 6, 2) := by decide +kernel
theorem dX11_callsToRebate_54 : decode cX11_callsToRebate 54 = .ok (.iadd, 1) := by decide +kernel
theorem dX11_callsToRebate_55 : decode cX11_callsToRebate 55 = .ok (.invokevirtual 226, 3) := by decide +kernel
theorem dX11_callsToRebate_58 : decode cX11_callsToRebate 58 = .ok (.iload 5, 2) := by decide +kernel
theorem dX11_callsToRebate_60 : decode cX11_callsToRebate 60 = .ok (.if_icmp .le 6, 3) := by decide +kernel
theorem dX11_callsToRebate_63 : decode cX11_callsToRebate 63 = .ok (.iload 6, 2) := by decide +kernel
theorem dX11_callsToRebate_65 : decode cX11_callsToRebate 65 = .ok (.ireturn, 1) := by decide +kernel
theorem dX11_callsToRebate_66 : decode cX11_callsToRebate 66 = .ok (.iinc 6 1, 3) := by decide +kernel
theorem dX11_callsToRebate_69 : decode cX11_callsToRebate 69 = .ok (.goto (-27), 3) := by decide +kernel
theorem dX11_callsToRebate_72 : decode cX11_callsToRebate 72 = .ok (.iconst (-1), 1) := by decide +kernel
theorem dX11_callsToRebate_73 : decode cX11_callsToRebate 73 = .ok (.ireturn, 1) := by decide +kernel
theorem dX11_worth_0 : decode cX11_worth 0 = .ok (.aload_n 0, 1) := by decide +kernel
theorem dX11_worth_1 : decode cX11_worth 1 = .ok (.iload_n 1, 1) := by decide +kernel
theorem dX11_worth_2 : decode cX11_worth 2 = .ok (.invokevirtual 199, 3) := by decide +kernel
theorem dX11_worth_5 : decode cX11_worth 5 = .ok (.aload_n 0, 1) := by decide +kernel
theorem dX11_worth_6 : decode cX11_worth 6 = .ok (.getfield 24, 3) := by decide +kernel
theorem dX11_worth_9 : decode cX11_worth 9 = .ok (.getfield 202, 3) := by decide +kernel
theorem dX11_worth_12 : decode cX11_worth 12 = .ok (.iload_n 1, 1) := by decide +kernel
theorem dX11_worth_13 : decode cX11_worth 13 = .ok (.aaload, 1) := by decide +kernel
theorem dX11_worth_14 : decode cX11_worth 14 = .ok (.astore_n 2, 1) := by decide +kernel
theorem dX11_worth_15 : decode cX11_worth 15 = .ok (.aload_n 2, 1) := by decide +kernel
theorem dX11_worth_16 : decode cX11_worth 16 = .ok (.getfield 220, 3) := by decide +kernel
theorem dX11_worth_19 : decode cX11_worth 19 = .ok (.ifCond .eq 5, 3) := by decide +kernel
theorem dX11_worth_22 : decode cX11_worth 22 = .ok (.iconst 0, 1) := by decide +kernel
theorem dX11_worth_23 : decode cX11_worth 23 = .ok (.ireturn, 1) := by decide +kernel
theorem dX11_worth_24 : decode cX11_worth 24 = .ok (.aload_n 0, 1) := by decide +kernel
theorem dX11_worth_25 : decode cX11_worth 25 = .ok (.getfield 24, 3) := by decide +kernel
theorem dX11_worth_28 : decode cX11_worth 28 = .ok (.iload_n 1, 1) := by decide +kernel
theorem dX11_worth_29 : decode cX11_worth 29 = .ok (.aload_n 0, 1) := by decide +kernel
theorem dX11_worth_30 : decode cX11_worth 30 = .ok (.getfield 24, 3) := by decide +kernel
theorem dX11_worth_33 : decode cX11_worth 33 = .ok (.aload_n 2, 1) := by decide +kernel
theorem dX11_worth_34 : decode cX11_worth 34 = .ok (.getfield 206, 3) := by decide +kernel
theorem dX11_worth_37 : decode cX11_worth 37 = .ok (.aload_n 2, 1) := by decide +kernel
theorem dX11_worth_38 : decode cX11_worth 38 = .ok (.invokevirtual 335, 3) := by decide +kernel
theorem dX11_worth_41 : decode cX11_worth 41 = .ok (.invokevirtual 196, 3) := by decide +kernel
theorem dX11_worth_44 : decode cX11_worth 44 = .ok (.invokevirtual 254, 3) := by decide +kernel
theorem dX11_worth_47 : decode cX11_worth 47 = .ok (.ireturn, 1) := by decide +kernel
theorem dX11_busiestYear_0 : decode cX11_busiestYear 0 = .ok (.aload_n 0, 1) := by decide +kernel
theorem dX11_busiestYear_1 : decode cX11_busiestYear 1 = .ok (.iload_n 1, 1) := by decide +kernel
theorem dX11_busiestYear_2 : decode cX11_busiestYear 2 = .ok (.invokevirtual 184, 3) := by decide +kernel
theorem dX11_busiestYear_5 : decode cX11_busiestYear 5 = .ok (.iconst 0, 1) := by decide +kernel
theorem dX11_busiestYear_6 : decode cX11_busiestYear 6 = .ok (.istore_n 2, 1) := by decide +kernel
theorem dX11_busiestYear_7 : decode cX11_busiestYear 7 = .ok (.iconst 1, 1) := by decide +kernel
theorem dX11_busiestYear_8 : decode cX11_busiestYear 8 = .ok (.istore_n 3, 1) := by decide +kernel
theorem dX11_busiestYear_9 : decode cX11_busiestYear 9 = .ok (.iload_n 3, 1) := by decide +kernel
theorem dX11_busiestYear_10 : decode cX11_busiestYear 10 = .ok (.bipush 10, 2) := by decide +kernel
theorem dX11_busiestYear_12 : decode cX11_busiestYear 12 = .ok (.if_icmp .ge 32, 3) := by decide +kernel
theorem dX11_busiestYear_15 : decode cX11_busiestYear 15 = .ok (.aload_n 0, 1) := by decide +kernel
theorem dX11_busiestYear_16 : decode cX11_busiestYear 16 = .ok (.getfield 24, 3) := by decide +kernel
theorem dX11_busiestYear_19 : decode cX11_busiestYear 19 = .ok (.iload_n 1, 1) := by decide +kernel
theorem dX11_busiestYear_20 : decode cX11_busiestYear 20 = .ok (.iload_n 3, 1) := by decide +kernel
theorem dX11_busiestYear_21 : decode cX11_busiestYear 21 = .ok (.invokevirtual 196, 3) := by decide +kernel
theorem dX11_busiestYear_24 : decode cX11_busiestYear 24 = .ok (.aload_n 0, 1) := by decide +kernel
theorem dX11_busiestYear_25 : decode cX11_busiestYear 25 = .ok (.getfield 24, 3) := by decide +kernel
theorem dX11_busiestYear_28 : decode cX11_busiestYear 28 = .ok (.iload_n 1, 1) := by decide +kernel
theorem dX11_busiestYear_29 : decode cX11_busiestYear 29 = .ok (.iload_n 2, 1) := by decide +kernel
theorem dX11_busiestYear_30 : decode cX11_busiestYear 30 = .ok (.invokevirtual 196, 3) := by decide +kernel
theorem dX11_busiestYear_33 : decode cX11_busiestYear 33 = .ok (.if_icmp .le 5, 3) := by decide +kernel
theorem dX11_busiestYear_36 : decode cX11_busiestYear 36 = .ok (.iload_n 3, 1) := by decide +kernel
theorem dX11_busiestYear_37 : decode cX11_busiestYear 37 = .ok (.istore_n 2, 1) := by decide +kernel
theorem dX11_busiestYear_38 : decode cX11_busiestYear 38 = .ok (.iinc 3 1, 3) := by decide +kernel
theorem dX11_busiestYear_41 : decode cX11_busiestYear 41 = .ok (.goto (-32), 3) := by decide +kernel
theorem dX11_busiestYear_44 : decode cX11_busiestYear 44 = .ok (.iload_n 2, 1) := by decide +kernel
theorem dX11_busiestYear_45 : decode cX11_busiestYear 45 = .ok (.ireturn, 1) := by decide +kernel
theorem dX11_bestDay_0 : decode cX11_bestDay 0 = .ok (.aload_n 0, 1) := by decide +kernel
theorem dX11_bestDay_1 : decode cX11_bestDay 1 = .ok (.iload_n 1, 1) := by decide +kernel
theorem dX11_bestDay_2 : decode cX11_bestDay 2 = .ok (.invokevirtual 184, 3) := by decide +kernel
theorem dX11_bestDay_5 : decode cX11_bestDay 5 = .ok (.iload_n 2, 1) := by decide +kernel
theorem dX11_bestDay_6 : decode cX11_bestDay 6 = .ok (.iconst 0, 1) := by decide +kernel
theorem dX11_bestDay_7 : decode cX11_bestDay 7 = .ok (.sipush 3599, 3) := by decide +kernel
theorem dX11_bestDay_10 : decode cX11_bestDay 10 = .ok (.invokestatic 76, 3) := by decide +kernel
theorem dX11_bestDay_13 : decode cX11_bestDay 13 = .ok (.iload_n 3, 1) := by decide +kernel
theorem dX11_bestDay_14 : decode cX11_bestDay 14 = .ok (.iload_n 2, 1) := by decide +kernel
theorem dX11_bestDay_15 : decode cX11_bestDay 15 = .ok (.iload_n 2, 1) := by decide +kernel
theorem dX11_bestDay_16 : decode cX11_bestDay 16 = .ok (.bipush 99, 2) := by decide +kernel
theorem dX11_bestDay_18 : decode cX11_bestDay 18 = .ok (.iadd, 1) := by decide +kernel
theorem dX11_bestDay_19 : decode cX11_bestDay 19 = .ok (.sipush 3599, 3) := by decide +kernel
theorem dX11_bestDay_22 : decode cX11_bestDay 22 = .ok (.invokestatic 351, 3) := by decide +kernel
theorem dX11_bestDay_25 : decode cX11_bestDay 25 = .ok (.invokestatic 76, 3) := by decide +kernel
theorem dX11_bestDay_28 : decode cX11_bestDay 28 = .ok (.iload 4, 2) := by decide +kernel
theorem dX11_bestDay_30 : decode cX11_bestDay 30 = .ok (.iconst 1, 1) := by decide +kernel
theorem dX11_bestDay_31 : decode cX11_bestDay 31 = .ok (.bipush 30, 2) := by decide +kernel
theorem dX11_bestDay_33 : decode cX11_bestDay 33 = .ok (.invokestatic 76, 3) := by decide +kernel
theorem dX11_bestDay_36 : decode cX11_bestDay 36 = .ok (.iload 5, 2) := by decide +kernel
theorem dX11_bestDay_38 : decode cX11_bestDay 38 = .ok (.iconst 0, 1) := by decide +kernel
theorem dX11_bestDay_39 : decode cX11_bestDay 39 = .ok (.sipush 999, 3) := by decide +kernel
theorem dX11_bestDay_42 : decode cX11_bestDay 42 = .ok (.invokestatic 76, 3) := by decide +kernel
theorem dX11_bestDay_45 : decode cX11_bestDay 45 = .ok (.iload_n 2, 1) := by decide +kernel
theorem dX11_bestDay_46 : decode cX11_bestDay 46 = .ok (.istore 6, 2) := by decide +kernel
theorem dX11_bestDay_48 : decode cX11_bestDay 48 = .ok (.aload_n 0, 1) := by decide +kernel
theorem dX11_bestDay_49 : decode cX11_bestDay 49 = .ok (.iload_n 1, 1) := by decide +kernel
theorem dX11_bestDay_50 : decode cX11_bestDay 50 = .ok (.iload_n 2, 1) := by decide +kernel
theorem dX11_bestDay_51 : decode cX11_bestDay 51 = .ok (.invokevirtual 356, 3) := by decide +kernel
theorem dX11_bestDay_54 : decode cX11_bestDay 54 = .ok (.istore 7, 2) := by decide +kernel
theorem dX11_bestDay_56 : decode cX11_bestDay 56 = .ok (.iload_n 2, 1) := by decide +kernel
theorem dX11_bestDay_57 : decode cX11_bestDay 57 = .ok (.iconst 1, 1) := by decide +kernel
theorem dX11_bestDay_58 : decode cX11_bestDay 58 = .ok (.iadd, 1) := by decide +kernel
theorem dX11_bestDay_59 : decode cX11_bestDay 59 = .ok (.istore 8, 2) := by decide +kernel
theorem dX11_bestDay_61 : decode cX11_bestDay 61 = .ok (.iload 8, 2) := by decide +kernel
theorem dX11_bestDay_63 : decode cX11_bestDay 63 = .ok (.iload_n 3, 1) := by decide +kernel
theorem dX11_bestDay_64 : decode cX11_bestDay 64 = .ok (.if_icmp .gt 33, 3) := by decide +kernel
theorem dX11_bestDay_67 : decode cX11_bestDay 67 = .ok (.aload_n 0, 1) := by decide +kernel
theorem dX11_bestDay_68 : decode cX11_bestDay 68 = .ok (.iload_n 1, 1) := by decide +kernel
theorem dX11_bestDay_69 : decode cX11_bestDay 69 = .ok (.iload 8, 2) := by decide +kernel
theorem dX11_bestDay_71 : decode cX11_bestDay 71 = .ok (.invokevirtual 356, 3) := by decide +kernel
theorem dX11_bestDay_74 : decode cX11_bestDay 74 = .ok (.istore 9, 2) := by decide +kernel
theorem dX11_bestDay_76 : decode cX11_bestDay 76 = .ok (.iload 9, 2) := by decide +kernel
theorem dX11_bestDay_78 : decode cX11_bestDay 78 = .ok (.iload 7, 2) := by decide +kernel
theorem dX11_bestDay_80 : decode cX11_bestDay 80 = .ok (.if_icmp .ge 11, 3) := by decide +kernel
theorem dX11_bestDay_83 : decode cX11_bestDay 83 = .ok (.iload 8, 2) := by decide +kernel
theorem dX11_bestDay_85 : decode cX11_bestDay 85 = .ok (.istore 6, 2) := by decide +kernel
theorem dX11_bestDay_87 : decode cX11_bestDay 87 = .ok (.iload 9, 2) := by decide +kernel
theorem dX11_bestDay_89 : decode cX11_bestDay 89 = .ok (.istore 7, 2) := by decide +kernel
theorem dX11_bestDay_91 : decode cX11_bestDay 91 = .ok (.iinc 8 1, 3) := by decide +kernel
theorem dX11_bestDay_94 : decode cX11_bestDay 94 = .ok (.goto (-33), 3) := by decide +kernel
theorem dX11_bestDay_97 : decode cX11_bestDay 97 = .ok (.iload 6, 2) := by decide +kernel
theorem dX11_bestDay_99 : decode cX11_bestDay 99 = .ok (.ireturn, 1) := by decide +kernel
theorem dX11_furtherRebate_0 : decode cX11_furtherRebate 0 = .ok (.aload_n 0, 1) := by decide +kernel
theorem dX11_furtherRebate_1 : decode cX11_furtherRebate 1 = .ok (.getfield 24, 3) := by decide +kernel
theorem dX11_furtherRebate_4 : decode cX11_furtherRebate 4 = .ok (.iload_n 1, 1) := by decide +kernel
theorem dX11_furtherRebate_5 : decode cX11_furtherRebate 5 = .ok (.iload_n 2, 1) := by decide +kernel
theorem dX11_furtherRebate_6 : decode cX11_furtherRebate 6 = .ok (.sipush 360, 3) := by decide +kernel
theorem dX11_furtherRebate_9 : decode cX11_furtherRebate 9 = .ok (.idiv, 1) := by decide +kernel
theorem dX11_furtherRebate_10 : decode cX11_furtherRebate 10 = .ok (.invokevirtual 196, 3) := by decide +kernel
theorem dX11_furtherRebate_13 : decode cX11_furtherRebate 13 = .ok (.iconst 1, 1) := by decide +kernel
theorem dX11_furtherRebate_14 : decode cX11_furtherRebate 14 = .ok (.iadd, 1) := by decide +kernel
theorem dX11_furtherRebate_15 : decode cX11_furtherRebate 15 = .ok (.istore_n 3, 1) := by decide +kernel
theorem dX11_furtherRebate_16 : decode cX11_furtherRebate 16 = .ok (.aload_n 0, 1) := by decide +kernel
theorem dX11_furtherRebate_17 : decode cX11_furtherRebate 17 = .ok (.getfield 24, 3) := by decide +kernel
theorem dX11_furtherRebate_20 : decode cX11_furtherRebate 20 = .ok (.invokevirtual 118, 3) := by decide +kernel
theorem dX11_furtherRebate_23 : decode cX11_furtherRebate 23 = .ok (.aload_n 0, 1) := by decide +kernel
theorem dX11_furtherRebate_24 : decode cX11_furtherRebate 24 = .ok (.getfield 24, 3) := by decide +kernel
theorem dX11_furtherRebate_27 : decode cX11_furtherRebate 27 = .ok (.getfield 187, 3) := by decide +kernel
theorem dX11_furtherRebate_30 : decode cX11_furtherRebate 30 = .ok (.iload_n 1, 1) := by decide +kernel
theorem dX11_furtherRebate_31 : decode cX11_furtherRebate 31 = .ok (.aaload, 1) := by decide +kernel
theorem dX11_furtherRebate_32 : decode cX11_furtherRebate 32 = .ok (.getfield 191, 3) := by decide +kernel
theorem dX11_furtherRebate_35 : decode cX11_furtherRebate 35 = .ok (.iload_n 3, 1) := by decide +kernel
theorem dX11_furtherRebate_36 : decode cX11_furtherRebate 36 = .ok (.invokevirtual 348, 3) := by decide +kernel
theorem dX11_furtherRebate_39 : decode cX11_furtherRebate 39 = .ok (.ireturn, 1) := by decide +kernel
theorem dX11_addCall_0 : decode cX11_addCall 0 = .ok (.aload_n 0, 1) := by decide +kernel
theorem dX11_addCall_1 : decode cX11_addCall 1 = .ok (.iload_n 1, 1) := by decide +kernel
theorem dX11_addCall_2 : decode cX11_addCall 2 = .ok (.invokevirtual 184, 3) := by decide +kernel
theorem dX11_addCall_5 : decode cX11_addCall 5 = .ok (.iload_n 2, 1) := by decide +kernel
theorem dX11_addCall_6 : decode cX11_addCall 6 = .ok (.iload_n 3, 1) := by decide +kernel
theorem dX11_addCall_7 : decode cX11_addCall 7 = .ok (.iload 4, 2) := by decide +kernel
theorem dX11_addCall_9 : decode cX11_addCall 9 = .ok (.invokestatic 338, 3) := by decide +kernel
theorem dX11_addCall_12 : decode cX11_addCall 12 = .ok (.aload_n 0, 1) := by decide +kernel
theorem dX11_addCall_13 : decode cX11_addCall 13 = .ok (.getfield 24, 3) := by decide +kernel
theorem dX11_addCall_16 : decode cX11_addCall 16 = .ok (.getfield 103, 3) := by decide +kernel
theorem dX11_addCall_19 : decode cX11_addCall 19 = .ok (.bipush 40, 2) := by decide +kernel
theorem dX11_addCall_21 : decode cX11_addCall 21 = .ok (.if_icmp .ge 7, 3) := by decide +kernel
theorem dX11_addCall_24 : decode cX11_addCall 24 = .ok (.iconst 1, 1) := by decide +kernel
theorem dX11_addCall_25 : decode cX11_addCall 25 = .ok (.goto 4, 3) := by decide +kernel
theorem dX11_addCall_28 : decode cX11_addCall 28 = .ok (.iconst 0, 1) := by decide +kernel
theorem dX11_addCall_29 : decode cX11_addCall 29 = .ok (.invokestatic 69, 3) := by decide +kernel
theorem dX11_addCall_32 : decode cX11_addCall 32 = .ok (.aload_n 0, 1) := by decide +kernel
theorem dX11_addCall_33 : decode cX11_addCall 33 = .ok (.getfield 43, 3) := by decide +kernel
theorem dX11_addCall_36 : decode cX11_addCall 36 = .ok (.aload_n 0, 1) := by decide +kernel
theorem dX11_addCall_37 : decode cX11_addCall 37 = .ok (.getfield 24, 3) := by decide +kernel
theorem dX11_addCall_40 : decode cX11_addCall 40 = .ok (.invokevirtual 84, 3) := by decide +kernel
theorem dX11_addCall_43 : decode cX11_addCall 43 = .ok (.aload_n 0, 1) := by decide +kernel
theorem dX11_addCall_44 : decode cX11_addCall 44 = .ok (.getfield 24, 3) := by decide +kernel
theorem dX11_addCall_47 : decode cX11_addCall 47 = .ok (.iload_n 1, 1) := by decide +kernel
theorem dX11_addCall_48 : decode cX11_addCall 48 = .ok (.iload_n 2, 1) := by decide +kernel
theorem dX11_addCall_49 : decode cX11_addCall 49 = .ok (.iload_n 3, 1) := by decide +kernel
theorem dX11_addCall_50 : decode cX11_addCall 50 = .ok (.iload 4, 2) := by decide +kernel
theorem dX11_addCall_52 : decode cX11_addCall 52 = .ok (.invokevirtual 359, 3) := by decide +kernel
theorem dX11_addCall_55 : decode cX11_addCall 55 = .ok (.ireturn, 1) := by decide +kernel
theorem dX11_cancel_0 : decode cX11_cancel 0 = .ok (.aload_n 0, 1) := by decide +kernel
theorem dX11_cancel_1 : decode cX11_cancel 1 = .ok (.iload_n 1, 1) := by decide +kernel
theorem dX11_cancel_2 : decode cX11_cancel 2 = .ok (.invokevirtual 199, 3) := by decide +kernel
theorem dX11_cancel_5 : decode cX11_cancel 5 = .ok (.aload_n 0, 1) := by decide +kernel
theorem dX11_cancel_6 : decode cX11_cancel 6 = .ok (.getfield 24, 3) := by decide +kernel
theorem dX11_cancel_9 : decode cX11_cancel 9 = .ok (.getfield 202, 3) := by decide +kernel
theorem dX11_cancel_12 : decode cX11_cancel 12 = .ok (.iload_n 1, 1) := by decide +kernel
theorem dX11_cancel_13 : decode cX11_cancel 13 = .ok (.aaload, 1) := by decide +kernel
theorem dX11_cancel_14 : decode cX11_cancel 14 = .ok (.astore_n 2, 1) := by decide +kernel
theorem dX11_cancel_15 : decode cX11_cancel 15 = .ok (.aload_n 2, 1) := by decide +kernel
theorem dX11_cancel_16 : decode cX11_cancel 16 = .ok (.getfield 220, 3) := by decide +kernel
theorem dX11_cancel_19 : decode cX11_cancel 19 = .ok (.ifCond .ne 29, 3) := by decide +kernel
theorem dX11_cancel_22 : decode cX11_cancel 22 = .ok (.aload_n 0, 1) := by decide +kernel
theorem dX11_cancel_23 : decode cX11_cancel 23 = .ok (.getfield 52, 3) := by decide +kernel
theorem dX11_cancel_26 : decode cX11_cancel 26 = .ok (.iload_n 1, 1) := by decide +kernel
theorem dX11_cancel_27 : decode cX11_cancel 27 = .ok (.invokevirtual 229, 3) := by decide +kernel
theorem dX11_cancel_30 : decode cX11_cancel 30 = .ok (.ifCond .ne 18, 3) := by decide +kernel
theorem dX11_cancel_33 : decode cX11_cancel 33 = .ok (.aload_n 0, 1) := by decide +kernel
theorem dX11_cancel_34 : decode cX11_cancel 34 = .ok (.getfield 52, 3) := by decide +kernel
theorem dX11_cancel_37 : decode cX11_cancel 37 = .ok (.iload_n 1, 1) := by decide +kernel
theorem dX11_cancel_38 : decode cX11_cancel 38 = .ok (.invokevirtual 241, 3) := by decide +kernel
theorem dX11_cancel_41 : decode cX11_cancel 41 = .ok (.ifCond .ne 7, 3) := by decide +kernel
theorem dX11_cancel_44 : decode cX11_cancel 44 = .ok (.iconst 1, 1) := by decide +kernel
theorem dX11_cancel_45 : decode cX11_cancel 45 = .ok (.goto 4, 3) := by decide +kernel
theorem dX11_cancel_48 : decode cX11_cancel 48 = .ok (.iconst 0, 1) := by decide +kernel
theorem dX11_cancel_49 : decode cX11_cancel 49 = .ok (.invokestatic 69, 3) := by decide +kernel
theorem dX11_cancel_52 : decode cX11_cancel 52 = .ok (.aload_n 0, 1) := by decide +kernel
theorem dX11_cancel_53 : decode cX11_cancel 53 = .ok (.getfield 43, 3) := by decide +kernel
theorem dX11_cancel_56 : decode cX11_cancel 56 = .ok (.aload_n 0, 1) := by decide +kernel
theorem dX11_cancel_57 : decode cX11_cancel 57 = .ok (.getfield 24, 3) := by decide +kernel
theorem dX11_cancel_60 : decode cX11_cancel 60 = .ok (.invokevirtual 84, 3) := by decide +kernel
theorem dX11_cancel_63 : decode cX11_cancel 63 = .ok (.aload_n 2, 1) := by decide +kernel
theorem dX11_cancel_64 : decode cX11_cancel 64 = .ok (.iconst 1, 1) := by decide +kernel
theorem dX11_cancel_65 : decode cX11_cancel 65 = .ok (.putfield 220, 3) := by decide +kernel
theorem dX11_cancel_68 : decode cX11_cancel 68 = .ok (.aload_n 0, 1) := by decide +kernel
theorem dX11_cancel_69 : decode cX11_cancel 69 = .ok (.getfield 24, 3) := by decide +kernel
theorem dX11_cancel_72 : decode cX11_cancel 72 = .ok (.aload_n 2, 1) := by decide +kernel
theorem dX11_cancel_73 : decode cX11_cancel 73 = .ok (.getfield 206, 3) := by decide +kernel
theorem dX11_cancel_76 : decode cX11_cancel 76 = .ok (.invokevirtual 363, 3) := by decide +kernel
theorem dX11_cancel_79 : decode cX11_cancel 79 = .ok (.ireturn, 1) := by decide +kernel
theorem dX11_setWaste_0 : decode cX11_setWaste 0 = .ok (.aload_n 0, 1) := by decide +kernel
theorem dX11_setWaste_1 : decode cX11_setWaste 1 = .ok (.iload_n 1, 1) := by decide +kernel
theorem dX11_setWaste_2 : decode cX11_setWaste 2 = .ok (.invokevirtual 199, 3) := by decide +kernel
theorem dX11_setWaste_5 : decode cX11_setWaste 5 = .ok (.iload_n 2, 1) := by decide +kernel
theorem dX11_setWaste_6 : decode cX11_setWaste 6 = .ok (.iconst 0, 1) := by decide +kernel
theorem dX11_setWaste_7 : decode cX11_setWaste 7 = .ok (.sipush 999, 3) := by decide +kernel
theorem dX11_setWaste_10 : decode cX11_setWaste 10 = .ok (.invokestatic 76, 3) := by decide +kernel
theorem dX11_setWaste_13 : decode cX11_setWaste 13 = .ok (.aload_n 0, 1) := by decide +kernel
theorem dX11_setWaste_14 : decode cX11_setWaste 14 = .ok (.getfield 43, 3) := by decide +kernel
theorem dX11_setWaste_17 : decode cX11_setWaste 17 = .ok (.aload_n 0, 1) := by decide +kernel
theorem dX11_setWaste_18 : decode cX11_setWaste 18 = .ok (.getfield 24, 3) := by decide +kernel
theorem dX11_setWaste_21 : decode cX11_setWaste 21 = .ok (.invokevirtual 84, 3) := by decide +kernel
theorem dX11_setWaste_24 : decode cX11_setWaste 24 = .ok (.aload_n 0, 1) := by decide +kernel
theorem dX11_setWaste_25 : decode cX11_setWaste 25 = .ok (.getfield 24, 3) := by decide +kernel
theorem dX11_setWaste_28 : decode cX11_setWaste 28 = .ok (.getfield 202, 3) := by decide +kernel
theorem dX11_setWaste_31 : decode cX11_setWaste 31 = .ok (.iload_n 1, 1) := by decide +kernel
theorem dX11_setWaste_32 : decode cX11_setWaste 32 = .ok (.aaload, 1) := by decide +kernel
theorem dX11_setWaste_33 : decode cX11_setWaste 33 = .ok (.astore_n 3, 1) := by decide +kernel
theorem dX11_setWaste_34 : decode cX11_setWaste 34 = .ok (.aload_n 3, 1) := by decide +kernel
theorem dX11_setWaste_35 : decode cX11_setWaste 35 = .ok (.getfield 217, 3) := by decide +kernel
theorem dX11_setWaste_38 : decode cX11_setWaste 38 = .ok (.istore 4, 2) := by decide +kernel
theorem dX11_setWaste_40 : decode cX11_setWaste 40 = .ok (.aload_n 3, 1) := by decide +kernel
theorem dX11_setWaste_41 : decode cX11_setWaste 41 = .ok (.iload_n 2, 1) := by decide +kernel
theorem dX11_setWaste_42 : decode cX11_setWaste 42 = .ok (.putfield 217, 3) := by decide +kernel
theorem dX11_setWaste_45 : decode cX11_setWaste 45 = .ok (.iload 4, 2) := by decide +kernel
theorem dX11_setWaste_47 : decode cX11_setWaste 47 = .ok (.ireturn, 1) := by decide +kernel
theorem dX11_setTons_0 : decode cX11_setTons 0 = .ok (.aload_n 0, 1) := by decide +kernel
theorem dX11_setTons_1 : decode cX11_setTons 1 = .ok (.iload_n 1, 1) := by decide +kernel
theorem dX11_setTons_2 : decode cX11_setTons 2 = .ok (.invokevirtual 184, 3) := by decide +kernel
theorem dX11_setTons_5 : decode cX11_setTons 5 = .ok (.iload_n 2, 1) := by decide +kernel
theorem dX11_setTons_6 : decode cX11_setTons 6 = .ok (.iconst 1, 1) := by decide +kernel
theorem dX11_setTons_7 : decode cX11_setTons 7 = .ok (.sipush 9999, 3) := by decide +kernel
theorem dX11_setTons_10 : decode cX11_setTons 10 = .ok (.invokestatic 76, 3) := by decide +kernel
theorem dX11_setTons_13 : decode cX11_setTons 13 = .ok (.aload_n 0, 1) := by decide +kernel
theorem dX11_setTons_14 : decode cX11_setTons 14 = .ok (.getfield 43, 3) := by decide +kernel
theorem dX11_setTons_17 : decode cX11_setTons 17 = .ok (.aload_n 0, 1) := by decide +kernel
theorem dX11_setTons_18 : decode cX11_setTons 18 = .ok (.getfield 24, 3) := by decide +kernel
theorem dX11_setTons_21 : decode cX11_setTons 21 = .ok (.invokevirtual 84, 3) := by decide +kernel
theorem dX11_setTons_24 : decode cX11_setTons 24 = .ok (.aload_n 0, 1) := by decide +kernel
theorem dX11_setTons_25 : decode cX11_setTons 25 = .ok (.getfield 24, 3) := by decide +kernel
theorem dX11_setTons_28 : decode cX11_setTons 28 = .ok (.getfield 187, 3) := by decide +kernel
theorem dX11_setTons_31 : decode cX11_setTons 31 = .ok (.iload_n 1, 1) := by decide +kernel
theorem dX11_setTons_32 : decode cX11_setTons 32 = .ok (.aaload, 1) := by decide +kernel
theorem dX11_setTons_33 : decode cX11_setTons 33 = .ok (.astore_n 3, 1) := by decide +kernel
theorem dX11_setTons_34 : decode cX11_setTons 34 = .ok (.aload_n 3, 1) := by decide +kernel
theorem dX11_setTons_35 : decode cX11_setTons 35 = .ok (.getfield 191, 3) := by decide +kernel
theorem dX11_setTons_38 : decode cX11_setTons 38 = .ok (.istore 4, 2) := by decide +kernel
theorem dX11_setTons_40 : decode cX11_setTons 40 = .ok (.aload_n 3, 1) := by decide +kernel
theorem dX11_setTons_41 : decode cX11_setTons 41 = .ok (.iload_n 2, 1) := by decide +kernel
theorem dX11_setTons_42 : decode cX11_setTons 42 = .ok (.putfield 191, 3) := by decide +kernel
theorem dX11_setTons_45 : decode cX11_setTons 45 = .ok (.iload 4, 2) := by decide +kernel
theorem dX11_setTons_47 : decode cX11_setTons 47 = .ok (.ireturn, 1) := by decide +kernel
theorem dX11_bill_0 : decode cX11_bill 0 = .ok (.aload_n 0, 1) := by decide +kernel
theorem dX11_bill_1 : decode cX11_bill 1 = .ok (.iload_n 1, 1) := by decide +kernel
theorem dX11_bill_2 : decode cX11_bill 2 = .ok (.invokevirtual 199, 3) := by decide +kernel
theorem dX11_bill_5 : decode cX11_bill 5 = .ok (.aload_n 0, 1) := by decide +kernel
theorem dX11_bill_6 : decode cX11_bill 6 = .ok (.getfield 52, 3) := by decide +kernel
theorem dX11_bill_9 : decode cX11_bill 9 = .ok (.iload_n 1, 1) := by decide +kernel
theorem dX11_bill_10 : decode cX11_bill 10 = .ok (.invokevirtual 366, 3) := by decide +kernel
theorem dX11_bill_13 : decode cX11_bill 13 = .ok (.invokestatic 69, 3) := by decide +kernel
theorem dX11_bill_16 : decode cX11_bill 16 = .ok (.aload_n 0, 1) := by decide +kernel
theorem dX11_bill_17 : decode cX11_bill 17 = .ok (.getfield 43, 3) := by decide +kernel
theorem dX11_bill_20 : decode cX11_bill 20 = .ok (.aload_n 0, 1) := by decide +kernel
theorem dX11_bill_21 : decode cX11_bill 21 = .ok (.getfield 24, 3) := by decide +kernel
theorem dX11_bill_24 : decode cX11_bill 24 = .ok (.invokevirtual 84, 3) := by decide +kernel
theorem dX11_bill_27 : decode cX11_bill 27 = .ok (.aload_n 0, 1) := by decide +kernel
theorem dX11_bill_28 : decode cX11_bill 28 = .ok (.getfield 52, 3) := by decide +kernel
theorem dX11_bill_31 : decode cX11_bill 31 = .ok (.iload_n 1, 1) := by decide +kernel
theorem dX11_bill_32 : decode cX11_bill 32 = .ok (.invokevirtual 369, 3) := by decide +kernel
theorem dX11_bill_35 : decode cX11_bill 35 = .ok (.ireturn, 1) := by decide +kernel
theorem dX11_billAll_0 : decode cX11_billAll 0 = .ok (.aload_n 0, 1) := by decide +kernel
theorem dX11_billAll_1 : decode cX11_billAll 1 = .ok (.iload_n 1, 1) := by decide +kernel
theorem dX11_billAll_2 : decode cX11_billAll 2 = .ok (.invokevirtual 184, 3) := by decide +kernel
theorem dX11_billAll_5 : decode cX11_billAll 5 = .ok (.aload_n 0, 1) := by decide +kernel
theorem dX11_billAll_6 : decode cX11_billAll 6 = .ok (.getfield 43, 3) := by decide +kernel
theorem dX11_billAll_9 : decode cX11_billAll 9 = .ok (.aload_n 0, 1) := by decide +kernel
theorem dX11_billAll_10 : decode cX11_billAll 10 = .ok (.getfield 24, 3) := by decide +kernel
theorem dX11_billAll_13 : decode cX11_billAll 13 = .ok (.invokevirtual 84, 3) := by decide +kernel
theorem dX11_billAll_16 : decode cX11_billAll 16 = .ok (.iconst 0, 1) := by decide +kernel
theorem dX11_billAll_17 : decode cX11_billAll 17 = .ok (.istore_n 2, 1) := by decide +kernel
theorem dX11_billAll_18 : decode cX11_billAll 18 = .ok (.iconst 0, 1) := by decide +kernel
theorem dX11_billAll_19 : decode cX11_billAll 19 = .ok (.istore_n 3, 1) := by decide +kernel
theorem dX11_billAll_20 : decode cX11_billAll 20 = .ok (.iload_n 3, 1) := by decide +kernel
theorem dX11_billAll_21 : decode cX11_billAll 21 = .ok (.aload_n 0, 1) := by decide +kernel
theorem dX11_billAll_22 : decode cX11_billAll 22 = .ok (.getfield 24, 3) := by decide +kernel
theorem dX11_billAll_25 : decode cX11_billAll 25 = .ok (.getfield 103, 3) := by decide +kernel
theorem dX11_billAll_28 : decode cX11_billAll 28 = .ok (.if_icmp .ge 48, 3) := by decide +kernel
theorem dX11_billAll_31 : decode cX11_billAll 31 = .ok (.aload_n 0, 1) := by decide +kernel
theorem dX11_billAll_32 : decode cX11_billAll 32 = .ok (.getfield 24, 3) := by decide +kernel
theorem dX11_billAll_35 : decode cX11_billAll 35 = .ok (.getfield 202, 3) := by decide +kernel
theorem dX11_billAll_38 : decode cX11_billAll 38 = .ok (.iload_n 3, 1) := by decide +kernel
theorem dX11_billAll_39 : decode cX11_billAll 39 = .ok (.aaload, 1) := by decide +kernel
theorem dX11_billAll_40 : decode cX11_billAll 40 = .ok (.getfield 206, 3) := by decide +kernel
theorem dX11_billAll_43 : decode cX11_billAll 43 = .ok (.iload_n 1, 1) := by decide +kernel
theorem dX11_billAll_44 : decode cX11_billAll 44 = .ok (.if_icmp .ne 26, 3) := by decide +kernel
theorem dX11_billAll_47 : decode cX11_billAll 47 = .ok (.aload_n 0, 1) := by decide +kernel
theorem dX11_billAll_48 : decode cX11_billAll 48 = .ok (.getfield 52, 3) := by decide +kernel
theorem dX11_billAll_51 : decode cX11_billAll 51 = .ok (.iload_n 3, 1) := by decide +kernel
theorem dX11_billAll_52 : decode cX11_billAll 52 = .ok (.invokevirtual 366, 3) := by decide +kernel
theorem dX11_billAll_55 : decode cX11_billAll 55 = .ok (.ifCond .eq 15, 3) := by decide +kernel
theorem dX11_billAll_58 : decode cX11_billAll 58 = .ok (.aload_n 0, 1) := by decide +kernel
theorem dX11_billAll_59 : decode cX11_billAll 59 = .ok (.getfield 52, 3) := by decide +kernel
theorem dX11_billAll_62 : decode cX11_billAll 62 = .ok (.iload_n 3, 1) := by decide +kernel
theorem dX11_billAll_63 : decode cX11_billAll 63 = .ok (.invokevirtual 369, 3) := by decide +kernel
theorem dX11_billAll_66 : decode cX11_billAll 66 = .ok (.pop, 1) := by decide +kernel
theorem dX11_billAll_67 : decode cX11_billAll 67 = .ok (.iinc 2 1, 3) := by decide +kernel
theorem dX11_billAll_70 : decode cX11_billAll 70 = .ok (.iinc 3 1, 3) := by decide +kernel
theorem dX11_billAll_73 : decode cX11_billAll 73 = .ok (.goto (-53), 3) := by decide +kernel
theorem dX11_billAll_76 : decode cX11_billAll 76 = .ok (.iload_n 2, 1) := by decide +kernel
theorem dX11_billAll_77 : decode cX11_billAll 77 = .ok (.ireturn, 1) := by decide +kernel
theorem dX11_credit_0 : decode cX11_credit 0 = .ok (.aload_n 0, 1) := by decide +kernel
theorem dX11_credit_1 : decode cX11_credit 1 = .ok (.iload_n 1, 1) := by decide +kernel
theorem dX11_credit_2 : decode cX11_credit 2 = .ok (.invokevirtual 257, 3) := by decide +kernel
theorem dX11_credit_5 : decode cX11_credit 5 = .ok (.iload_n 2, 1) := by decide +kernel
theorem dX11_credit_6 : decode cX11_credit 6 = .ok (.iconst 1, 1) := by decide +kernel
theorem dX11_credit_7 : decode cX11_credit 7 = .ok (.bipush 15, 2) := by decide +kernel
theorem dX11_credit_9 : decode cX11_credit 9 = .ok (.invokestatic 76, 3) := by decide +kernel
theorem dX11_credit_12 : decode cX11_credit 12 = .ok (.iload_n 2, 1) := by decide +kernel
theorem dX11_credit_13 : decode cX11_credit 13 = .ok (.aload_n 0, 1) := by decide +kernel
theorem dX11_credit_14 : decode cX11_credit 14 = .ok (.getfield 24, 3) := by decide +kernel
theorem dX11_credit_17 : decode cX11_credit 17 = .ok (.getfield 260, 3) := by decide +kernel
theorem dX11_credit_20 : decode cX11_credit 20 = .ok (.iload_n 1, 1) := by decide +kernel
theorem dX11_credit_21 : decode cX11_credit 21 = .ok (.aaload, 1) := by decide +kernel
theorem dX11_credit_22 : decode cX11_credit 22 = .ok (.invokevirtual 372, 3) := by decide +kernel
theorem dX11_credit_25 : decode cX11_credit 25 = .ok (.iconst (-1), 1) := by decide +kernel
theorem dX11_credit_26 : decode cX11_credit 26 = .ok (.ixor, 1) := by decide +kernel
theorem dX11_credit_27 : decode cX11_credit 27 = .ok (.iand, 1) := by decide +kernel
theorem dX11_credit_28 : decode cX11_credit 28 = .ok (.ifCond .ne 19, 3) := by decide +kernel
theorem dX11_credit_31 : decode cX11_credit 31 = .ok (.aload_n 0, 1) := by decide +kernel
theorem dX11_credit_32 : decode cX11_credit 32 = .ok (.getfield 24, 3) := by decide +kernel
theorem dX11_credit_35 : decode cX11_credit 35 = .ok (.getfield 109, 3) := by decide +kernel
theorem dX11_credit_38 : decode cX11_credit 38 = .ok (.bipush 40, 2) := by decide +kernel
theorem dX11_credit_40 : decode cX11_credit 40 = .ok (.if_icmp .ge 7, 3) := by decide +kernel
theorem dX11_credit_43 : decode cX11_credit 43 = .ok (.iconst 1, 1) := by decide +kernel
theorem dX11_credit_44 : decode cX11_credit 44 = .ok (.goto 4, 3) := by decide +kernel
theorem dX11_credit_47 : decode cX11_credit 47 = .ok (.iconst 0, 1) := by decide +kernel
theorem dX11_credit_48 : decode cX11_credit 48 = .ok (.invokestatic 69, 3) := by decide +kernel
theorem dX11_credit_51 : decode cX11_credit 51 = .ok (.aload_n 0, 1) := by decide +kernel
theorem dX11_credit_52 : decode cX11_credit 52 = .ok (.getfield 43, 3) := by decide +kernel
theorem dX11_credit_55 : decode cX11_credit 55 = .ok (.aload_n 0, 1) := by decide +kernel
theorem dX11_credit_56 : decode cX11_credit 56 = .ok (.getfield 24, 3) := by decide +kernel
theorem dX11_credit_59 : decode cX11_credit 59 = .ok (.invokevirtual 84, 3) := by decide +kernel
theorem dX11_credit_62 : decode cX11_credit 62 = .ok (.aload_n 0, 1) := by decide +kernel
theorem dX11_credit_63 : decode cX11_credit 63 = .ok (.getfield 52, 3) := by decide +kernel
theorem dX11_credit_66 : decode cX11_credit 66 = .ok (.iload_n 1, 1) := by decide +kernel
theorem dX11_credit_67 : decode cX11_credit 67 = .ok (.iload_n 2, 1) := by decide +kernel
theorem dX11_credit_68 : decode cX11_credit 68 = .ok (.invokevirtual 375, 3) := by decide +kernel
theorem dX11_credit_71 : decode cX11_credit 71 = .ok (.ireturn, 1) := by decide +kernel
theorem dX11_dispute_0 : decode cX11_dispute 0 = .ok (.aload_n 0, 1) := by decide +kernel
theorem dX11_dispute_1 : decode cX11_dispute 1 = .ok (.iload_n 1, 1) := by decide +kernel
theorem dX11_dispute_2 : decode cX11_dispute 2 = .ok (.invokevirtual 199, 3) := by decide +kernel
theorem dX11_dispute_5 : decode cX11_dispute 5 = .ok (.iload_n 2, 1) := by decide +kernel
theorem dX11_dispute_6 : decode cX11_dispute 6 = .ok (.iconst 0, 1) := by decide +kernel
theorem dX11_dispute_7 : decode cX11_dispute 7 = .ok (.bipush 29, 2) := by decide +kernel
theorem dX11_dispute_9 : decode cX11_dispute 9 = .ok (.invokestatic 76, 3) := by decide +kernel
theorem dX11_dispute_12 : decode cX11_dispute 12 = .ok (.aload_n 0, 1) := by decide +kernel
theorem dX11_dispute_13 : decode cX11_dispute 13 = .ok (.getfield 24, 3) := by decide +kernel
theorem dX11_dispute_16 : decode cX11_dispute 16 = .ok (.iload_n 1, 1) := by decide +kernel
theorem dX11_dispute_17 : decode cX11_dispute 17 = .ok (.invokevirtual 232, 3) := by decide +kernel
theorem dX11_dispute_20 : decode cX11_dispute 20 = .ok (.iload_n 2, 1) := by decide +kernel
theorem dX11_dispute_21 : decode cX11_dispute 21 = .ok (.invokestatic 378, 3) := by decide +kernel
theorem dX11_dispute_24 : decode cX11_dispute 24 = .ok (.invokestatic 382, 3) := by decide +kernel
theorem dX11_dispute_27 : decode cX11_dispute 27 = .ok (.aload_n 0, 1) := by decide +kernel
theorem dX11_dispute_28 : decode cX11_dispute 28 = .ok (.getfield 24, 3) := by decide +kernel
theorem dX11_dispute_31 : decode cX11_dispute 31 = .ok (.getfield 202, 3) := by decide +kernel
theorem dX11_dispute_34 : decode cX11_dispute 34 = .ok (.iload_n 1, 1) := by decide +kernel
theorem dX11_dispute_35 : decode cX11_dispute 35 = .ok (.aaload, 1) := by decide +kernel
theorem dX11_dispute_36 : decode cX11_dispute 36 = .ok (.astore_n 3, 1) := by decide +kernel
theorem dX11_dispute_37 : decode cX11_dispute 37 = .ok (.aload_n 3, 1) := by decide +kernel
theorem dX11_dispute_38 : decode cX11_dispute 38 = .ok (.getfield 220, 3) := by decide +kernel
theorem dX11_dispute_41 : decode cX11_dispute 41 = .ok (.ifCond .ne 18, 3) := by decide +kernel
theorem dX11_dispute_44 : decode cX11_dispute 44 = .ok (.aload_n 3, 1) := by decide +kernel
theorem dX11_dispute_45 : decode cX11_dispute 45 = .ok (.invokevirtual 302, 3) := by decide +kernel
theorem dX11_dispute_48 : decode cX11_dispute 48 = .ok (.iload_n 2, 1) := by decide +kernel
theorem dX11_dispute_49 : decode cX11_dispute 49 = .ok (.invokestatic 378, 3) := by decide +kernel
theorem dX11_dispute_52 : decode cX11_dispute 52 = .ok (.ifCond .ne 7, 3) := by decide +kernel
theorem dX11_dispute_55 : decode cX11_dispute 55 = .ok (.iconst 1, 1) := by decide +kernel
theorem dX11_dispute_56 : decode cX11_dispute 56 = .ok (.goto 4, 3) := by decide +kernel
theorem dX11_dispute_59 : decode cX11_dispute 59 = .ok (.iconst 0, 1) := by decide +kernel
theorem dX11_dispute_60 : decode cX11_dispute 60 = .ok (.invokestatic 69, 3) := by decide +kernel
theorem dX11_dispute_63 : decode cX11_dispute 63 = .ok (.aload_n 0, 1) := by decide +kernel
theorem dX11_dispute_64 : decode cX11_dispute 64 = .ok (.getfield 43, 3) := by decide +kernel
theorem dX11_dispute_67 : decode cX11_dispute 67 = .ok (.aload_n 0, 1) := by decide +kernel
theorem dX11_dispute_68 : decode cX11_dispute 68 = .ok (.getfield 24, 3) := by decide +kernel
theorem dX11_dispute_71 : decode cX11_dispute 71 = .ok (.invokevirtual 84, 3) := by decide +kernel
theorem dX11_dispute_74 : decode cX11_dispute 74 = .ok (.aload_n 3, 1) := by decide +kernel
theorem dX11_dispute_75 : decode cX11_dispute 75 = .ok (.dup, 1) := by decide +kernel
theorem dX11_dispute_76 : decode cX11_dispute 76 = .ok (.getfield 235, 3) := by decide +kernel
theorem dX11_dispute_79 : decode cX11_dispute 79 = .ok (.iconst 1, 1) := by decide +kernel
theorem dX11_dispute_80 : decode cX11_dispute 80 = .ok (.iload_n 2, 1) := by decide +kernel
theorem dX11_dispute_81 : decode cX11_dispute 81 = .ok (.ishl, 1) := by decide +kernel
theorem dX11_dispute_82 : decode cX11_dispute 82 = .ok (.ior, 1) := by decide +kernel
theorem dX11_dispute_83 : decode cX11_dispute 83 = .ok (.putfield 235, 3) := by decide +kernel
theorem dX11_dispute_86 : decode cX11_dispute 86 = .ok (.aload_n 3, 1) := by decide +kernel
theorem dX11_dispute_87 : decode cX11_dispute 87 = .ok (.getfield 235, 3) := by decide +kernel
theorem dX11_dispute_90 : decode cX11_dispute 90 = .ok (.invokestatic 305, 3) := by decide +kernel
theorem dX11_dispute_93 : decode cX11_dispute 93 = .ok (.ireturn, 1) := by decide +kernel
theorem dX11_settle_0 : decode cX11_settle 0 = .ok (.aload_n 0, 1) := by decide +kernel
theorem dX11_settle_1 : decode cX11_settle 1 = .ok (.iload_n 1, 1) := by decide +kernel
theorem dX11_settle_2 : decode cX11_settle 2 = .ok (.invokevirtual 199, 3) := by decide +kernel
theorem dX11_settle_5 : decode cX11_settle 5 = .ok (.aload_n 0, 1) := by decide +kernel
theorem dX11_settle_6 : decode cX11_settle 6 = .ok (.getfield 24, 3) := by decide +kernel
theorem dX11_settle_9 : decode cX11_settle 9 = .ok (.getfield 202, 3) := by decide +kernel
theorem dX11_settle_12 : decode cX11_settle 12 = .ok (.iload_n 1, 1) := by decide +kernel
theorem dX11_settle_13 : decode cX11_settle 13 = .ok (.aaload, 1) := by decide +kernel
theorem dX11_settle_14 : decode cX11_settle 14 = .ok (.astore 4, 2) := by decide +kernel
theorem dX11_settle_16 : decode cX11_settle 16 = .ok (.iload_n 2, 1) := by decide +kernel
theorem dX11_settle_17 : decode cX11_settle 17 = .ok (.ifCond .lt 25, 3) := by decide +kernel
theorem dX11_settle_20 : decode cX11_settle 20 = .ok (.iload_n 2, 1) := by decide +kernel
theorem dX11_settle_21 : decode cX11_settle 21 = .ok (.bipush 30, 2) := by decide +kernel
theorem dX11_settle_23 : decode cX11_settle 23 = .ok (.if_icmp .ge 19, 3) := by decide +kernel
theorem dX11_settle_26 : decode cX11_settle 26 = .ok (.aload 4, 2) := by decide +kernel
theorem dX11_settle_28 : decode cX11_settle 28 = .ok (.getfield 235, 3) := by decide +kernel
theorem dX11_settle_31 : decode cX11_settle 31 = .ok (.iload_n 2, 1) := by decide +kernel
theorem dX11_settle_32 : decode cX11_settle 32 = .ok (.invokestatic 378, 3) := by decide +kernel
theorem dX11_settle_35 : decode cX11_settle 35 = .ok (.ifCond .eq 7, 3) := by decide +kernel
theorem dX11_settle_38 : decode cX11_settle 38 = .ok (.iconst 1, 1) := by decide +kernel
theorem dX11_settle_39 : decode cX11_settle 39 = .ok (.goto 4, 3) := by decide +kernel
theorem dX11_settle_42 : decode cX11_settle 42 = .ok (.iconst 0, 1) := by decide +kernel
theorem dX11_settle_43 : decode cX11_settle 43 = .ok (.invokestatic 69, 3) := by decide +kernel
theorem dX11_settle_46 : decode cX11_settle 46 = .ok (.aload_n 0, 1) := by decide +kernel
theorem dX11_settle_47 : decode cX11_settle 47 = .ok (.getfield 43, 3) := by decide +kernel
theorem dX11_settle_50 : decode cX11_settle 50 = .ok (.aload_n 0, 1) := by decide +kernel
theorem dX11_settle_51 : decode cX11_settle 51 = .ok (.getfield 24, 3) := by decide +kernel
theorem dX11_settle_54 : decode cX11_settle 54 = .ok (.invokevirtual 84, 3) := by decide +kernel
theorem dX11_settle_57 : decode cX11_settle 57 = .ok (.aload 4, 2) := by decide +kernel
theorem dX11_settle_59 : decode cX11_settle 59 = .ok (.dup, 1) := by decide +kernel
theorem dX11_settle_60 : decode cX11_settle 60 = .ok (.getfield 235, 3) := by decide +kernel
theorem dX11_settle_63 : decode cX11_settle 63 = .ok (.iconst 1, 1) := by decide +kernel
theorem dX11_settle_64 : decode cX11_settle 64 = .ok (.iload_n 2, 1) := by decide +kernel
theorem dX11_settle_65 : decode cX11_settle 65 = .ok (.ishl, 1) := by decide +kernel
theorem dX11_settle_66 : decode cX11_settle 66 = .ok (.iconst (-1), 1) := by decide +kernel
theorem dX11_settle_67 : decode cX11_settle 67 = .ok (.ixor, 1) := by decide +kernel
theorem dX11_settle_68 : decode cX11_settle 68 = .ok (.iand, 1) := by decide +kernel
theorem dX11_settle_69 : decode cX11_settle 69 = .ok (.putfield 235, 3) := by decide +kernel
theorem dX11_settle_72 : decode cX11_settle 72 = .ok (.iload_n 3, 1) := by decide +kernel
theorem dX11_settle_73 : decode cX11_settle 73 = .ok (.ifCond .eq 16, 3) := by decide +kernel
theorem dX11_settle_76 : decode cX11_settle 76 = .ok (.aload 4, 2) := by decide +kernel
theorem dX11_settle_78 : decode cX11_settle 78 = .ok (.dup, 1) := by decide +kernel
theorem dX11_settle_79 : decode cX11_settle 79 = .ok (.getfield 238, 3) := by decide +kernel
theorem dX11_settle_82 : decode cX11_settle 82 = .ok (.iconst 1, 1) := by decide +kernel
theorem dX11_settle_83 : decode cX11_settle 83 = .ok (.iload_n 2, 1) := by decide +kernel
theorem dX11_settle_84 : decode cX11_settle 84 = .ok (.ishl, 1) := by decide +kernel
theorem dX11_settle_85 : decode cX11_settle 85 = .ok (.ior, 1) := by decide +kernel
theorem dX11_settle_86 : decode cX11_settle 86 = .ok (.putfield 238, 3) := by decide +kernel
theorem dX11_settle_89 : decode cX11_settle 89 = .ok (.aload 4, 2) := by decide +kernel
theorem dX11_settle_91 : decode cX11_settle 91 = .ok (.getfield 235, 3) := by decide +kernel
theorem dX11_settle_94 : decode cX11_settle 94 = .ok (.invokestatic 305, 3) := by decide +kernel
theorem dX11_settle_97 : decode cX11_settle 97 = .ok (.ireturn, 1) := by decide +kernel
theorem dX11_pay_0 : decode cX11_pay 0 = .ok (.aload_n 0, 1) := by decide +kernel
theorem dX11_pay_1 : decode cX11_pay 1 = .ok (.iload_n 1, 1) := by decide +kernel
theorem dX11_pay_2 : decode cX11_pay 2 = .ok (.invokevirtual 184, 3) := by decide +kernel
theorem dX11_pay_5 : decode cX11_pay 5 = .ok (.iload_n 2, 1) := by decide +kernel
theorem dX11_pay_6 : decode cX11_pay 6 = .ok (.iconst 1, 1) := by decide +kernel
theorem dX11_pay_7 : decode cX11_pay 7 = .ok (.ldc_w 385, 3) := by decide +kernel
theorem dX11_pay_10 : decode cX11_pay 10 = .ok (.invokestatic 76, 3) := by decide +kernel
theorem dX11_pay_13 : decode cX11_pay 13 = .ok (.aload_n 0, 1) := by decide +kernel
theorem dX11_pay_14 : decode cX11_pay 14 = .ok (.getfield 43, 3) := by decide +kernel
theorem dX11_pay_17 : decode cX11_pay 17 = .ok (.aload_n 0, 1) := by decide +kernel
theorem dX11_pay_18 : decode cX11_pay 18 = .ok (.getfield 24, 3) := by decide +kernel
theorem dX11_pay_21 : decode cX11_pay 21 = .ok (.invokevirtual 84, 3) := by decide +kernel
theorem dX11_pay_24 : decode cX11_pay 24 = .ok (.aload_n 0, 1) := by decide +kernel
theorem dX11_pay_25 : decode cX11_pay 25 = .ok (.getfield 24, 3) := by decide +kernel
theorem dX11_pay_28 : decode cX11_pay 28 = .ok (.getfield 187, 3) := by decide +kernel
theorem dX11_pay_31 : decode cX11_pay 31 = .ok (.iload_n 1, 1) := by decide +kernel
theorem dX11_pay_32 : decode cX11_pay 32 = .ok (.aaload, 1) := by decide +kernel
theorem dX11_pay_33 : decode cX11_pay 33 = .ok (.astore_n 3, 1) := by decide +kernel
theorem dX11_pay_34 : decode cX11_pay 34 = .ok (.aload_n 3, 1) := by decide +kernel
theorem dX11_pay_35 : decode cX11_pay 35 = .ok (.dup, 1) := by decide +kernel
theorem dX11_pay_36 : decode cX11_pay 36 = .ok (.getfield 328, 3) := by decide +kernel
theorem dX11_pay_39 : decode cX11_pay 39 = .ok (.iload_n 2, 1) := by decide +kernel
theorem dX11_pay_40 : decode cX11_pay 40 = .ok (.i2l, 1) := by decide +kernel
theorem dX11_pay_41 : decode cX11_pay 41 = .ok (.ladd, 1) := by decide +kernel
theorem dX11_pay_42 : decode cX11_pay 42 = .ok (.putfield 328, 3) := by decide +kernel
theorem dX11_pay_45 : decode cX11_pay 45 = .ok (.aload_n 3, 1) := by decide +kernel
theorem dX11_pay_46 : decode cX11_pay 46 = .ok (.getfield 328, 3) := by decide +kernel
theorem dX11_pay_49 : decode cX11_pay 49 = .ok (.lreturn, 1) := by decide +kernel
theorem dX11_advance_0 : decode cX11_advance 0 = .ok (.iload_n 1, 1) := by decide +kernel
theorem dX11_advance_1 : decode cX11_advance 1 = .ok (.iconst 1, 1) := by decide +kernel
theorem dX11_advance_2 : decode cX11_advance 2 = .ok (.sipush 3600, 3) := by decide +kernel
theorem dX11_advance_5 : decode cX11_advance 5 = .ok (.invokestatic 76, 3) := by decide +kernel
theorem dX11_advance_8 : decode cX11_advance 8 = .ok (.aload_n 0, 1) := by decide +kernel
theorem dX11_advance_9 : decode cX11_advance 9 = .ok (.getfield 24, 3) := by decide +kernel
theorem dX11_advance_12 : decode cX11_advance 12 = .ok (.getfield 115, 3) := by decide +kernel
theorem dX11_advance_15 : decode cX11_advance 15 = .ok (.iload_n 1, 1) := by decide +kernel
theorem dX11_advance_16 : decode cX11_advance 16 = .ok (.iadd, 1) := by decide +kernel
theorem dX11_advance_17 : decode cX11_advance 17 = .ok (.ldc_w 386, 3) := by decide +kernel
theorem dX11_advance_20 : decode cX11_advance 20 = .ok (.if_icmp .gt 7, 3) := by decide +kernel
theorem dX11_advance_23 : decode cX11_advance 23 = .ok (.iconst 1, 1) := by decide +kernel
theorem dX11_advance_24 : decode cX11_advance 24 = .ok (.goto 4, 3) := by decide +kernel
theorem dX11_advance_27 : decode cX11_advance 27 = .ok (.iconst 0, 1) := by decide +kernel
theorem dX11_advance_28 : decode cX11_advance 28 = .ok (.invokestatic 69, 3) := by decide +kernel
theorem dX11_advance_31 : decode cX11_advance 31 = .ok (.aload_n 0, 1) := by decide +kernel
theorem dX11_advance_32 : decode cX11_advance 32 = .ok (.getfield 43, 3) := by decide +kernel
theorem dX11_advance_35 : decode cX11_advance 35 = .ok (.aload_n 0, 1) := by decide +kernel
theorem dX11_advance_36 : decode cX11_advance 36 = .ok (.getfield 24, 3) := by decide +kernel
theorem dX11_advance_39 : decode cX11_advance 39 = .ok (.invokevirtual 84, 3) := by decide +kernel
theorem dX11_advance_42 : decode cX11_advance 42 = .ok (.aload_n 0, 1) := by decide +kernel
theorem dX11_advance_43 : decode cX11_advance 43 = .ok (.getfield 24, 3) := by decide +kernel
theorem dX11_advance_46 : decode cX11_advance 46 = .ok (.dup, 1) := by decide +kernel
theorem dX11_advance_47 : decode cX11_advance 47 = .ok (.getfield 115, 3) := by decide +kernel
theorem dX11_advance_50 : decode cX11_advance 50 = .ok (.iload_n 1, 1) := by decide +kernel
theorem dX11_advance_51 : decode cX11_advance 51 = .ok (.iadd, 1) := by decide +kernel
theorem dX11_advance_52 : decode cX11_advance 52 = .ok (.putfield 115, 3) := by decide +kernel
theorem dX11_advance_55 : decode cX11_advance 55 = .ok (.aload_n 0, 1) := by decide +kernel
theorem dX11_advance_56 : decode cX11_advance 56 = .ok (.getfield 24, 3) := by decide +kernel
theorem dX11_advance_59 : decode cX11_advance 59 = .ok (.getfield 115, 3) := by decide +kernel
theorem dX11_advance_62 : decode cX11_advance 62 = .ok (.ireturn, 1) := by decide +kernel
theorem dX11_setRate_0 : decode cX11_setRate 0 = .ok (.iload_n 1, 1) := by decide +kernel
theorem dX11_setRate_1 : decode cX11_setRate 1 = .ok (.aload_n 0, 1) := by decide +kernel
theorem dX11_setRate_2 : decode cX11_setRate 2 = .ok (.getfield 24, 3) := by decide +kernel
theorem dX11_setRate_5 : decode cX11_setRate 5 = .ok (.invokevirtual 118, 3) := by decide +kernel
theorem dX11_setRate_8 : decode cX11_setRate 8 = .ok (.getfield 122, 3) := by decide +kernel
theorem dX11_setRate_11 : decode cX11_setRate 11 = .ok (.invokestatic 153, 3) := by decide +kernel
theorem dX11_setRate_14 : decode cX11_setRate 14 = .ok (.iload_n 2, 1) := by decide +kernel
theorem dX11_setRate_15 : decode cX11_setRate 15 = .ok (.iconst 0, 1) := by decide +kernel
theorem dX11_setRate_16 : decode cX11_setRate 16 = .ok (.sipush 999, 3) := by decide +kernel
theorem dX11_setRate_19 : decode cX11_setRate 19 = .ok (.invokestatic 76, 3) := by decide +kernel
theorem dX11_setRate_22 : decode cX11_setRate 22 = .ok (.aload_n 0, 1) := by decide +kernel
theorem dX11_setRate_23 : decode cX11_setRate 23 = .ok (.getfield 24, 3) := by decide +kernel
theorem dX11_setRate_26 : decode cX11_setRate 26 = .ok (.getfield 112, 3) := by decide +kernel
theorem dX11_setRate_29 : decode cX11_setRate 29 = .ok (.bipush 20, 2) := by decide +kernel
theorem dX11_setRate_31 : decode cX11_setRate 31 = .ok (.if_icmp .ge 7, 3) := by decide +kernel
theorem dX11_setRate_34 : decode cX11_setRate 34 = .ok (.iconst 1, 1) := by decide +kernel
theorem dX11_setRate_35 : decode cX11_setRate 35 = .ok (.goto 4, 3) := by decide +kernel
theorem dX11_setRate_38 : decode cX11_setRate 38 = .ok (.iconst 0, 1) := by decide +kernel
theorem dX11_setRate_39 : decode cX11_setRate 39 = .ok (.invokestatic 69, 3) := by decide +kernel
theorem dX11_setRate_42 : decode cX11_setRate 42 = .ok (.aload_n 0, 1) := by decide +kernel
theorem dX11_setRate_43 : decode cX11_setRate 43 = .ok (.getfield 43, 3) := by decide +kernel
theorem dX11_setRate_46 : decode cX11_setRate 46 = .ok (.aload_n 0, 1) := by decide +kernel
theorem dX11_setRate_47 : decode cX11_setRate 47 = .ok (.getfield 24, 3) := by decide +kernel
theorem dX11_setRate_50 : decode cX11_setRate 50 = .ok (.invokevirtual 84, 3) := by decide +kernel
theorem dX11_setRate_53 : decode cX11_setRate 53 = .ok (.aload_n 0, 1) := by decide +kernel
theorem dX11_setRate_54 : decode cX11_setRate 54 = .ok (.getfield 24, 3) := by decide +kernel
theorem dX11_setRate_57 : decode cX11_setRate 57 = .ok (.invokevirtual 387, 3) := by decide +kernel
theorem dX11_setRate_60 : decode cX11_setRate 60 = .ok (.getfield 161, 3) := by decide +kernel
theorem dX11_setRate_63 : decode cX11_setRate 63 = .ok (.iload_n 1, 1) := by decide +kernel
theorem dX11_setRate_64 : decode cX11_setRate 64 = .ok (.iload_n 2, 1) := by decide +kernel
theorem dX11_setRate_65 : decode cX11_setRate 65 = .ok (.iastore, 1) := by decide +kernel
theorem dX11_setRate_66 : decode cX11_setRate 66 = .ok (.aload_n 0, 1) := by decide +kernel
theorem dX11_setRate_67 : decode cX11_setRate 67 = .ok (.getfield 24, 3) := by decide +kernel
theorem dX11_setRate_70 : decode cX11_setRate 70 = .ok (.getfield 112, 3) := by decide +kernel
theorem dX11_setRate_73 : decode cX11_setRate 73 = .ok (.ireturn, 1) := by decide +kernel
theorem dX11_setPercent_0 : decode cX11_setPercent 0 = .ok (.iload_n 1, 1) := by decide +kernel
theorem dX11_setPercent_1 : decode cX11_setPercent 1 = .ok (.aload_n 0, 1) := by decide +kernel
theorem dX11_setPercent_2 : decode cX11_setPercent 2 = .ok (.getfield 24, 3) := by decide +kernel
theorem dX11_setPercent_5 : decode cX11_setPercent 5 = .ok (.invokevirtual 118, 3) := by decide +kernel
theorem dX11_setPercent_8 : decode cX11_setPercent 8 = .ok (.getfield 127, 3) := by decide +kernel
theorem dX11_setPercent_11 : decode cX11_setPercent 11 = .ok (.invokestatic 153, 3) := by decide +kernel
theorem dX11_setPercent_14 : decode cX11_setPercent 14 = .ok (.iload_n 2, 1) := by decide +kernel
theorem dX11_setPercent_15 : decode cX11_setPercent 15 = .ok (.iconst 0, 1) := by decide +kernel
theorem dX11_setPercent_16 : decode cX11_setPercent 16 = .ok (.bipush 100, 2) := by decide +kernel
theorem dX11_setPercent_18 : decode cX11_setPercent 18 = .ok (.invokestatic 76, 3) := by decide +kernel
theorem dX11_setPercent_21 : decode cX11_setPercent 21 = .ok (.aload_n 0, 1) := by decide +kernel
theorem dX11_setPercent_22 : decode cX11_setPercent 22 = .ok (.getfield 24, 3) := by decide +kernel
theorem dX11_setPercent_25 : decode cX11_setPercent 25 = .ok (.getfield 112, 3) := by decide +kernel
theorem dX11_setPercent_28 : decode cX11_setPercent 28 = .ok (.bipush 20, 2) := by decide +kernel
theorem dX11_setPercent_30 : decode cX11_setPercent 30 = .ok (.if_icmp .ge 7, 3) := by decide +kernel
theorem dX11_setPercent_33 : decode cX11_setPercent 33 = .ok (.iconst 1, 1) := by decide +kernel
theorem dX11_setPercent_34 : decode cX11_setPercent 34 = .ok (.goto 4, 3) := by decide +kernel
theorem dX11_setPercent_37 : decode cX11_setPercent 37 = .ok (.iconst 0, 1) := by decide +kernel
theorem dX11_setPercent_38 : decode cX11_setPercent 38 = .ok (.invokestatic 69, 3) := by decide +kernel
theorem dX11_setPercent_41 : decode cX11_setPercent 41 = .ok (.aload_n 0, 1) := by decide +kernel
theorem dX11_setPercent_42 : decode cX11_setPercent 42 = .ok (.getfield 43, 3) := by decide +kernel
theorem dX11_setPercent_45 : decode cX11_setPercent 45 = .ok (.aload_n 0, 1) := by decide +kernel
theorem dX11_setPercent_46 : decode cX11_setPercent 46 = .ok (.getfield 24, 3) := by decide +kernel
theorem dX11_setPercent_49 : decode cX11_setPercent 49 = .ok (.invokevirtual 84, 3) := by decide +kernel
theorem dX11_setPercent_52 : decode cX11_setPercent 52 = .ok (.aload_n 0, 1) := by decide +kernel
theorem dX11_setPercent_53 : decode cX11_setPercent 53 = .ok (.getfield 24, 3) := by decide +kernel
theorem dX11_setPercent_56 : decode cX11_setPercent 56 = .ok (.invokevirtual 387, 3) := by decide +kernel
theorem dX11_setPercent_59 : decode cX11_setPercent 59 = .ok (.getfield 167, 3) := by decide +kernel
theorem dX11_setPercent_62 : decode cX11_setPercent 62 = .ok (.iload_n 1, 1) := by decide +kernel
theorem dX11_setPercent_63 : decode cX11_setPercent 63 = .ok (.iload_n 2, 1) := by decide +kernel
theorem dX11_setPercent_64 : decode cX11_setPercent 64 = .ok (.iastore, 1) := by decide +kernel
theorem dX11_setPercent_65 : decode cX11_setPercent 65 = .ok (.aload_n 0, 1) := by decide +kernel
theorem dX11_setPercent_66 : decode cX11_setPercent 66 = .ok (.getfield 24, 3) := by decide +kernel
theorem dX11_setPercent_69 : decode cX11_setPercent 69 = .ok (.getfield 112, 3) := by decide +kernel
theorem dX11_setPercent_72 : decode cX11_setPercent 72 = .ok (.ireturn, 1) := by decide +kernel
theorem dX11_setLay_0 : decode cX11_setLay 0 = .ok (.iload_n 1, 1) := by decide +kernel
theorem dX11_setLay_1 : decode cX11_setLay 1 = .ok (.iconst 0, 1) := by decide +kernel
theorem dX11_setLay_2 : decode cX11_setLay 2 = .ok (.bipush 30, 2) := by decide +kernel
theorem dX11_setLay_4 : decode cX11_setLay 4 = .ok (.invokestatic 76, 3) := by decide +kernel
theorem dX11_setLay_7 : decode cX11_setLay 7 = .ok (.iload_n 2, 1) := by decide +kernel
theorem dX11_setLay_8 : decode cX11_setLay 8 = .ok (.iconst 0, 1) := by decide +kernel
theorem dX11_setLay_9 : decode cX11_setLay 9 = .ok (.sipush 9999, 3) := by decide +kernel
theorem dX11_setLay_12 : decode cX11_setLay 12 = .ok (.invokestatic 76, 3) := by decide +kernel
theorem dX11_setLay_15 : decode cX11_setLay 15 = .ok (.aload_n 0, 1) := by decide +kernel
theorem dX11_setLay_16 : decode cX11_setLay 16 = .ok (.getfield 24, 3) := by decide +kernel
theorem dX11_setLay_19 : decode cX11_setLay 19 = .ok (.getfield 112, 3) := by decide +kernel
theorem dX11_setLay_22 : decode cX11_setLay 22 = .ok (.bipush 20, 2) := by decide +kernel
theorem dX11_setLay_24 : decode cX11_setLay 24 = .ok (.if_icmp .ge 7, 3) := by decide +kernel
theorem dX11_setLay_27 : decode cX11_setLay 27 = .ok (.iconst 1, 1) := by decide +kernel
theorem dX11_setLay_28 : decode cX11_setLay 28 = .ok (.goto 4, 3) := by decide +kernel
theorem dX11_setLay_31 : decode cX11_setLay 31 = .ok (.iconst 0, 1) := by decide +kernel
theorem dX11_setLay_32 : decode cX11_setLay 32 = .ok (.invokestatic 69, 3) := by decide +kernel
theorem dX11_setLay_35 : decode cX11_setLay 35 = .ok (.aload_n 0, 1) := by decide +kernel
theorem dX11_setLay_36 : decode cX11_setLay 36 = .ok (.getfield 43, 3) := by decide +kernel
theorem dX11_setLay_39 : decode cX11_setLay 39 = .ok (.aload_n 0, 1) := by decide +kernel
theorem dX11_setLay_40 : decode cX11_setLay 40 = .ok (.getfield 24, 3) := by decide +kernel
theorem dX11_setLay_43 : decode cX11_setLay 43 = .ok (.invokevirtual 84, 3) := by decide +kernel
theorem dX11_setLay_46 : decode cX11_setLay 46 = .ok (.aload_n 0, 1) := by decide +kernel
theorem dX11_setLay_47 : decode cX11_setLay 47 = .ok (.getfield 24, 3) := by decide +kernel
theorem dX11_setLay_50 : decode cX11_setLay 50 = .ok (.invokevirtual 387, 3) := by decide +kernel
theorem dX11_setLay_53 : decode cX11_setLay 53 = .ok (.astore_n 3, 1) := by decide +kernel
theorem dX11_setLay_54 : decode cX11_setLay 54 = .ok (.aload_n 3, 1) := by decide +kernel
theorem dX11_setLay_55 : decode cX11_setLay 55 = .ok (.iload_n 1, 1) := by decide +kernel
theorem dX11_setLay_56 : decode cX11_setLay 56 = .ok (.putfield 147, 3) := by decide +kernel
theorem dX11_setLay_59 : decode cX11_setLay 59 = .ok (.aload_n 3, 1) := by decide +kernel
theorem dX11_setLay_60 : decode cX11_setLay 60 = .ok (.iload_n 2, 1) := by decide +kernel
theorem dX11_setLay_61 : decode cX11_setLay 61 = .ok (.putfield 150, 3) := by decide +kernel
theorem dX11_setLay_64 : decode cX11_setLay 64 = .ok (.aload_n 0, 1) := by decide +kernel
theorem dX11_setLay_65 : decode cX11_setLay 65 = .ok (.getfield 24, 3) := by decide +kernel
theorem dX11_setLay_68 : decode cX11_setLay 68 = .ok (.getfield 112, 3) := by decide +kernel
theorem dX11_setLay_71 : decode cX11_setLay 71 = .ok (.ireturn, 1) := by decide +kernel
theorem dX11_undo_0 : decode cX11_undo 0 = .ok (.aload_n 0, 1) := by decide +kernel
theorem dX11_undo_1 : decode cX11_undo 1 = .ok (.getfield 43, 3) := by decide +kernel
theorem dX11_undo_4 : decode cX11_undo 4 = .ok (.getfield 390, 3) := by decide +kernel
theorem dX11_undo_7 : decode cX11_undo 7 = .ok (.ifCond .le 7, 3) := by decide +kernel
theorem dX11_undo_10 : decode cX11_undo 10 = .ok (.iconst 1, 1) := by decide +kernel
theorem dX11_undo_11 : decode cX11_undo 11 = .ok (.goto 4, 3) := by decide +kernel
theorem dX11_undo_14 : decode cX11_undo 14 = .ok (.iconst 0, 1) := by decide +kernel
theorem dX11_undo_15 : decode cX11_undo 15 = .ok (.invokestatic 69, 3) := by decide +kernel
theorem dX11_undo_18 : decode cX11_undo 18 = .ok (.aload_n 0, 1) := by decide +kernel
theorem dX11_undo_19 : decode cX11_undo 19 = .ok (.getfield 43, 3) := by decide +kernel
theorem dX11_undo_22 : decode cX11_undo 22 = .ok (.aload_n 0, 1) := by decide +kernel
theorem dX11_undo_23 : decode cX11_undo 23 = .ok (.getfield 24, 3) := by decide +kernel
theorem dX11_undo_26 : decode cX11_undo 26 = .ok (.invokevirtual 393, 3) := by decide +kernel
theorem dX11_undo_29 : decode cX11_undo 29 = .ok (.aload_n 0, 1) := by decide +kernel
theorem dX11_undo_30 : decode cX11_undo 30 = .ok (.getfield 43, 3) := by decide +kernel
theorem dX11_undo_33 : decode cX11_undo 33 = .ok (.getfield 390, 3) := by decide +kernel
theorem dX11_undo_36 : decode cX11_undo 36 = .ok (.ireturn, 1) := by decide +kernel
theorem dX11_undoCount_0 : decode cX11_undoCount 0 = .ok (.aload_n 0, 1) := by decide +kernel
theorem dX11_undoCount_1 : decode cX11_undoCount 1 = .ok (.getfield 43, 3) := by decide +kernel
theorem dX11_undoCount_4 : decode cX11_undoCount 4 = .ok (.getfield 390, 3) := by decide +kernel
theorem dX11_undoCount_7 : decode cX11_undoCount 7 = .ok (.ireturn, 1) := by decide +kernel
theorem dX11_writeStatement_0 : decode cX11_writeStatement 0 = .ok (.aload_n 0, 1) := by decide +kernel
theorem dX11_writeStatement_1 : decode cX11_writeStatement 1 = .ok (.iload_n 1, 1) := by decide +kernel
theorem dX11_writeStatement_2 : decode cX11_writeStatement 2 = .ok (.invokevirtual 184, 3) := by decide +kernel
theorem dX11_writeStatement_5 : decode cX11_writeStatement 5 = .ok (.aload_n 0, 1) := by decide +kernel
theorem dX11_writeStatement_6 : decode cX11_writeStatement 6 = .ok (.getfield 61, 3) := by decide +kernel
theorem dX11_writeStatement_9 : decode cX11_writeStatement 9 = .ok (.iload_n 1, 1) := by decide +kernel
theorem dX11_writeStatement_10 : decode cX11_writeStatement 10 = .ok (.invokevirtual 396, 3) := by decide +kernel
theorem dX11_writeStatement_13 : decode cX11_writeStatement 13 = .ok (.aload_n 0, 1) := by decide +kernel
theorem dX11_writeStatement_14 : decode cX11_writeStatement 14 = .ok (.getfield 18, 3) := by decide +kernel
theorem dX11_writeStatement_17 : decode cX11_writeStatement 17 = .ok (.getfield 65, 3) := by decide +kernel
theorem dX11_writeStatement_20 : decode cX11_writeStatement 20 = .ok (.ireturn, 1) := by decide +kernel
theorem dX11_writeInvoice_0 : decode cX11_writeInvoice 0 = .ok (.aload_n 0, 1) := by decide +kernel
theorem dX11_writeInvoice_1 : decode cX11_writeInvoice 1 = .ok (.iload_n 1, 1) := by decide +kernel
theorem dX11_writeInvoice_2 : decode cX11_writeInvoice 2 = .ok (.invokevirtual 257, 3) := by decide +kernel
theorem dX11_writeInvoice_5 : decode cX11_writeInvoice 5 = .ok (.aload_n 0, 1) := by decide +kernel
theorem dX11_writeInvoice_6 : decode cX11_writeInvoice 6 = .ok (.getfield 61, 3) := by decide +kernel
theorem dX11_writeInvoice_9 : decode cX11_writeInvoice 9 = .ok (.iload_n 1, 1) := by decide +kernel
theorem dX11_writeInvoice_10 : decode cX11_writeInvoice 10 = .ok (.invokevirtual 399, 3) := by decide +kernel
theorem dX11_writeInvoice_13 : decode cX11_writeInvoice 13 = .ok (.aload_n 0, 1) := by decide +kernel
theorem dX11_writeInvoice_14 : decode cX11_writeInvoice 14 = .ok (.getfield 18, 3) := by decide +kernel
theorem dX11_writeInvoice_17 : decode cX11_writeInvoice 17 = .ok (.getfield 65, 3) := by decide +kernel
theorem dX11_writeInvoice_20 : decode cX11_writeInvoice 20 = .ok (.ireturn, 1) := by decide +kernel
theorem dX11_writeTariff_0 : decode cX11_writeTariff 0 = .ok (.iload_n 1, 1) := by decide +kernel
theorem dX11_writeTariff_1 : decode cX11_writeTariff 1 = .ok (.aload_n 0, 1) := by decide +kernel
theorem dX11_writeTariff_2 : decode cX11_writeTariff 2 = .ok (.getfield 24, 3) := by decide +kernel
theorem dX11_writeTariff_5 : decode cX11_writeTariff 5 = .ok (.getfield 112, 3) := by decide +kernel
theorem dX11_writeTariff_8 : decode cX11_writeTariff 8 = .ok (.iconst 1, 1) := by decide +kernel
theorem dX11_writeTariff_9 : decode cX11_writeTariff 9 = .ok (.iadd, 1) := by decide +kernel
theorem dX11_writeTariff_10 : decode cX11_writeTariff 10 = .ok (.invokestatic 153, 3) := by decide +kernel
theorem dX11_writeTariff_13 : decode cX11_writeTariff 13 = .ok (.aload_n 0, 1) := by decide +kernel
theorem dX11_writeTariff_14 : decode cX11_writeTariff 14 = .ok (.getfield 61, 3) := by decide +kernel
theorem dX11_writeTariff_17 : decode cX11_writeTariff 17 = .ok (.iload_n 1, 1) := by decide +kernel
theorem dX11_writeTariff_18 : decode cX11_writeTariff 18 = .ok (.invokevirtual 402, 3) := by decide +kernel
theorem dX11_writeTariff_21 : decode cX11_writeTariff 21 = .ok (.aload_n 0, 1) := by decide +kernel
theorem dX11_writeTariff_22 : decode cX11_writeTariff 22 = .ok (.getfield 18, 3) := by decide +kernel
theorem dX11_writeTariff_25 : decode cX11_writeTariff 25 = .ok (.getfield 65, 3) := by decide +kernel
theorem dX11_writeTariff_28 : decode cX11_writeTariff 28 = .ok (.ireturn, 1) := by decide +kernel
theorem dX11_outputByte_0 : decode cX11_outputByte 0 = .ok (.iload_n 1, 1) := by decide +kernel
theorem dX11_outputByte_1 : decode cX11_outputByte 1 = .ok (.aload_n 0, 1) := by decide +kernel
theorem dX11_outputByte_2 : decode cX11_outputByte 2 = .ok (.getfield 18, 3) := by decide +kernel
theorem dX11_outputByte_5 : decode cX11_outputByte 5 = .ok (.getfield 65, 3) := by decide +kernel
theorem dX11_outputByte_8 : decode cX11_outputByte 8 = .ok (.invokestatic 153, 3) := by decide +kernel
theorem dX11_outputByte_11 : decode cX11_outputByte 11 = .ok (.aload_n 0, 1) := by decide +kernel
theorem dX11_outputByte_12 : decode cX11_outputByte 12 = .ok (.getfield 18, 3) := by decide +kernel
theorem dX11_outputByte_15 : decode cX11_outputByte 15 = .ok (.iload_n 1, 1) := by decide +kernel
theorem dX11_outputByte_16 : decode cX11_outputByte 16 = .ok (.invokevirtual 405, 3) := by decide +kernel
theorem dX11_outputByte_19 : decode cX11_outputByte 19 = .ok (.ireturn, 1) := by decide +kernel
theorem dX11_requireShip_0 : decode cX11_requireShip 0 = .ok (.iload_n 1, 1) := by decide +kernel
theorem dX11_requireShip_1 : decode cX11_requireShip 1 = .ok (.aload_n 0, 1) := by decide +kernel
theorem dX11_requireShip_2 : decode cX11_requireShip 2 = .ok (.getfield 24, 3) := by decide +kernel
theorem dX11_requireShip_5 : decode cX11_requireShip 5 = .ok (.getfield 90, 3) := by decide +kernel
theorem dX11_requireShip_8 : decode cX11_requireShip 8 = .ok (.invokestatic 153, 3) := by decide +kernel
theorem dX11_requireShip_11 : decode cX11_requireShip 11 = .ok (.return_, 1) := by decide +kernel
theorem dX11_requireCall_0 : decode cX11_requireCall 0 = .ok (.iload_n 1, 1) := by decide +kernel
theorem dX11_requireCall_1 : decode cX11_requireCall 1 = .ok (.aload_n 0, 1) := by decide +kernel
theorem dX11_requireCall_2 : decode cX11_requireCall 2 = .ok (.getfield 24, 3) := by decide +kernel
theorem dX11_requireCall_5 : decode cX11_requireCall 5 = .ok (.getfield 103, 3) := by decide +kernel
theorem dX11_requireCall_8 : decode cX11_requireCall 8 = .ok (.invokestatic 153, 3) := by decide +kernel
theorem dX11_requireCall_11 : decode cX11_requireCall 11 = .ok (.return_, 1) := by decide +kernel
theorem dX11_requireInvoice_0 : decode cX11_requireInvoice 0 = .ok (.iload_n 1, 1) := by decide +kernel
theorem dX11_requireInvoice_1 : decode cX11_requireInvoice 1 = .ok (.aload_n 0, 1) := by decide +kernel
theorem dX11_requireInvoice_2 : decode cX11_requireInvoice 2 = .ok (.getfield 24, 3) := by decide +kernel
theorem dX11_requireInvoice_5 : decode cX11_requireInvoice 5 = .ok (.getfield 106, 3) := by decide +kernel
theorem dX11_requireInvoice_8 : decode cX11_requireInvoice 8 = .ok (.invokestatic 153, 3) := by decide +kernel
theorem dX11_requireInvoice_11 : decode cX11_requireInvoice 11 = .ok (.return_, 1) := by decide +kernel
theorem dX11_requireLine_0 : decode cX11_requireLine 0 = .ok (.iload_n 0, 1) := by decide +kernel
theorem dX11_requireLine_1 : decode cX11_requireLine 1 = .ok (.iconst 0, 1) := by decide +kernel
theorem dX11_requireLine_2 : decode cX11_requireLine 2 = .ok (.iconst 3, 1) := by decide +kernel
theorem dX11_requireLine_3 : decode cX11_requireLine 3 = .ok (.invokestatic 76, 3) := by decide +kernel
theorem dX11_requireLine_6 : decode cX11_requireLine 6 = .ok (.return_, 1) := by decide +kernel
theorem dX11_requireStay_0 : decode cX11_requireStay 0 = .ok (.iload_n 0, 1) := by decide +kernel
theorem dX11_requireStay_1 : decode cX11_requireStay 1 = .ok (.iconst 0, 1) := by decide +kernel
theorem dX11_requireStay_2 : decode cX11_requireStay 2 = .ok (.sipush 3599, 3) := by decide +kernel
theorem dX11_requireStay_5 : decode cX11_requireStay 5 = .ok (.invokestatic 76, 3) := by decide +kernel
theorem dX11_requireStay_8 : decode cX11_requireStay 8 = .ok (.iload_n 1, 1) := by decide +kernel
theorem dX11_requireStay_9 : decode cX11_requireStay 9 = .ok (.iload_n 0, 1) := by decide +kernel
theorem dX11_requireStay_10 : decode cX11_requireStay 10 = .ok (.iload_n 0, 1) := by decide +kernel
theorem dX11_requireStay_11 : decode cX11_requireStay 11 = .ok (.bipush 30, 2) := by decide +kernel
theorem dX11_requireStay_13 : decode cX11_requireStay 13 = .ok (.iadd, 1) := by decide +kernel
theorem dX11_requireStay_14 : decode cX11_requireStay 14 = .ok (.iconst 1, 1) := by decide +kernel
theorem dX11_requireStay_15 : decode cX11_requireStay 15 = .ok (.isub, 1) := by decide +kernel
theorem dX11_requireStay_16 : decode cX11_requireStay 16 = .ok (.invokestatic 76, 3) := by decide +kernel
theorem dX11_requireStay_19 : decode cX11_requireStay 19 = .ok (.iload_n 2, 1) := by decide +kernel
theorem dX11_requireStay_20 : decode cX11_requireStay 20 = .ok (.iconst 0, 1) := by decide +kernel
theorem dX11_requireStay_21 : decode cX11_requireStay 21 = .ok (.sipush 999, 3) := by decide +kernel
theorem dX11_requireStay_24 : decode cX11_requireStay 24 = .ok (.invokestatic 76, 3) := by decide +kernel
theorem dX11_requireStay_27 : decode cX11_requireStay 27 = .ok (.return_, 1) := by decide +kernel
theorem dX11_requireIndex_0 : decode cX11_requireIndex 0 = .ok (.iload_n 0, 1) := by decide +kernel
theorem dX11_requireIndex_1 : decode cX11_requireIndex 1 = .ok (.ifCond .lt 8, 3) := by decide +kernel
theorem dX11_requireIndex_4 : decode cX11_requireIndex 4 = .ok (.iload_n 0, 1) := by decide +kernel
theorem dX11_requireIndex_5 : decode cX11_requireIndex 5 = .ok (.iload_n 1, 1) := by decide +kernel
theorem dX11_requireIndex_6 : decode cX11_requireIndex 6 = .ok (.if_icmp .lt 14, 3) := by decide +kernel
theorem dX11_requireIndex_9 : decode cX11_requireIndex 9 = .ok (.new 408, 3) := by decide +kernel
theorem dX11_requireIndex_12 : decode cX11_requireIndex 12 = .ok (.dup, 1) := by decide +kernel
theorem dX11_requireIndex_13 : decode cX11_requireIndex 13 = .ok (.ldc_w 410, 3) := by decide +kernel
theorem dX11_requireIndex_16 : decode cX11_requireIndex 16 = .ok (.invokespecial 412, 3) := by decide +kernel
theorem dX11_requireIndex_19 : decode cX11_requireIndex 19 = .ok (.athrow, 1) := by decide +kernel
theorem dX11_requireIndex_20 : decode cX11_requireIndex 20 = .ok (.return_, 1) := by decide +kernel
theorem dX11_requireRange_0 : decode cX11_requireRange 0 = .ok (.iload_n 0, 1) := by decide +kernel
theorem dX11_requireRange_1 : decode cX11_requireRange 1 = .ok (.iload_n 1, 1) := by decide +kernel
theorem dX11_requireRange_2 : decode cX11_requireRange 2 = .ok (.if_icmp .lt 12, 3) := by decide +kernel
theorem dX11_requireRange_5 : decode cX11_requireRange 5 = .ok (.iload_n 0, 1) := by decide +kernel
theorem dX11_requireRange_6 : decode cX11_requireRange 6 = .ok (.iload_n 2, 1) := by decide +kernel
theorem dX11_requireRange_7 : decode cX11_requireRange 7 = .ok (.if_icmp .gt 7, 3) := by decide +kernel
theorem dX11_requireRange_10 : decode cX11_requireRange 10 = .ok (.iconst 1, 1) := by decide +kernel
theorem dX11_requireRange_11 : decode cX11_requireRange 11 = .ok (.goto 4, 3) := by decide +kernel
theorem dX11_requireRange_14 : decode cX11_requireRange 14 = .ok (.iconst 0, 1) := by decide +kernel
theorem dX11_requireRange_15 : decode cX11_requireRange 15 = .ok (.invokestatic 382, 3) := by decide +kernel
theorem dX11_requireRange_18 : decode cX11_requireRange 18 = .ok (.return_, 1) := by decide +kernel
theorem dX11_requireArgument_0 : decode cX11_requireArgument 0 = .ok (.iload_n 0, 1) := by decide +kernel
theorem dX11_requireArgument_1 : decode cX11_requireArgument 1 = .ok (.ifCond .ne 14, 3) := by decide +kernel
theorem dX11_requireArgument_4 : decode cX11_requireArgument 4 = .ok (.new 415, 3) := by decide +kernel
theorem dX11_requireArgument_7 : decode cX11_requireArgument 7 = .ok (.dup, 1) := by decide +kernel
theorem dX11_requireArgument_8 : decode cX11_requireArgument 8 = .ok (.ldc_w 417, 3) := by decide +kernel
theorem dX11_requireArgument_11 : decode cX11_requireArgument 11 = .ok (.invokespecial 419, 3) := by decide +kernel
theorem dX11_requireArgument_14 : decode cX11_requireArgument 14 = .ok (.athrow, 1) := by decide +kernel
theorem dX11_requireArgument_15 : decode cX11_requireArgument 15 = .ok (.return_, 1) := by decide +kernel
theorem dX11_requireState_0 : decode cX11_requireState 0 = .ok (.iload_n 0, 1) := by decide +kernel
theorem dX11_requireState_1 : decode cX11_requireState 1 = .ok (.ifCond .ne 14, 3) := by decide +kernel
theorem dX11_requireState_4 : decode cX11_requireState 4 = .ok (.new 420, 3) := by decide +kernel
theorem dX11_requireState_7 : decode cX11_requireState 7 = .ok (.dup, 1) := by decide +kernel
theorem dX11_requireState_8 : decode cX11_requireState 8 = .ok (.ldc_w 422, 3) := by decide +kernel
theorem dX11_requireState_11 : decode cX11_requireState 11 = .ok (.invokespecial 424, 3) := by decide +kernel
theorem dX11_requireState_14 : decode cX11_requireState 14 = .ok (.athrow, 1) := by decide +kernel
theorem dX11_requireState_15 : decode cX11_requireState 15 = .ok (.return_, 1) := by decide +kernel
theorem dX11_contains_0 : decode cX11_contains 0 = .ok (.iload_n 0, 1) := by decide +kernel
theorem dX11_contains_1 : decode cX11_contains 1 = .ok (.iload_n 1, 1) := by decide +kernel
theorem dX11_contains_2 : decode cX11_contains 2 = .ok (.ishr, 1) := by decide +kernel
theorem dX11_contains_3 : decode cX11_contains 3 = .ok (.iconst 1, 1) := by decide +kernel
theorem dX11_contains_4 : decode cX11_contains 4 = .ok (.iand, 1) := by decide +kernel
theorem dX11_contains_5 : decode cX11_contains 5 = .ok (.ifCond .eq 7, 3) := by decide +kernel
theorem dX11_contains_8 : decode cX11_contains 8 = .ok (.iconst 1, 1) := by decide +kernel
theorem dX11_contains_9 : decode cX11_contains 9 = .ok (.goto 4, 3) := by decide +kernel
theorem dX11_contains_12 : decode cX11_contains 12 = .ok (.iconst 0, 1) := by decide +kernel
theorem dX11_contains_13 : decode cX11_contains 13 = .ok (.ireturn, 1) := by decide +kernel
theorem dX11_setBelow_0 : decode cX11_setBelow 0 = .ok (.iconst 1, 1) := by decide +kernel
theorem dX11_setBelow_1 : decode cX11_setBelow 1 = .ok (.iload_n 0, 1) := by decide +kernel
theorem dX11_setBelow_2 : decode cX11_setBelow 2 = .ok (.ishl, 1) := by decide +kernel
theorem dX11_setBelow_3 : decode cX11_setBelow 3 = .ok (.iconst 1, 1) := by decide +kernel
theorem dX11_setBelow_4 : decode cX11_setBelow 4 = .ok (.isub, 1) := by decide +kernel
theorem dX11_setBelow_5 : decode cX11_setBelow 5 = .ok (.ireturn, 1) := by decide +kernel
theorem dX12_thrown_0 : decode cX12_thrown 0 = .ok (.aload_n 0, 1) := by decide +kernel
theorem dX12_thrown_1 : decode cX12_thrown 1 = .ok (.getfield 3, 3) := by decide +kernel
theorem dX12_thrown_4 : decode cX12_thrown 4 = .ok (.ireturn, 1) := by decide +kernel
theorem dX12_in_0 : decode cX12_in 0 = .ok (.lload_n 0, 1) := by decide +kernel
theorem dX12_in_1 : decode cX12_in 1 = .ok (.lload_n 2, 1) := by decide +kernel
theorem dX12_in_2 : decode cX12_in 2 = .ok (.lcmp, 1) := by decide +kernel
theorem dX12_in_3 : decode cX12_in 3 = .ok (.ifCond .lt 14, 3) := by decide +kernel
theorem dX12_in_6 : decode cX12_in 6 = .ok (.lload_n 0, 1) := by decide +kernel
theorem dX12_in_7 : decode cX12_in 7 = .ok (.lload 4, 2) := by decide +kernel
theorem dX12_in_9 : decode cX12_in 9 = .ok (.lcmp, 1) := by decide +kernel
theorem dX12_in_10 : decode cX12_in 10 = .ok (.ifCond .gt 7, 3) := by decide +kernel
theorem dX12_in_13 : decode cX12_in 13 = .ok (.iconst 1, 1) := by decide +kernel
theorem dX12_in_14 : decode cX12_in 14 = .ok (.goto 4, 3) := by decide +kernel
theorem dX12_in_17 : decode cX12_in 17 = .ok (.iconst 0, 1) := by decide +kernel
theorem dX12_in_18 : decode cX12_in 18 = .ok (.ireturn, 1) := by decide +kernel
theorem dX12_has_0 : decode cX12_has 0 = .ok (.iload_n 0, 1) := by decide +kernel
theorem dX12_has_1 : decode cX12_has 1 = .ok (.iload_n 1, 1) := by decide +kernel
theorem dX12_has_2 : decode cX12_has 2 = .ok (.ishr, 1) := by decide +kernel
theorem dX12_has_3 : decode cX12_has 3 = .ok (.iconst 1, 1) := by decide +kernel
theorem dX12_has_4 : decode cX12_has 4 = .ok (.iand, 1) := by decide +kernel
theorem dX12_has_5 : decode cX12_has 5 = .ok (.iconst 1, 1) := by decide +kernel
theorem dX12_has_6 : decode cX12_has 6 = .ok (.if_icmp .ne 7, 3) := by decide +kernel
theorem dX12_has_9 : decode cX12_has 9 = .ok (.iconst 1, 1) := by decide +kernel
theorem dX12_has_10 : decode cX12_has 10 = .ok (.goto 4, 3) := by decide +kernel
theorem dX12_has_13 : decode cX12_has 13 = .ok (.iconst 0, 1) := by decide +kernel
theorem dX12_has_14 : decode cX12_has 14 = .ok (.ireturn, 1) := by decide +kernel
theorem dX12_bits_0 : decode cX12_bits 0 = .ok (.iconst 0, 1) := by decide +kernel
theorem dX12_bits_1 : decode cX12_bits 1 = .ok (.istore_n 1, 1) := by decide +kernel
theorem dX12_bits_2 : decode cX12_bits 2 = .ok (.iload_n 0, 1) := by decide +kernel
theorem dX12_bits_3 : decode cX12_bits 3 = .ok (.istore_n 2, 1) := by decide +kernel
theorem dX12_bits_4 : decode cX12_bits 4 = .ok (.iload_n 2, 1) := by decide +kernel
theorem dX12_bits_5 : decode cX12_bits 5 = .ok (.ifCond .eq 15, 3) := by decide +kernel
theorem dX12_bits_8 : decode cX12_bits 8 = .ok (.iinc 1 1, 3) := by decide +kernel
theorem dX12_bits_11 : decode cX12_bits 11 = .ok (.iload_n 2, 1) := by decide +kernel
theorem dX12_bits_12 : decode cX12_bits 12 = .ok (.iload_n 2, 1) := by decide +kernel
theorem dX12_bits_13 : decode cX12_bits 13 = .ok (.iconst 1, 1) := by decide +kernel
theorem dX12_bits_14 : decode cX12_bits 14 = .ok (.isub, 1) := by decide +kernel
theorem dX12_bits_15 : decode cX12_bits 15 = .ok (.iand, 1) := by decide +kernel
theorem dX12_bits_16 : decode cX12_bits 16 = .ok (.istore_n 2, 1) := by decide +kernel
theorem dX12_bits_17 : decode cX12_bits 17 = .ok (.goto (-13), 3) := by decide +kernel
theorem dX12_bits_20 : decode cX12_bits 20 = .ok (.iload_n 1, 1) := by decide +kernel
theorem dX12_bits_21 : decode cX12_bits 21 = .ok (.ireturn, 1) := by decide +kernel
theorem dX12_passes3_0 : decode cX12_passes3 0 = .ok (.aload_n 0, 1) := by decide +kernel
theorem dX12_passes3_1 : decode cX12_passes3 1 = .ok (.iload_n 1, 1) := by decide +kernel
theorem dX12_passes3_2 : decode cX12_passes3 2 = .ok (.ifCond .ne 7, 3) := by decide +kernel
theorem dX12_passes3_5 : decode cX12_passes3 5 = .ok (.iconst 1, 1) := by decide +kernel
theorem dX12_passes3_6 : decode cX12_passes3 6 = .ok (.goto 20, 3) := by decide +kernel
theorem dX12_passes3_9 : decode cX12_passes3 9 = .ok (.iload_n 2, 1) := by decide +kernel
theorem dX12_passes3_10 : decode cX12_passes3 10 = .ok (.ifCond .ne 7, 3) := by decide +kernel
theorem dX12_passes3_13 : decode cX12_passes3 13 = .ok (.iconst 2, 1) := by decide +kernel
theorem dX12_passes3_14 : decode cX12_passes3 14 = .ok (.goto 12, 3) := by decide +kernel
theorem dX12_passes3_17 : decode cX12_passes3 17 = .ok (.iload_n 3, 1) := by decide +kernel
theorem dX12_passes3_18 : decode cX12_passes3 18 = .ok (.ifCond .ne 7, 3) := by decide +kernel
theorem dX12_passes3_21 : decode cX12_passes3 21 = .ok (.iconst 3, 1) := by decide +kernel
theorem dX12_passes3_22 : decode cX12_passes3 22 = .ok (.goto 4, 3) := by decide +kernel
theorem dX12_passes3_25 : decode cX12_passes3 25 = .ok (.iconst 0, 1) := by decide +kernel
theorem dX12_passes3_26 : decode cX12_passes3 26 = .ok (.putfield 3, 3) := by decide +kernel
theorem dX12_passes3_29 : decode cX12_passes3 29 = .ok (.aload_n 0, 1) := by decide +kernel
theorem dX12_passes3_30 : decode cX12_passes3 30 = .ok (.getfield 3, 3) := by decide +kernel
theorem dX12_passes3_33 : decode cX12_passes3 33 = .ok (.ifCond .ne 7, 3) := by decide +kernel
theorem dX12_passes3_36 : decode cX12_passes3 36 = .ok (.iconst 1, 1) := by decide +kernel
theorem dX12_passes3_37 : decode cX12_passes3 37 = .ok (.goto 4, 3) := by decide +kernel
theorem dX12_passes3_40 : decode cX12_passes3 40 = .ok (.iconst 0, 1) := by decide +kernel
theorem dX12_passes3_41 : decode cX12_passes3 41 = .ok (.ireturn, 1) := by decide +kernel
theorem dX12_passes2_0 : decode cX12_passes2 0 = .ok (.aload_n 0, 1) := by decide +kernel
theorem dX12_passes2_1 : decode cX12_passes2 1 = .ok (.iload_n 1, 1) := by decide +kernel
theorem dX12_passes2_2 : decode cX12_passes2 2 = .ok (.iload_n 2, 1) := by decide +kernel
theorem dX12_passes2_3 : decode cX12_passes2 3 = .ok (.iconst 1, 1) := by decide +kernel
theorem dX12_passes2_4 : decode cX12_passes2 4 = .ok (.invokevirtual 7, 3) := by decide +kernel
theorem dX12_passes2_7 : decode cX12_passes2 7 = .ok (.ireturn, 1) := by decide +kernel
theorem dX12_passes_0 : decode cX12_passes 0 = .ok (.aload_n 0, 1) := by decide +kernel
theorem dX12_passes_1 : decode cX12_passes 1 = .ok (.iload_n 1, 1) := by decide +kernel
theorem dX12_passes_2 : decode cX12_passes 2 = .ok (.iconst 1, 1) := by decide +kernel
theorem dX12_passes_3 : decode cX12_passes 3 = .ok (.iconst 1, 1) := by decide +kernel
theorem dX12_passes_4 : decode cX12_passes 4 = .ok (.invokevirtual 7, 3) := by decide +kernel
theorem dX12_passes_7 : decode cX12_passes 7 = .ok (.ireturn, 1) := by decide +kernel
theorem dX12_init_0 : decode cX12_init 0 = .ok (.aload_n 0, 1) := by decide +kernel
theorem dX12_init_1 : decode cX12_init 1 = .ok (.invokespecial 11, 3) := by decide +kernel
theorem dX12_init_4 : decode cX12_init 4 = .ok (.aload_n 0, 1) := by decide +kernel
theorem dX12_init_5 : decode cX12_init 5 = .ok (.sipush 1377, 3) := by decide +kernel
theorem dX12_init_8 : decode cX12_init 8 = .ok (.newarray .int, 2) := by decide +kernel
theorem dX12_init_10 : decode cX12_init 10 = .ok (.putfield 17, 3) := by decide +kernel
theorem dX12_init_13 : decode cX12_init 13 = .ok (.aload_n 0, 1) := by decide +kernel
theorem dX12_init_14 : decode cX12_init 14 = .ok (.sipush 1377, 3) := by decide +kernel
theorem dX12_init_17 : decode cX12_init 17 = .ok (.newarray .int, 2) := by decide +kernel
theorem dX12_init_19 : decode cX12_init 19 = .ok (.putfield 21, 3) := by decide +kernel
theorem dX12_init_22 : decode cX12_init 22 = .ok (.aload_n 0, 1) := by decide +kernel
theorem dX12_init_23 : decode cX12_init 23 = .ok (.aload_n 0, 1) := by decide +kernel
theorem dX12_init_24 : decode cX12_init 24 = .ok (.getfield 17, 3) := by decide +kernel
theorem dX12_init_27 : decode cX12_init 27 = .ok (.putfield 24, 3) := by decide +kernel
theorem dX12_init_30 : decode cX12_init 30 = .ok (.aload_n 0, 1) := by decide +kernel
theorem dX12_init_31 : decode cX12_init 31 = .ok (.bipush 8, 2) := by decide +kernel
theorem dX12_init_33 : decode cX12_init 33 = .ok (.newarray .long, 2) := by decide +kernel
theorem dX12_init_35 : decode cX12_init 35 = .ok (.putfield 27, 3) := by decide +kernel
theorem dX12_init_38 : decode cX12_init 38 = .ok (.aload_n 0, 1) := by decide +kernel
theorem dX12_init_39 : decode cX12_init 39 = .ok (.sipush 800, 3) := by decide +kernel
theorem dX12_init_42 : decode cX12_init 42 = .ok (.newarray .byte, 2) := by decide +kernel
theorem dX12_init_44 : decode cX12_init 44 = .ok (.putfield 31, 3) := by decide +kernel
theorem dX12_init_47 : decode cX12_init 47 = .ok (.aload_n 0, 1) := by decide +kernel
theorem dX12_init_48 : decode cX12_init 48 = .ok (.iconst (-1), 1) := by decide +kernel
theorem dX12_init_49 : decode cX12_init 49 = .ok (.putfield 35, 3) := by decide +kernel
theorem dX12_init_52 : decode cX12_init 52 = .ok (.aload_n 0, 1) := by decide +kernel
theorem dX12_init_53 : decode cX12_init 53 = .ok (.sipush 8262, 3) := by decide +kernel
theorem dX12_init_56 : decode cX12_init 56 = .ok (.newarray .int, 2) := by decide +kernel
theorem dX12_init_58 : decode cX12_init 58 = .ok (.putfield 38, 3) := by decide +kernel
theorem dX12_init_61 : decode cX12_init 61 = .ok (.aload_n 0, 1) := by decide +kernel
theorem dX12_init_62 : decode cX12_init 62 = .ok (.bipush 48, 2) := by decide +kernel
theorem dX12_init_64 : decode cX12_init 64 = .ok (.newarray .long, 2) := by decide +kernel
theorem dX12_init_66 : decode cX12_init 66 = .ok (.putfield 41, 3) := by decide +kernel
theorem dX12_init_69 : decode cX12_init 69 = .ok (.aload_n 0, 1) := by decide +kernel
theorem dX12_init_70 : decode cX12_init 70 = .ok (.sipush 3000, 3) := by decide +kernel
theorem dX12_init_73 : decode cX12_init 73 = .ok (.newarray .byte, 2) := by decide +kernel
theorem dX12_init_75 : decode cX12_init 75 = .ok (.putfield 44, 3) := by decide +kernel
theorem dX12_init_78 : decode cX12_init 78 = .ok (.aload_n 0, 1) := by decide +kernel
theorem dX12_init_79 : decode cX12_init 79 = .ok (.getfield 17, 3) := by decide +kernel
theorem dX12_init_82 : decode cX12_init 82 = .ok (.bipush 32, 2) := by decide +kernel
theorem dX12_init_84 : decode cX12_init 84 = .ok (.bipush 30, 2) := by decide +kernel
theorem dX12_init_86 : decode cX12_init 86 = .ok (.iastore, 1) := by decide +kernel
theorem dX12_init_87 : decode cX12_init 87 = .ok (.return_, 1) := by decide +kernel
theorem dX12_ofShip_0 : decode cX12_ofShip 0 = .ok (.aload_n 0, 1) := by decide +kernel
theorem dX12_ofShip_1 : decode cX12_ofShip 1 = .ok (.getfield 17, 3) := by decide +kernel
theorem dX12_ofShip_4 : decode cX12_ofShip 4 = .ok (.sipush 274, 3) := by decide +kernel
theorem dX12_ofShip_7 : decode cX12_ofShip 7 = .ok (.bipush 7, 2) := by decide +kernel
theorem dX12_ofShip_9 : decode cX12_ofShip 9 = .ok (.iload_n 1, 1) := by decide +kernel
theorem dX12_ofShip_10 : decode cX12_ofShip 10 = .ok (.imul, 1) := by decide +kernel
theorem dX12_ofShip_11 : decode cX12_ofShip 11 = .ok (.iadd, 1) := by decide +kernel
theorem dX12_ofShip_12 : decode cX12_ofShip 12 = .ok (.iload_n 2, 1) := by decide +kernel
theorem dX12_ofShip_13 : decode cX12_ofShip 13 = .ok (.iadd, 1) := by decide +kernel
theorem dX12_ofShip_14 : decode cX12_ofShip 14 = .ok (.iaload, 1) := by decide +kernel
theorem dX12_ofShip_15 : decode cX12_ofShip 15 = .ok (.ireturn, 1) := by decide +kernel
theorem dX12_ofCall_0 : decode cX12_ofCall 0 = .ok (.aload_n 0, 1) := by decide +kernel
theorem dX12_ofCall_1 : decode cX12_ofCall 1 = .ok (.getfield 17, 3) := by decide +kernel
theorem dX12_ofCall_4 : decode cX12_ofCall 4 = .ok (.sipush 330, 3) := by decide +kernel
theorem dX12_ofCall_7 : decode cX12_ofCall 7 = .ok (.bipush 7, 2) := by decide +kernel
theorem dX12_ofCall_9 : decode cX12_ofCall 9 = .ok (.iload_n 1, 1) := by decide +kernel
theorem dX12_ofCall_10 : decode cX12_ofCall 10 = .ok (.imul, 1) := by decide +kernel
theorem dX12_ofCall_11 : decode cX12_ofCall 11 = .ok (.iadd, 1) := by decide +kernel
theorem dX12_ofCall_12 : decode cX12_ofCall 12 = .ok (.iload_n 2, 1) := by decide +kernel
theorem dX12_ofCall_13 : decode cX12_ofCall 13 = .ok (.iadd, 1) := by decide +kernel
theorem dX12_ofCall_14 : decode cX12_ofCall 14 = .ok (.iaload, 1) := by decide +kernel
theorem dX12_ofCall_15 : decode cX12_ofCall 15 = .ok (.ireturn, 1) := by decide +kernel
theorem dX12_setCall_0 : decode cX12_setCall 0 = .ok (.aload_n 0, 1) := by decide +kernel
theorem dX12_setCall_1 : decode cX12_setCall 1 = .ok (.getfield 17, 3) := by decide +kernel
theorem dX12_setCall_4 : decode cX12_setCall 4 = .ok (.sipush 330, 3) := by decide +kernel
theorem dX12_setCall_7 : decode cX12_setCall 7 = .ok (.bipush 7, 2) := by decide +kernel
theorem dX12_setCall_9 : decode cX12_setCall 9 = .ok (.iload_n 1, 1) := by decide +kernel
theorem dX12_setCall_10 : decode cX12_setCall 10 = .ok (.imul, 1) := by decide +kernel
theorem dX12_setCall_11 : decode cX12_setCall 11 = .ok (.iadd, 1) := by decide +kernel
theorem dX12_setCall_12 : decode cX12_setCall 12 = .ok (.iload_n 2, 1) := by decide +kernel
theorem dX12_setCall_13 : decode cX12_setCall 13 = .ok (.iadd, 1) := by decide +kernel
theorem dX12_setCall_14 : decode cX12_setCall 14 = .ok (.iload_n 3, 1) := by decide +kernel
theorem dX12_setCall_15 : decode cX12_setCall 15 = .ok (.iastore, 1) := by decide +kernel
theorem dX12_setCall_16 : decode cX12_setCall 16 = .ok (.return_, 1) := by decide +kernel
theorem dX12_ofInvoice_0 : decode cX12_ofInvoice 0 = .ok (.aload_n 0, 1) := by decide +kernel
theorem dX12_ofInvoice_1 : decode cX12_ofInvoice 1 = .ok (.getfield 17, 3) := by decide +kernel
theorem dX12_ofInvoice_4 : decode cX12_ofInvoice 4 = .ok (.sipush 617, 3) := by decide +kernel
theorem dX12_ofInvoice_7 : decode cX12_ofInvoice 7 = .ok (.bipush 10, 2) := by decide +kernel
theorem dX12_ofInvoice_9 : decode cX12_ofInvoice 9 = .ok (.iload_n 1, 1) := by decide +kernel
theorem dX12_ofInvoice_10 : decode cX12_ofInvoice 10 = .ok (.imul, 1) := by decide +kernel
theorem dX12_ofInvoice_11 : decode cX12_ofInvoice 11 = .ok (.iadd, 1) := by decide +kernel
theorem dX12_ofInvoice_12 : decode cX12_ofInvoice 12 = .ok (.iload_n 2, 1) := by decide +kernel
theorem dX12_ofInvoice_13 : decode cX12_ofInvoice 13 = .ok (.iadd, 1) := by decide +kernel
theorem dX12_ofInvoice_14 : decode cX12_ofInvoice 14 = .ok (.iaload, 1) := by decide +kernel
theorem dX12_ofInvoice_15 : decode cX12_ofInvoice 15 = .ok (.ireturn, 1) := by decide +kernel
theorem dX12_ofVersion_0 : decode cX12_ofVersion 0 = .ok (.aload_n 0, 1) := by decide +kernel
theorem dX12_ofVersion_1 : decode cX12_ofVersion 1 = .ok (.getfield 17, 3) := by decide +kernel
theorem dX12_ofVersion_4 : decode cX12_ofVersion 4 = .ok (.bipush 22, 2) := by decide +kernel
theorem dX12_ofVersion_6 : decode cX12_ofVersion 6 = .ok (.bipush 12, 2) := by decide +kernel
theorem dX12_ofVersion_8 : decode cX12_ofVersion 8 = .ok (.iload_n 1, 1) := by decide +kernel
theorem dX12_ofVersion_9 : decode cX12_ofVersion 9 = .ok (.imul, 1) := by decide +kernel
theorem dX12_ofVersion_10 : decode cX12_ofVersion 10 = .ok (.iadd, 1) := by decide +kernel
theorem dX12_ofVersion_11 : decode cX12_ofVersion 11 = .ok (.iload_n 2, 1) := by decide +kernel
theorem dX12_ofVersion_12 : decode cX12_ofVersion 12 = .ok (.iadd, 1) := by decide +kernel
theorem dX12_ofVersion_13 : decode cX12_ofVersion 13 = .ok (.iaload, 1) := by decide +kernel
theorem dX12_ofVersion_14 : decode cX12_ofVersion 14 = .ok (.ireturn, 1) := by decide +kernel
theorem dX12_version_0 : decode cX12_version 0 = .ok (.aload_n 0, 1) := by decide +kernel
theorem dX12_version_1 : decode cX12_version 1 = .ok (.getfield 17, 3) := by decide +kernel
theorem dX12_version_4 : decode cX12_version 4 = .ok (.iconst 4, 1) := by decide +kernel
theorem dX12_version_5 : decode cX12_version 5 = .ok (.iaload, 1) := by decide +kernel
theorem dX12_version_6 : decode cX12_version 6 = .ok (.ireturn, 1) := by decide +kernel
theorem dX12_isShip_0 : decode cX12_isShip 0 = .ok (.iload_n 1, 1) := by decide +kernel
theorem dX12_isShip_1 : decode cX12_isShip 1 = .ok (.i2l, 1) := by decide +kernel
theorem dX12_isShip_2 : decode cX12_isShip 2 = .ok (.lconst 0, 1) := by decide +kernel
theorem dX12_isShip_3 : decode cX12_isShip 3 = .ok (.aload_n 0, 1) := by decide +kernel
theorem dX12_isShip_4 : decode cX12_isShip 4 = .ok (.getfield 17, 3) := by decide +kernel
theorem dX12_isShip_7 : decode cX12_isShip 7 = .ok (.iconst 0, 1) := by decide +kernel
theorem dX12_isShip_8 : decode cX12_isShip 8 = .ok (.iaload, 1) := by decide +kernel
theorem dX12_isShip_9 : decode cX12_isShip 9 = .ok (.iconst 1, 1) := by decide +kernel
theorem dX12_isShip_10 : decode cX12_isShip 10 = .ok (.isub, 1) := by decide +kernel
theorem dX12_isShip_11 : decode cX12_isShip 11 = .ok (.i2l, 1) := by decide +kernel
theorem dX12_isShip_12 : decode cX12_isShip 12 = .ok (.invokestatic 47, 3) := by decide +kernel
theorem dX12_isShip_15 : decode cX12_isShip 15 = .ok (.ireturn, 1) := by decide +kernel
theorem dX12_isCall_0 : decode cX12_isCall 0 = .ok (.iload_n 1, 1) := by decide +kernel
theorem dX12_isCall_1 : decode cX12_isCall 1 = .ok (.i2l, 1) := by decide +kernel
theorem dX12_isCall_2 : decode cX12_isCall 2 = .ok (.lconst 0, 1) := by decide +kernel
theorem dX12_isCall_3 : decode cX12_isCall 3 = .ok (.aload_n 0, 1) := by decide +kernel
theorem dX12_isCall_4 : decode cX12_isCall 4 = .ok (.getfield 17, 3) := by decide +kernel
theorem dX12_isCall_7 : decode cX12_isCall 7 = .ok (.iconst 1, 1) := by decide +kernel
theorem dX12_isCall_8 : decode cX12_isCall 8 = .ok (.iaload, 1) := by decide +kernel
theorem dX12_isCall_9 : decode cX12_isCall 9 = .ok (.iconst 1, 1) := by decide +kernel
theorem dX12_isCall_10 : decode cX12_isCall 10 = .ok (.isub, 1) := by decide +kernel
theorem dX12_isCall_11 : decode cX12_isCall 11 = .ok (.i2l, 1) := by decide +kernel
theorem dX12_isCall_12 : decode cX12_isCall 12 = .ok (.invokestatic 47, 3) := by decide +kernel
theorem dX12_isCall_15 : decode cX12_isCall 15 = .ok (.ireturn, 1) := by decide +kernel
theorem dX12_isInvoice_0 : decode cX12_isInvoice 0 = .ok (.iload_n 1, 1) := by decide +kernel
theorem dX12_isInvoice_1 : decode cX12_isInvoice 1 = .ok (.i2l, 1) := by decide +kernel
theorem dX12_isInvoice_2 : decode cX12_isInvoice 2 = .ok (.lconst 0, 1) := by decide +kernel
theorem dX12_isInvoice_3 : decode cX12_isInvoice 3 = .ok (.aload_n 0, 1) := by decide +kernel
theorem dX12_isInvoice_4 : decode cX12_isInvoice 4 = .ok (.getfield 17, 3) := by decide +kernel
theorem dX12_isInvoice_7 : decode cX12_isInvoice 7 = .ok (.iconst 2, 1) := by decide +kernel
theorem dX12_isInvoice_8 : decode cX12_isInvoice 8 = .ok (.iaload, 1) := by decide +kernel
theorem dX12_isInvoice_9 : decode cX12_isInvoice 9 = .ok (.iconst 1, 1) := by decide +kernel
theorem dX12_isInvoice_10 : decode cX12_isInvoice 10 = .ok (.isub, 1) := by decide +kernel
theorem dX12_isInvoice_11 : decode cX12_isInvoice 11 = .ok (.i2l, 1) := by decide +kernel
theorem dX12_isInvoice_12 : decode cX12_isInvoice 12 = .ok (.invokestatic 47, 3) := by decide +kernel
theorem dX12_isInvoice_15 : decode cX12_isInvoice 15 = .ok (.ireturn, 1) := by decide +kernel
theorem dX12_isBand_0 : decode cX12_isBand 0 = .ok (.iload_n 1, 1) := by decide +kernel
theorem dX12_isBand_1 : decode cX12_isBand 1 = .ok (.i2l, 1) := by decide +kernel
theorem dX12_isBand_2 : decode cX12_isBand 2 = .ok (.lconst 0, 1) := by decide +kernel
theorem dX12_isBand_3 : decode cX12_isBand 3 = .ok (.aload_n 0, 1) := by decide +kernel
theorem dX12_isBand_4 : decode cX12_isBand 4 = .ok (.getfield 17, 3) := by decide +kernel
theorem dX12_isBand_7 : decode cX12_isBand 7 = .ok (.bipush 6, 2) := by decide +kernel
theorem dX12_isBand_9 : decode cX12_isBand 9 = .ok (.iaload, 1) := by decide +kernel
theorem dX12_isBand_10 : decode cX12_isBand 10 = .ok (.iconst 1, 1) := by decide +kernel
theorem dX12_isBand_11 : decode cX12_isBand 11 = .ok (.isub, 1) := by decide +kernel
theorem dX12_isBand_12 : decode cX12_isBand 12 = .ok (.i2l, 1) := by decide +kernel
theorem dX12_isBand_13 : decode cX12_isBand 13 = .ok (.invokestatic 47, 3) := by decide +kernel
theorem dX12_isBand_16 : decode cX12_isBand 16 = .ok (.ireturn, 1) := by decide +kernel
theorem dX12_isRebate_0 : decode cX12_isRebate 0 = .ok (.iload_n 1, 1) := by decide +kernel
theorem dX12_isRebate_1 : decode cX12_isRebate 1 = .ok (.i2l, 1) := by decide +kernel
theorem dX12_isRebate_2 : decode cX12_isRebate 2 = .ok (.lconst 0, 1) := by decide +kernel
theorem dX12_isRebate_3 : decode cX12_isRebate 3 = .ok (.aload_n 0, 1) := by decide +kernel
theorem dX12_isRebate_4 : decode cX12_isRebate 4 = .ok (.getfield 17, 3) := by decide +kernel
theorem dX12_isRebate_7 : decode cX12_isRebate 7 = .ok (.bipush 7, 2) := by decide +kernel
theorem dX12_isRebate_9 : decode cX12_isRebate 9 = .ok (.iaload, 1) := by decide +kernel
theorem dX12_isRebate_10 : decode cX12_isRebate 10 = .ok (.iconst 1, 1) := by decide +kernel
theorem dX12_isRebate_11 : decode cX12_isRebate 11 = .ok (.isub, 1) := by decide +kernel
theorem dX12_isRebate_12 : decode cX12_isRebate 12 = .ok (.i2l, 1) := by decide +kernel
theorem dX12_isRebate_13 : decode cX12_isRebate 13 = .ok (.invokestatic 47, 3) := by decide +kernel
theorem dX12_isRebate_16 : decode cX12_isRebate 16 = .ok (.ireturn, 1) := by decide +kernel
theorem dX12_isTons_0 : decode cX12_isTons 0 = .ok (.iload_n 0, 1) := by decide +kernel
theorem dX12_isTons_1 : decode cX12_isTons 1 = .ok (.i2l, 1) := by decide +kernel
theorem dX12_isTons_2 : decode cX12_isTons 2 = .ok (.lconst 0, 1) := by decide +kernel
theorem dX12_isTons_3 : decode cX12_isTons 3 = .ok (.ldc2_w 51, 3) := by decide +kernel
theorem dX12_isTons_6 : decode cX12_isTons 6 = .ok (.invokestatic 47, 3) := by decide +kernel
theorem dX12_isTons_9 : decode cX12_isTons 9 = .ok (.ireturn, 1) := by decide +kernel
theorem dX12_isWaste_0 : decode cX12_isWaste 0 = .ok (.iload_n 0, 1) := by decide +kernel
theorem dX12_isWaste_1 : decode cX12_isWaste 1 = .ok (.i2l, 1) := by decide +kernel
theorem dX12_isWaste_2 : decode cX12_isWaste 2 = .ok (.lconst 0, 1) := by decide +kernel
theorem dX12_isWaste_3 : decode cX12_isWaste 3 = .ok (.ldc2_w 53, 3) := by decide +kernel
theorem dX12_isWaste_6 : decode cX12_isWaste 6 = .ok (.invokestatic 47, 3) := by decide +kernel
theorem dX12_isWaste_9 : decode cX12_isWaste 9 = .ok (.ireturn, 1) := by decide +kernel
theorem dX12_isYear_0 : decode cX12_isYear 0 = .ok (.iload_n 0, 1) := by decide +kernel
theorem dX12_isYear_1 : decode cX12_isYear 1 = .ok (.i2l, 1) := by decide +kernel
theorem dX12_isYear_2 : decode cX12_isYear 2 = .ok (.lconst 0, 1) := by decide +kernel
theorem dX12_isYear_3 : decode cX12_isYear 3 = .ok (.ldc2_w 55, 3) := by decide +kernel
theorem dX12_isYear_6 : decode cX12_isYear 6 = .ok (.invokestatic 47, 3) := by decide +kernel
theorem dX12_isYear_9 : decode cX12_isYear 9 = .ok (.ireturn, 1) := by decide +kernel
theorem dX12_isLine_0 : decode cX12_isLine 0 = .ok (.iload_n 0, 1) := by decide +kernel
theorem dX12_isLine_1 : decode cX12_isLine 1 = .ok (.i2l, 1) := by decide +kernel
theorem dX12_isLine_2 : decode cX12_isLine 2 = .ok (.lconst 0, 1) := by decide +kernel
theorem dX12_isLine_3 : decode cX12_isLine 3 = .ok (.ldc2_w 57, 3) := by decide +kernel
theorem dX12_isLine_6 : decode cX12_isLine 6 = .ok (.invokestatic 47, 3) := by decide +kernel
theorem dX12_isLine_9 : decode cX12_isLine 9 = .ok (.ireturn, 1) := by decide +kernel
theorem dX12_appendFour_0 : decode cX12_appendFour 0 = .ok (.bipush 24, 2) := by decide +kernel
theorem dX12_appendFour_2 : decode cX12_appendFour 2 = .ok (.istore_n 2, 1) := by decide +kernel
theorem dX12_appendFour_3 : decode cX12_appendFour 3 = .ok (.iload_n 2, 1) := by decide +kernel
theorem dX12_appendFour_4 : decode cX12_appendFour 4 = .ok (.ifCond .lt 32, 3) := by decide +kernel
theorem dX12_appendFour_7 : decode cX12_appendFour 7 = .ok (.aload_n 0, 1) := by decide +kernel
theorem dX12_appendFour_8 : decode cX12_appendFour 8 = .ok (.getfield 31, 3) := by decide +kernel
theorem dX12_appendFour_11 : decode cX12_appendFour 11 = .ok (.aload_n 0, 1) := by decide +kernel
theorem dX12_appendFour_12 : decode cX12_appendFour 12 = .ok (.getfield 59, 3) := by decide +kernel
theorem dX12_appendFour_15 : decode cX12_appendFour 15 = .ok (.iload_n 1, 1) := by decide +kernel
theorem dX12_appendFour_16 : decode cX12_appendFour 16 = .ok (.iload_n 2, 1) := by decide +kernel
theorem dX12_appendFour_17 : decode cX12_appendFour 17 = .ok (.ishr, 1) := by decide +kernel
theorem dX12_appendFour_18 : decode cX12_appendFour 18 = .ok (.i2b, 1) := by decide +kernel
theorem dX12_appendFour_19 : decode cX12_appendFour 19 = .ok (.bastore, 1) := by decide +kernel
theorem dX12_appendFour_20 : decode cX12_appendFour 20 = .ok (.aload_n 0, 1) := by decide +kernel
theorem dX12_appendFour_21 : decode cX12_appendFour 21 = .ok (.dup, 1) := by decide +kernel
theorem dX12_appendFour_22 : decode cX12_appendFour 22 = .ok (.getfield 59, 3) := by decide +kernel
theorem dX12_appendFour_25 : decode cX12_appendFour 25 = .ok (.iconst 1, 1) := by decide +kernel
theorem dX12_appendFour_26 : decode cX12_appendFour 26 = .ok (.iadd, 1) := by decide +kernel
theorem dX12_appendFour_27 : decode cX12_appendFour 27 = .ok (.putfield 59, 3) := by decide +kernel
theorem dX12_appendFour_30 : decode cX12_appendFour 30 = .ok (.iinc 2 (-8), 3) := by decide +kernel
theorem dX12_appendFour_33 : decode cX12_appendFour 33 = .ok (.goto (-30), 3) := by decide +kernel
theorem dX12_appendFour_36 : decode cX12_appendFour 36 = .ok (.return_, 1) := by decide +kernel
theorem dX12_append_0 : decode cX12_append 0 = .ok (.aload_n 0, 1) := by decide +kernel
theorem dX12_append_1 : decode cX12_append 1 = .ok (.aload_n 0, 1) := by decide +kernel
theorem dX12_append_2 : decode cX12_append 2 = .ok (.getfield 59, 3) := by decide +kernel
theorem dX12_append_5 : decode cX12_append 5 = .ok (.bipush 20, 2) := by decide +kernel
theorem dX12_append_7 : decode cX12_append 7 = .ok (.iadd, 1) := by decide +kernel
theorem dX12_append_8 : decode cX12_append 8 = .ok (.sipush 800, 3) := by decide +kernel
theorem dX12_append_11 : decode cX12_append 11 = .ok (.if_icmp .gt 7, 3) := by decide +kernel
theorem dX12_append_14 : decode cX12_append 14 = .ok (.iconst 1, 1) := by decide +kernel
theorem dX12_append_15 : decode cX12_append 15 = .ok (.goto 4, 3) := by decide +kernel
theorem dX12_append_18 : decode cX12_append 18 = .ok (.iconst 0, 1) := by decide +kernel
theorem dX12_append_19 : decode cX12_append 19 = .ok (.invokevirtual 62, 3) := by decide +kernel
theorem dX12_append_22 : decode cX12_append 22 = .ok (.ifCond .ne 5, 3) := by decide +kernel
theorem dX12_append_25 : decode cX12_append 25 = .ok (.iconst 0, 1) := by decide +kernel
theorem dX12_append_26 : decode cX12_append 26 = .ok (.ireturn, 1) := by decide +kernel
theorem dX12_append_27 : decode cX12_append 27 = .ok (.aload_n 0, 1) := by decide +kernel
theorem dX12_append_28 : decode cX12_append 28 = .ok (.iload_n 1, 1) := by decide +kernel
theorem dX12_append_29 : decode cX12_append 29 = .ok (.invokevirtual 66, 3) := by decide +kernel
theorem dX12_append_32 : decode cX12_append 32 = .ok (.aload_n 0, 1) := by decide +kernel
theorem dX12_append_33 : decode cX12_append 33 = .ok (.iload_n 2, 1) := by decide +kernel
theorem dX12_append_34 : decode cX12_append 34 = .ok (.invokevirtual 66, 3) := by decide +kernel
theorem dX12_append_37 : decode cX12_append 37 = .ok (.aload_n 0, 1) := by decide +kernel
theorem dX12_append_38 : decode cX12_append 38 = .ok (.iload_n 3, 1) := by decide +kernel
theorem dX12_append_39 : decode cX12_append 39 = .ok (.invokevirtual 66, 3) := by decide +kernel
theorem dX12_append_42 : decode cX12_append 42 = .ok (.aload_n 0, 1) := by decide +kernel
theorem dX12_append_43 : decode cX12_append 43 = .ok (.iload 4, 2) := by decide +kernel
theorem dX12_append_45 : decode cX12_append 45 = .ok (.invokevirtual 66, 3) := by decide +kernel
theorem dX12_append_48 : decode cX12_append 48 = .ok (.aload_n 0, 1) := by decide +kernel
theorem dX12_append_49 : decode cX12_append 49 = .ok (.iload 5, 2) := by decide +kernel
theorem dX12_append_51 : decode cX12_append 51 = .ok (.invokevirtual 66, 3) := by decide +kernel
theorem dX12_append_54 : decode cX12_append 54 = .ok (.aload_n 0, 1) := by decide +kernel
theorem dX12_append_55 : decode cX12_append 55 = .ok (.getfield 59, 3) := by decide +kernel
theorem dX12_append_58 : decode cX12_append 58 = .ok (.ireturn, 1) := by decide +kernel
theorem dX12_truncate_0 : decode cX12_truncate 0 = .ok (.aload_n 0, 1) := by decide +kernel
theorem dX12_truncate_1 : decode cX12_truncate 1 = .ok (.iload_n 1, 1) := by decide +kernel
theorem dX12_truncate_2 : decode cX12_truncate 2 = .ok (.i2l, 1) := by decide +kernel
theorem dX12_truncate_3 : decode cX12_truncate 3 = .ok (.lconst 0, 1) := by decide +kernel
theorem dX12_truncate_4 : decode cX12_truncate 4 = .ok (.aload_n 0, 1) := by decide +kernel
theorem dX12_truncate_5 : decode cX12_truncate 5 = .ok (.getfield 59, 3) := by decide +kernel
theorem dX12_truncate_8 : decode cX12_truncate 8 = .ok (.i2l, 1) := by decide +kernel
theorem dX12_truncate_9 : decode cX12_truncate 9 = .ok (.invokestatic 47, 3) := by decide +kernel
theorem dX12_truncate_12 : decode cX12_truncate 12 = .ok (.invokevirtual 62, 3) := by decide +kernel
theorem dX12_truncate_15 : decode cX12_truncate 15 = .ok (.ifCond .eq 8, 3) := by decide +kernel
theorem dX12_truncate_18 : decode cX12_truncate 18 = .ok (.aload_n 0, 1) := by decide +kernel
theorem dX12_truncate_19 : decode cX12_truncate 19 = .ok (.iload_n 1, 1) := by decide +kernel
theorem dX12_truncate_20 : decode cX12_truncate 20 = .ok (.putfield 59, 3) := by decide +kernel
theorem dX12_truncate_23 : decode cX12_truncate 23 = .ok (.return_, 1) := by decide +kernel
theorem dX12_good_0 : decode cX12_good 0 = .ok (.aload_n 0, 1) := by decide +kernel
theorem dX12_good_1 : decode cX12_good 1 = .ok (.getfield 70, 3) := by decide +kernel
theorem dX12_good_4 : decode cX12_good 4 = .ok (.ifCond .ne 7, 3) := by decide +kernel
theorem dX12_good_7 : decode cX12_good 7 = .ok (.iconst 1, 1) := by decide +kernel
theorem dX12_good_8 : decode cX12_good 8 = .ok (.goto 4, 3) := by decide +kernel
theorem dX12_good_11 : decode cX12_good 11 = .ok (.iconst 0, 1) := by decide +kernel
theorem dX12_good_12 : decode cX12_good 12 = .ok (.ireturn, 1) := by decide +kernel
theorem dX12_errs_0 : decode cX12_errs 0 = .ok (.aload_n 0, 1) := by decide +kernel
theorem dX12_errs_1 : decode cX12_errs 1 = .ok (.invokevirtual 73, 3) := by decide +kernel
theorem dX12_errs_4 : decode cX12_errs 4 = .ok (.ifCond .ne 4, 3) := by decide +kernel
theorem dX12_errs_7 : decode cX12_errs 7 = .ok (.return_, 1) := by decide +kernel
theorem dX12_errs_8 : decode cX12_errs 8 = .ok (.aload_n 0, 1) := by decide +kernel
theorem dX12_errs_9 : decode cX12_errs 9 = .ok (.iload_n 1, 1) := by decide +kernel
theorem dX12_errs_10 : decode cX12_errs 10 = .ok (.putfield 70, 3) := by decide +kernel
theorem dX12_errs_13 : decode cX12_errs 13 = .ok (.aload_n 0, 1) := by decide +kernel
theorem dX12_errs_14 : decode cX12_errs 14 = .ok (.aload_n 0, 1) := by decide +kernel
theorem dX12_errs_15 : decode cX12_errs 15 = .ok (.getfield 77, 3) := by decide +kernel
theorem dX12_errs_18 : decode cX12_errs 18 = .ok (.putfield 35, 3) := by decide +kernel
theorem dX12_errs_21 : decode cX12_errs 21 = .ok (.return_, 1) := by decide +kernel
theorem dX12_byteAt_0 : decode cX12_byteAt 0 = .ok (.iload_n 1, 1) := by decide +kernel
theorem dX12_byteAt_1 : decode cX12_byteAt 1 = .ok (.aload_n 0, 1) := by decide +kernel
theorem dX12_byteAt_2 : decode cX12_byteAt 2 = .ok (.getfield 80, 3) := by decide +kernel
theorem dX12_byteAt_5 : decode cX12_byteAt 5 = .ok (.if_icmp .ge 16, 3) := by decide +kernel
theorem dX12_byteAt_8 : decode cX12_byteAt 8 = .ok (.aload_n 0, 1) := by decide +kernel
theorem dX12_byteAt_9 : decode cX12_byteAt 9 = .ok (.getfield 31, 3) := by decide +kernel
theorem dX12_byteAt_12 : decode cX12_byteAt 12 = .ok (.iload_n 1, 1) := by decide +kernel
theorem dX12_byteAt_13 : decode cX12_byteAt 13 = .ok (.baload, 1) := by decide +kernel
theorem dX12_byteAt_14 : decode cX12_byteAt 14 = .ok (.sipush 255, 3) := by decide +kernel
theorem dX12_byteAt_17 : decode cX12_byteAt 17 = .ok (.iand, 1) := by decide +kernel
theorem dX12_byteAt_18 : decode cX12_byteAt 18 = .ok (.goto 4, 3) := by decide +kernel
theorem dX12_byteAt_21 : decode cX12_byteAt 21 = .ok (.iconst (-1), 1) := by decide +kernel
theorem dX12_byteAt_22 : decode cX12_byteAt 22 = .ok (.ireturn, 1) := by decide +kernel
theorem dX12_scan_0 : decode cX12_scan 0 = .ok (.aload_n 0, 1) := by decide +kernel
theorem dX12_scan_1 : decode cX12_scan 1 = .ok (.aload_n 0, 1) := by decide +kernel
theorem dX12_scan_2 : decode cX12_scan 2 = .ok (.getfield 83, 3) := by decide +kernel
theorem dX12_scan_5 : decode cX12_scan 5 = .ok (.invokevirtual 86, 3) := by decide +kernel
theorem dX12_scan_8 : decode cX12_scan 8 = .ok (.bipush 32, 2) := by decide +kernel
theorem dX12_scan_10 : decode cX12_scan 10 = .ok (.if_icmp .eq 16, 3) := by decide +kernel
theorem dX12_scan_13 : decode cX12_scan 13 = .ok (.aload_n 0, 1) := by decide +kernel
theorem dX12_scan_14 : decode cX12_scan 14 = .ok (.aload_n 0, 1) := by decide +kernel
theorem dX12_scan_15 : decode cX12_scan 15 = .ok (.getfield 83, 3) := by decide +kernel
theorem dX12_scan_18 : decode cX12_scan 18 = .ok (.invokevirtual 86, 3) := by decide +kernel
theorem dX12_scan_21 : decode cX12_scan 21 = .ok (.bipush 10, 2) := by decide +kernel
theorem dX12_scan_23 : decode cX12_scan 23 = .ok (.if_icmp .ne 16, 3) := by decide +kernel
theorem dX12_scan_26 : decode cX12_scan 26 = .ok (.aload_n 0, 1) := by decide +kernel
theorem dX12_scan_27 : decode cX12_scan 27 = .ok (.dup, 1) := by decide +kernel
theorem dX12_scan_28 : decode cX12_scan 28 = .ok (.getfield 83, 3) := by decide +kernel
theorem dX12_scan_31 : decode cX12_scan 31 = .ok (.iconst 1, 1) := by decide +kernel
theorem dX12_scan_32 : decode cX12_scan 32 = .ok (.iadd, 1) := by decide +kernel
theorem dX12_scan_33 : decode cX12_scan 33 = .ok (.putfield 83, 3) := by decide +kernel
theorem dX12_scan_36 : decode cX12_scan 36 = .ok (.goto (-36), 3) := by decide +kernel
theorem dX12_scan_39 : decode cX12_scan 39 = .ok (.aload_n 0, 1) := by decide +kernel
theorem dX12_scan_40 : decode cX12_scan 40 = .ok (.aload_n 0, 1) := by decide +kernel
theorem dX12_scan_41 : decode cX12_scan 41 = .ok (.getfield 83, 3) := by decide +kernel
theorem dX12_scan_44 : decode cX12_scan 44 = .ok (.putfield 77, 3) := by decide +kernel
theorem dX12_scan_47 : decode cX12_scan 47 = .ok (.aload_n 0, 1) := by decide +kernel
theorem dX12_scan_48 : decode cX12_scan 48 = .ok (.aload_n 0, 1) := by decide +kernel
theorem dX12_scan_49 : decode cX12_scan 49 = .ok (.getfield 83, 3) := by decide +kernel
theorem dX12_scan_52 : decode cX12_scan 52 = .ok (.invokevirtual 86, 3) := by decide +kernel
theorem dX12_scan_55 : decode cX12_scan 55 = .ok (.istore_n 1, 1) := by decide +kernel
theorem dX12_scan_56 : decode cX12_scan 56 = .ok (.iload_n 1, 1) := by decide +kernel
theorem dX12_scan_57 : decode cX12_scan 57 = .ok (.iconst (-1), 1) := by decide +kernel
theorem dX12_scan_58 : decode cX12_scan 58 = .ok (.if_icmp .ne 11, 3) := by decide +kernel
theorem dX12_scan_61 : decode cX12_scan 61 = .ok (.aload_n 0, 1) := by decide +kernel
theorem dX12_scan_62 : decode cX12_scan 62 = .ok (.iconst 0, 1) := by decide +kernel
theorem dX12_scan_63 : decode cX12_scan 63 = .ok (.putfield 90, 3) := by decide +kernel
theorem dX12_scan_66 : decode cX12_scan 66 = .ok (.goto 168, 3) := by decide +kernel
theorem dX12_scan_69 : decode cX12_scan 69 = .ok (.iload_n 1, 1) := by decide +kernel
theorem dX12_scan_70 : decode cX12_scan 70 = .ok (.i2l, 1) := by decide +kernel
theorem dX12_scan_71 : decode cX12_scan 71 = .ok (.ldc2_w 93, 3) := by decide +kernel
theorem dX12_scan_74 : decode cX12_scan 74 = .ok (.ldc2_w 95, 3) := by decide +kernel
theorem dX12_scan_77 : decode cX12_scan 77 = .ok (.invokestatic 47, 3) := by decide +kernel
theorem dX12_scan_80 : decode cX12_scan 80 = .ok (.ifCond .eq 45, 3) := by decide +kernel
theorem dX12_scan_83 : decode cX12_scan 83 = .ok (.aload_n 0, 1) := by decide +kernel
theorem dX12_scan_84 : decode cX12_scan 84 = .ok (.aload_n 0, 1) := by decide +kernel
theorem dX12_scan_85 : decode cX12_scan 85 = .ok (.getfield 83, 3) := by decide +kernel
theorem dX12_scan_88 : decode cX12_scan 88 = .ok (.invokevirtual 86, 3) := by decide +kernel
theorem dX12_scan_91 : decode cX12_scan 91 = .ok (.i2l, 1) := by decide +kernel
theorem dX12_scan_92 : decode cX12_scan 92 = .ok (.ldc2_w 93, 3) := by decide +kernel
theorem dX12_scan_95 : decode cX12_scan 95 = .ok (.ldc2_w 95, 3) := by decide +kernel
theorem dX12_scan_98 : decode cX12_scan 98 = .ok (.invokestatic 47, 3) := by decide +kernel
theorem dX12_scan_101 : decode cX12_scan 101 = .ok (.ifCond .eq 16, 3) := by decide +kernel
theorem dX12_scan_104 : decode cX12_scan 104 = .ok (.aload_n 0, 1) := by decide +kernel
theorem dX12_scan_105 : decode cX12_scan 105 = .ok (.dup, 1) := by decide +kernel
theorem dX12_scan_106 : decode cX12_scan 106 = .ok (.getfield 83, 3) := by decide +kernel
theorem dX12_scan_109 : decode cX12_scan 109 = .ok (.iconst 1, 1) := by decide +kernel
theorem dX12_scan_110 : decode cX12_scan 110 = .ok (.iadd, 1) := by decide +kernel
theorem dX12_scan_111 : decode cX12_scan 111 = .ok (.putfield 83, 3) := by decide +kernel
theorem dX12_scan_114 : decode cX12_scan 114 = .ok (.goto (-31), 3) := by decide +kernel
theorem dX12_scan_117 : decode cX12_scan 117 = .ok (.aload_n 0, 1) := by decide +kernel
theorem dX12_scan_118 : decode cX12_scan 118 = .ok (.iconst 1, 1) := by decide +kernel
theorem dX12_scan_119 : decode cX12_scan 119 = .ok (.putfield 90, 3) := by decide +kernel
theorem dX12_scan_122 : decode cX12_scan 122 = .ok (.goto 112, 3) := by decide +kernel
theorem dX12_scan_125 : decode cX12_scan 125 = .ok (.iload_n 1, 1) := by decide +kernel
theorem dX12_scan_126 : decode cX12_scan 126 = .ok (.i2l, 1) := by decide +kernel
theorem dX12_scan_127 : decode cX12_scan 127 = .ok (.ldc2_w 97, 3) := by decide +kernel
theorem dX12_scan_130 : decode cX12_scan 130 = .ok (.ldc2_w 99, 3) := by decide +kernel
theorem dX12_scan_133 : decode cX12_scan 133 = .ok (.invokestatic 47, 3) := by decide +kernel
theorem dX12_scan_136 : decode cX12_scan 136 = .ok (.ifCond .eq 78, 3) := by decide +kernel
theorem dX12_scan_139 : decode cX12_scan 139 = .ok (.aload_n 0, 1) := by decide +kernel
theorem dX12_scan_140 : decode cX12_scan 140 = .ok (.iconst 0, 1) := by decide +kernel
theorem dX12_scan_141 : decode cX12_scan 141 = .ok (.putfield 101, 3) := by decide +kernel
theorem dX12_scan_144 : decode cX12_scan 144 = .ok (.aload_n 0, 1) := by decide +kernel
theorem dX12_scan_145 : decode cX12_scan 145 = .ok (.aload_n 0, 1) := by decide +kernel
theorem dX12_scan_146 : decode cX12_scan 146 = .ok (.getfield 83, 3) := by decide +kernel
theorem dX12_scan_149 : decode cX12_scan 149 = .ok (.invokevirtual 86, 3) := by decide +kernel
theorem dX12_scan_152 : decode cX12_scan 152 = .ok (.i2l, 1) := by decide +kernel
theorem dX12_scan_153 : decode cX12_scan 153 = .ok (.ldc2_w 97, 3) := by decide +kernel
theorem dX12_scan_156 : decode cX12_scan 156 = .ok (.ldc2_w 99, 3) := by decide +kernel
theorem dX12_scan_159 : decode cX12_scan 159 = .ok (.invokestatic 47, 3) := by decide +kernel
theorem dX12_scan_162 : decode cX12_scan 162 = .ok (.ifCond .eq 44, 3) := by decide +kernel
theorem dX12_scan_165 : decode cX12_scan 165 = .ok (.aload_n 0, 1) := by decide +kernel
theorem dX12_scan_166 : decode cX12_scan 166 = .ok (.ldc 104, 2) := by decide +kernel
theorem dX12_scan_168 : decode cX12_scan 168 = .ok (.bipush 10, 2) := by decide +kernel
theorem dX12_scan_170 : decode cX12_scan 170 = .ok (.aload_n 0, 1) := by decide +kernel
theorem dX12_scan_171 : decode cX12_scan 171 = .ok (.getfield 101, 3) := by decide +kernel
theorem dX12_scan_174 : decode cX12_scan 174 = .ok (.imul, 1) := by decide +kernel
theorem dX12_scan_175 : decode cX12_scan 175 = .ok (.aload_n 0, 1) := by decide +kernel
theorem dX12_scan_176 : decode cX12_scan 176 = .ok (.aload_n 0, 1) := by decide +kernel
theorem dX12_scan_177 : decode cX12_scan 177 = .ok (.getfield 83, 3) := by decide +kernel
theorem dX12_scan_180 : decode cX12_scan 180 = .ok (.invokevirtual 86, 3) := by decide +kernel
theorem dX12_scan_183 : decode cX12_scan 183 = .ok (.iadd, 1) := by decide +kernel
theorem dX12_scan_184 : decode cX12_scan 184 = .ok (.bipush 48, 2) := by decide +kernel
theorem dX12_scan_186 : decode cX12_scan 186 = .ok (.isub, 1) := by decide +kernel
theorem dX12_scan_187 : decode cX12_scan 187 = .ok (.invokestatic 105, 3) := by decide +kernel
theorem dX12_scan_190 : decode cX12_scan 190 = .ok (.putfield 101, 3) := by decide +kernel
theorem dX12_scan_193 : decode cX12_scan 193 = .ok (.aload_n 0, 1) := by decide +kernel
theorem dX12_scan_194 : decode cX12_scan 194 = .ok (.dup, 1) := by decide +kernel
theorem dX12_scan_195 : decode cX12_scan 195 = .ok (.getfield 83, 3) := by decide +kernel
theorem dX12_scan_198 : decode cX12_scan 198 = .ok (.iconst 1, 1) := by decide +kernel
theorem dX12_scan_199 : decode cX12_scan 199 = .ok (.iadd, 1) := by decide +kernel
theorem dX12_scan_200 : decode cX12_scan 200 = .ok (.putfield 83, 3) := by decide +kernel
theorem dX12_scan_203 : decode cX12_scan 203 = .ok (.goto (-59), 3) := by decide +kernel
theorem dX12_scan_206 : decode cX12_scan 206 = .ok (.aload_n 0, 1) := by decide +kernel
theorem dX12_scan_207 : decode cX12_scan 207 = .ok (.iconst 2, 1) := by decide +kernel
theorem dX12_scan_208 : decode cX12_scan 208 = .ok (.putfield 90, 3) := by decide +kernel
theorem dX12_scan_211 : decode cX12_scan 211 = .ok (.goto 23, 3) := by decide +kernel
theorem dX12_scan_214 : decode cX12_scan 214 = .ok (.aload_n 0, 1) := by decide +kernel
theorem dX12_scan_215 : decode cX12_scan 215 = .ok (.iconst 3, 1) := by decide +kernel
theorem dX12_scan_216 : decode cX12_scan 216 = .ok (.putfield 90, 3) := by decide +kernel
theorem dX12_scan_219 : decode cX12_scan 219 = .ok (.aload_n 0, 1) := by decide +kernel
theorem dX12_scan_220 : decode cX12_scan 220 = .ok (.iload_n 1, 1) := by decide +kernel
theorem dX12_scan_221 : decode cX12_scan 221 = .ok (.putfield 101, 3) := by decide +kernel
theorem dX12_scan_224 : decode cX12_scan 224 = .ok (.aload_n 0, 1) := by decide +kernel
theorem dX12_scan_225 : decode cX12_scan 225 = .ok (.dup, 1) := by decide +kernel
theorem dX12_scan_226 : decode cX12_scan 226 = .ok (.getfield 83, 3) := by decide +kernel
theorem dX12_scan_229 : decode cX12_scan 229 = .ok (.iconst 1, 1) := by decide +kernel
theorem dX12_scan_230 : decode cX12_scan 230 = .ok (.iadd, 1) := by decide +kernel
theorem dX12_scan_231 : decode cX12_scan 231 = .ok (.putfield 83, 3) := by decide +kernel
theorem dX12_scan_234 : decode cX12_scan 234 = .ok (.return_, 1) := by decide +kernel
theorem dX12_goOn_0 : decode cX12_goOn 0 = .ok (.aload_n 0, 1) := by decide +kernel
theorem dX12_goOn_1 : decode cX12_goOn 1 = .ok (.invokevirtual 73, 3) := by decide +kernel
theorem dX12_goOn_4 : decode cX12_goOn 4 = .ok (.ifCond .eq 7, 3) := by decide +kernel
theorem dX12_goOn_7 : decode cX12_goOn 7 = .ok (.aload_n 0, 1) := by decide +kernel
theorem dX12_goOn_8 : decode cX12_goOn 8 = .ok (.invokevirtual 111, 3) := by decide +kernel
theorem dX12_goOn_11 : decode cX12_goOn 11 = .ok (.return_, 1) := by decide +kernel
theorem dX12_isWord_0 : decode cX12_isWord 0 = .ok (.aload_n 0, 1) := by decide +kernel
theorem dX12_isWord_1 : decode cX12_isWord 1 = .ok (.getfield 83, 3) := by decide +kernel
theorem dX12_isWord_4 : decode cX12_isWord 4 = .ok (.aload_n 0, 1) := by decide +kernel
theorem dX12_isWord_5 : decode cX12_isWord 5 = .ok (.getfield 77, 3) := by decide +kernel
theorem dX12_isWord_8 : decode cX12_isWord 8 = .ok (.isub, 1) := by decide +kernel
theorem dX12_isWord_9 : decode cX12_isWord 9 = .ok (.aload_n 1, 1) := by decide +kernel
theorem dX12_isWord_10 : decode cX12_isWord 10 = .ok (.invokevirtual 114, 3) := by decide +kernel
theorem dX12_isWord_13 : decode cX12_isWord 13 = .ok (.if_icmp .ne 7, 3) := by decide +kernel
theorem dX12_isWord_16 : decode cX12_isWord 16 = .ok (.iconst 1, 1) := by decide +kernel
theorem dX12_isWord_17 : decode cX12_isWord 17 = .ok (.goto 4, 3) := by decide +kernel
theorem dX12_isWord_20 : decode cX12_isWord 20 = .ok (.iconst 0, 1) := by decide +kernel
theorem dX12_isWord_21 : decode cX12_isWord 21 = .ok (.istore_n 2, 1) := by decide +kernel
theorem dX12_isWord_22 : decode cX12_isWord 22 = .ok (.iconst 0, 1) := by decide +kernel
theorem dX12_isWord_23 : decode cX12_isWord 23 = .ok (.istore_n 3, 1) := by decide +kernel
theorem dX12_isWord_24 : decode cX12_isWord 24 = .ok (.iload_n 3, 1) := by decide +kernel
theorem dX12_isWord_25 : decode cX12_isWord 25 = .ok (.aload_n 1, 1) := by decide +kernel
theorem dX12_isWord_26 : decode cX12_isWord 26 = .ok (.invokevirtual 114, 3) := by decide +kernel
theorem dX12_isWord_29 : decode cX12_isWord 29 = .ok (.if_icmp .ge 38, 3) := by decide +kernel
theorem dX12_isWord_32 : decode cX12_isWord 32 = .ok (.iload_n 2, 1) := by decide +kernel
theorem dX12_isWord_33 : decode cX12_isWord 33 = .ok (.ifCond .eq 34, 3) := by decide +kernel
theorem dX12_isWord_36 : decode cX12_isWord 36 = .ok (.aload_n 0, 1) := by decide +kernel
theorem dX12_isWord_37 : decode cX12_isWord 37 = .ok (.getfield 31, 3) := by decide +kernel
theorem dX12_isWord_40 : decode cX12_isWord 40 = .ok (.aload_n 0, 1) := by decide +kernel
theorem dX12_isWord_41 : decode cX12_isWord 41 = .ok (.getfield 77, 3) := by decide +kernel
theorem dX12_isWord_44 : decode cX12_isWord 44 = .ok (.iload_n 3, 1) := by decide +kernel
theorem dX12_isWord_45 : decode cX12_isWord 45 = .ok (.iadd, 1) := by decide +kernel
theorem dX12_isWord_46 : decode cX12_isWord 46 = .ok (.baload, 1) := by decide +kernel
theorem dX12_isWord_47 : decode cX12_isWord 47 = .ok (.aload_n 1, 1) := by decide +kernel
theorem dX12_isWord_48 : decode cX12_isWord 48 = .ok (.iload_n 3, 1) := by decide +kernel
theorem dX12_isWord_49 : decode cX12_isWord 49 = .ok (.invokevirtual 120, 3) := by decide +kernel
theorem dX12_isWord_52 : decode cX12_isWord 52 = .ok (.if_icmp .ne 7, 3) := by decide +kernel
theorem dX12_isWord_55 : decode cX12_isWord 55 = .ok (.iconst 1, 1) := by decide +kernel
theorem dX12_isWord_56 : decode cX12_isWord 56 = .ok (.goto 4, 3) := by decide +kernel
theorem dX12_isWord_59 : decode cX12_isWord 59 = .ok (.iconst 0, 1) := by decide +kernel
theorem dX12_isWord_60 : decode cX12_isWord 60 = .ok (.istore_n 2, 1) := by decide +kernel
theorem dX12_isWord_61 : decode cX12_isWord 61 = .ok (.iinc 3 1, 3) := by decide +kernel
theorem dX12_isWord_64 : decode cX12_isWord 64 = .ok (.goto (-40), 3) := by decide +kernel
theorem dX12_isWord_67 : decode cX12_isWord 67 = .ok (.iload_n 2, 1) := by decide +kernel
theorem dX12_isWord_68 : decode cX12_isWord 68 = .ok (.ireturn, 1) := by decide +kernel
theorem dX12_isText_0 : decode cX12_isText 0 = .ok (.aload_n 0, 1) := by decide +kernel
theorem dX12_isText_1 : decode cX12_isText 1 = .ok (.invokevirtual 73, 3) := by decide +kernel
theorem dX12_isText_4 : decode cX12_isText 4 = .ok (.ifCond .eq 23, 3) := by decide +kernel
theorem dX12_isText_7 : decode cX12_isText 7 = .ok (.aload_n 0, 1) := by decide +kernel
theorem dX12_isText_8 : decode cX12_isText 8 = .ok (.getfield 90, 3) := by decide +kernel
theorem dX12_isText_11 : decode cX12_isText 11 = .ok (.iconst 1, 1) := by decide +kernel
theorem dX12_isText_12 : decode cX12_isText 12 = .ok (.if_icmp .ne 15, 3) := by decide +kernel
theorem dX12_isText_15 : decode cX12_isText 15 = .ok (.aload_n 0, 1) := by decide +kernel
theorem dX12_isText_16 : decode cX12_isText 16 = .ok (.aload_n 1, 1) := by decide +kernel
theorem dX12_isText_17 : decode cX12_isText 17 = .ok (.invokevirtual 124, 3) := by decide +kernel
theorem dX12_isText_20 : decode cX12_isText 20 = .ok (.ifCond .eq 7, 3) := by decide +kernel
theorem dX12_isText_23 : decode cX12_isText 23 = .ok (.iconst 1, 1) := by decide +kernel
theorem dX12_isText_24 : decode cX12_isText 24 = .ok (.goto 4, 3) := by decide +kernel
theorem dX12_isText_27 : decode cX12_isText 27 = .ok (.iconst 0, 1) := by decide +kernel
theorem dX12_isText_28 : decode cX12_isText 28 = .ok (.ireturn, 1) := by decide +kernel
theorem dX12_isKeyword_0 : decode cX12_isKeyword 0 = .ok (.aload_n 0, 1) := by decide +kernel
theorem dX12_isKeyword_1 : decode cX12_isKeyword 1 = .ok (.ldc 128, 2) := by decide +kernel
theorem dX12_isKeyword_3 : decode cX12_isKeyword 3 = .ok (.invokevirtual 124, 3) := by decide +kernel
theorem dX12_isKeyword_6 : decode cX12_isKeyword 6 = .ok (.ifCond .ne 66, 3) := by decide +kernel
theorem dX12_isKeyword_9 : decode cX12_isKeyword 9 = .ok (.aload_n 0, 1) := by decide +kernel
theorem dX12_isKeyword_10 : decode cX12_isKeyword 10 = .ok (.ldc 130, 2) := by decide +kernel
theorem dX12_isKeyword_12 : decode cX12_isKeyword 12 = .ok (.invokevirtual 124, 3) := by decide +kernel
theorem dX12_isKeyword_15 : decode cX12_isKeyword 15 = .ok (.ifCond .ne 57, 3) := by decide +kernel
theorem dX12_isKeyword_18 : decode cX12_isKeyword 18 = .ok (.aload_n 0, 1) := by decide +kernel
theorem dX12_isKeyword_19 : decode cX12_isKeyword 19 = .ok (.ldc 132, 2) := by decide +kernel
theorem dX12_isKeyword_21 : decode cX12_isKeyword 21 = .ok (.invokevirtual 124, 3) := by decide +kernel
theorem dX12_isKeyword_24 : decode cX12_isKeyword 24 = .ok (.ifCond .ne 48, 3) := by decide +kernel
theorem dX12_isKeyword_27 : decode cX12_isKeyword 27 = .ok (.aload_n 0, 1) := by decide +kernel
theorem dX12_isKeyword_28 : decode cX12_isKeyword 28 = .ok (.ldc 134, 2) := by decide +kernel
theorem dX12_isKeyword_30 : decode cX12_isKeyword 30 = .ok (.invokevirtual 124, 3) := by decide +kernel
theorem dX12_isKeyword_33 : decode cX12_isKeyword 33 = .ok (.ifCond .ne 39, 3) := by decide +kernel
theorem dX12_isKeyword_36 : decode cX12_isKeyword 36 = .ok (.aload_n 0, 1) := by decide +kernel
theorem dX12_isKeyword_37 : decode cX12_isKeyword 37 = .ok (.ldc 136, 2) := by decide +kernel
theorem dX12_isKeyword_39 : decode cX12_isKeyword 39 = .ok (.invokevirtual 124, 3) := by decide +kernel
theorem dX12_isKeyword_42 : decode cX12_isKeyword 42 = .ok (.ifCond .ne 30, 3) := by decide +kernel
theorem dX12_isKeyword_45 : decode cX12_isKeyword 45 = .ok (.aload_n 0, 1) := by decide +kernel
theorem dX12_isKeyword_46 : decode cX12_isKeyword 46 = .ok (.ldc 138, 2) := by decide +kernel
theorem dX12_isKeyword_48 : decode cX12_isKeyword 48 = .ok (.invokevirtual 124, 3) := by decide +kernel
theorem dX12_isKeyword_51 : decode cX12_isKeyword 51 = .ok (.ifCond .ne 21, 3) := by decide +kernel
theorem dX12_isKeyword_54 : decode cX12_isKeyword 54 = .ok (.aload_n 0, 1) := by decide +kernel
theorem dX12_isKeyword_55 : decode cX12_isKeyword 55 = .ok (.ldc 140, 2) := by decide +kernel
theorem dX12_isKeyword_57 : decode cX12_isKeyword 57 = .ok (.invokevirtual 124, 3) := by decide +kernel
theorem dX12_isKeyword_60 : decode cX12_isKeyword 60 = .ok (.ifCond .ne 12, 3) := by decide +kernel
theorem dX12_isKeyword_63 : decode cX12_isKeyword 63 = .ok (.aload_n 0, 1) := by decide +kernel
theorem dX12_isKeyword_64 : decode cX12_isKeyword 64 = .ok (.ldc 142, 2) := by decide +kernel
theorem dX12_isKeyword_66 : decode cX12_isKeyword 66 = .ok (.invokevirtual 124, 3) := by decide +kernel
theorem dX12_isKeyword_69 : decode cX12_isKeyword 69 = .ok (.ifCond .eq 7, 3) := by decide +kernel
theorem dX12_isKeyword_72 : decode cX12_isKeyword 72 = .ok (.iconst 1, 1) := by decide +kernel
theorem dX12_isKeyword_73 : decode cX12_isKeyword 73 = .ok (.goto 4, 3) := by decide +kernel
theorem dX12_isKeyword_76 : decode cX12_isKeyword 76 = .ok (.iconst 0, 1) := by decide +kernel
theorem dX12_isKeyword_77 : decode cX12_isKeyword 77 = .ok (.istore_n 1, 1) := by decide +kernel
theorem dX12_isKeyword_78 : decode cX12_isKeyword 78 = .ok (.iload_n 1, 1) := by decide +kernel
theorem dX12_isKeyword_79 : decode cX12_isKeyword 79 = .ok (.ifCond .ne 66, 3) := by decide +kernel
theorem dX12_isKeyword_82 : decode cX12_isKeyword 82 = .ok (.aload_n 0, 1) := by decide +kernel
theorem dX12_isKeyword_83 : decode cX12_isKeyword 83 = .ok (.ldc 144, 2) := by decide +kernel
theorem dX12_isKeyword_85 : decode cX12_isKeyword 85 = .ok (.invokevirtual 124, 3) := by decide +kernel
theorem dX12_isKeyword_88 : decode cX12_isKeyword 88 = .ok (.ifCond .ne 57, 3) := by decide +kernel
theorem dX12_isKeyword_91 : decode cX12_isKeyword 91 = .ok (.aload_n 0, 1) := by decide +kernel
theorem dX12_isKeyword_92 : decode cX12_isKeyword 92 = .ok (.ldc 146, 2) := by decide +kernel
theorem dX12_isKeyword_94 : decode cX12_isKeyword 94 = .ok (.invokevirtual 124, 3) := by decide +kernel
theorem dX12_isKeyword_97 : decode cX12_isKeyword 97 = .ok (.ifCond .ne 48, 3) := by decide +kernel
theorem dX12_isKeyword_100 : decode cX12_isKeyword 100 = .ok (.aload_n 0, 1) := by decide +kernel
theorem dX12_isKeyword_101 : decode cX12_isKeyword 101 = .ok (.ldc 148, 2) := by decide +kernel
theorem dX12_isKeyword_103 : decode cX12_isKeyword 103 = .ok (.invokevirtual 124, 3) := by decide +kernel
theorem dX12_isKeyword_106 : decode cX12_isKeyword 106 = .ok (.ifCond .ne 39, 3) := by decide +kernel
theorem dX12_isKeyword_109 : decode cX12_isKeyword 109 = .ok (.aload_n 0, 1) := by decide +kernel
theorem dX12_isKeyword_110 : decode cX12_isKeyword 110 = .ok (.ldc 150, 2) := by decide +kernel
theorem dX12_isKeyword_112 : decode cX12_isKeyword 112 = .ok (.invokevirtual 124, 3) := by decide +kernel
theorem dX12_isKeyword_115 : decode cX12_isKeyword 115 = .ok (.ifCond .ne 30, 3) := by decide +kernel
theorem dX12_isKeyword_118 : decode cX12_isKeyword 118 = .ok (.aload_n 0, 1) := by decide +kernel
theorem dX12_isKeyword_119 : decode cX12_isKeyword 119 = .ok (.ldc 152, 2) := by decide +kernel
theorem dX12_isKeyword_121 : decode cX12_isKeyword 121 = .ok (.invokevirtual 124, 3) := by decide +kernel
theorem dX12_isKeyword_124 : decode cX12_isKeyword 124 = .ok (.ifCond .ne 21, 3) := by decide +kernel
theorem dX12_isKeyword_127 : decode cX12_isKeyword 127 = .ok (.aload_n 0, 1) := by decide +kernel
theorem dX12_isKeyword_128 : decode cX12_isKeyword 128 = .ok (.ldc 154, 2) := by decide +kernel
theorem dX12_isKeyword_130 : decode cX12_isKeyword 130 = .ok (.invokevirtual 124, 3) := by decide +kernel
theorem dX12_isKeyword_133 : decode cX12_isKeyword 133 = .ok (.ifCond .ne 12, 3) := by decide +kernel
theorem dX12_isKeyword_136 : decode cX12_isKeyword 136 = .ok (.aload_n 0, 1) := by decide +kernel
theorem dX12_isKeyword_137 : decode cX12_isKeyword 137 = .ok (.ldc 156, 2) := by decide +kernel
theorem dX12_isKeyword_139 : decode cX12_isKeyword 139 = .ok (.invokevirtual 124, 3) := by decide +kernel
theorem dX12_isKeyword_142 : decode cX12_isKeyword 142 = .ok (.ifCond .eq 7, 3) := by decide +kernel
theorem dX12_isKeyword_145 : decode cX12_isKeyword 145 = .ok (.iconst 1, 1) := by decide +kernel
theorem dX12_isKeyword_146 : decode cX12_isKeyword 146 = .ok (.goto 4, 3) := by decide +kernel
theorem dX12_isKeyword_149 : decode cX12_isKeyword 149 = .ok (.iconst 0, 1) := by decide +kernel
theorem dX12_isKeyword_150 : decode cX12_isKeyword 150 = .ok (.ireturn, 1) := by decide +kernel
theorem dX12_word_0 : decode cX12_word 0 = .ok (.aload_n 0, 1) := by decide +kernel
theorem dX12_word_1 : decode cX12_word 1 = .ok (.aload_n 1, 1) := by decide +kernel
theorem dX12_word_2 : decode cX12_word 2 = .ok (.invokevirtual 158, 3) := by decide +kernel
theorem dX12_word_5 : decode cX12_word 5 = .ok (.ifCond .ne 8, 3) := by decide +kernel
theorem dX12_word_8 : decode cX12_word 8 = .ok (.aload_n 0, 1) := by decide +kernel
theorem dX12_word_9 : decode cX12_word 9 = .ok (.iconst 1, 1) := by decide +kernel
theorem dX12_word_10 : decode cX12_word 10 = .ok (.invokevirtual 161, 3) := by decide +kernel
theorem dX12_word_13 : decode cX12_word 13 = .ok (.aload_n 0, 1) := by decide +kernel
theorem dX12_word_14 : decode cX12_word 14 = .ok (.invokevirtual 164, 3) := by decide +kernel
theorem dX12_word_17 : decode cX12_word 17 = .ok (.return_, 1) := by decide +kernel
theorem dX12_number_0 : decode cX12_number 0 = .ok (.aload_n 0, 1) := by decide +kernel
theorem dX12_number_1 : decode cX12_number 1 = .ok (.invokevirtual 73, 3) := by decide +kernel
theorem dX12_number_4 : decode cX12_number 4 = .ok (.ifCond .eq 16, 3) := by decide +kernel
theorem dX12_number_7 : decode cX12_number 7 = .ok (.aload_n 0, 1) := by decide +kernel
theorem dX12_number_8 : decode cX12_number 8 = .ok (.getfield 90, 3) := by decide +kernel
theorem dX12_number_11 : decode cX12_number 11 = .ok (.iconst 2, 1) := by decide +kernel
theorem dX12_number_12 : decode cX12_number 12 = .ok (.if_icmp .eq 8, 3) := by decide +kernel
theorem dX12_number_15 : decode cX12_number 15 = .ok (.aload_n 0, 1) := by decide +kernel
theorem dX12_number_16 : decode cX12_number 16 = .ok (.iconst 1, 1) := by decide +kernel
theorem dX12_number_17 : decode cX12_number 17 = .ok (.invokevirtual 161, 3) := by decide +kernel
theorem dX12_number_20 : decode cX12_number 20 = .ok (.aload_n 0, 1) := by decide +kernel
theorem dX12_number_21 : decode cX12_number 21 = .ok (.invokevirtual 73, 3) := by decide +kernel
theorem dX12_number_24 : decode cX12_number 24 = .ok (.ifCond .eq 23, 3) := by decide +kernel
theorem dX12_number_27 : decode cX12_number 27 = .ok (.aload_n 0, 1) := by decide +kernel
theorem dX12_number_28 : decode cX12_number 28 = .ok (.getfield 101, 3) := by decide +kernel
theorem dX12_number_31 : decode cX12_number 31 = .ok (.i2l, 1) := by decide +kernel
theorem dX12_number_32 : decode cX12_number 32 = .ok (.iload_n 1, 1) := by decide +kernel
theorem dX12_number_33 : decode cX12_number 33 = .ok (.i2l, 1) := by decide +kernel
theorem dX12_number_34 : decode cX12_number 34 = .ok (.iload_n 2, 1) := by decide +kernel
theorem dX12_number_35 : decode cX12_number 35 = .ok (.i2l, 1) := by decide +kernel
theorem dX12_number_36 : decode cX12_number 36 = .ok (.invokestatic 47, 3) := by decide +kernel
theorem dX12_number_39 : decode cX12_number 39 = .ok (.ifCond .ne 8, 3) := by decide +kernel
theorem dX12_number_42 : decode cX12_number 42 = .ok (.aload_n 0, 1) := by decide +kernel
theorem dX12_number_43 : decode cX12_number 43 = .ok (.iconst 2, 1) := by decide +kernel
theorem dX12_number_44 : decode cX12_number 44 = .ok (.invokevirtual 161, 3) := by decide +kernel
theorem dX12_number_47 : decode cX12_number 47 = .ok (.aload_n 0, 1) := by decide +kernel
theorem dX12_number_48 : decode cX12_number 48 = .ok (.invokevirtual 73, 3) := by decide +kernel
theorem dX12_number_51 : decode cX12_number 51 = .ok (.ifCond .eq 10, 3) := by decide +kernel
theorem dX12_number_54 : decode cX12_number 54 = .ok (.aload_n 0, 1) := by decide +kernel
theorem dX12_number_55 : decode cX12_number 55 = .ok (.getfield 101, 3) := by decide +kernel
theorem dX12_number_58 : decode cX12_number 58 = .ok (.goto 4, 3) := by decide +kernel
theorem dX12_number_61 : decode cX12_number 61 = .ok (.iload_n 1, 1) := by decide +kernel
theorem dX12_number_62 : decode cX12_number 62 = .ok (.istore_n 3, 1) := by decide +kernel
theorem dX12_number_63 : decode cX12_number 63 = .ok (.aload_n 0, 1) := by decide +kernel
theorem dX12_number_64 : decode cX12_number 64 = .ok (.invokevirtual 164, 3) := by decide +kernel
theorem dX12_number_67 : decode cX12_number 67 = .ok (.iload_n 3, 1) := by decide +kernel
theorem dX12_number_68 : decode cX12_number 68 = .ok (.ireturn, 1) := by decide +kernel
theorem dX12_numberAfter_0 : decode cX12_numberAfter 0 = .ok (.aload_n 0, 1) := by decide +kernel
theorem dX12_numberAfter_1 : decode cX12_numberAfter 1 = .ok (.aload_n 1, 1) := by decide +kernel
theorem dX12_numberAfter_2 : decode cX12_numberAfter 2 = .ok (.invokevirtual 167, 3) := by decide +kernel
theorem dX12_numberAfter_5 : decode cX12_numberAfter 5 = .ok (.aload_n 0, 1) := by decide +kernel
theorem dX12_numberAfter_6 : decode cX12_numberAfter 6 = .ok (.iload_n 2, 1) := by decide +kernel
theorem dX12_numberAfter_7 : decode cX12_numberAfter 7 = .ok (.iload_n 3, 1) := by decide +kernel
theorem dX12_numberAfter_8 : decode cX12_numberAfter 8 = .ok (.invokevirtual 171, 3) := by decide +kernel
theorem dX12_numberAfter_11 : decode cX12_numberAfter 11 = .ok (.ireturn, 1) := by decide +kernel
theorem dX12_semicolon_0 : decode cX12_semicolon 0 = .ok (.aload_n 0, 1) := by decide +kernel
theorem dX12_semicolon_1 : decode cX12_semicolon 1 = .ok (.invokevirtual 73, 3) := by decide +kernel
theorem dX12_semicolon_4 : decode cX12_semicolon 4 = .ok (.ifCond .eq 20, 3) := by decide +kernel
theorem dX12_semicolon_7 : decode cX12_semicolon 7 = .ok (.aload_n 0, 1) := by decide +kernel
theorem dX12_semicolon_8 : decode cX12_semicolon 8 = .ok (.getfield 90, 3) := by decide +kernel
theorem dX12_semicolon_11 : decode cX12_semicolon 11 = .ok (.iconst 3, 1) := by decide +kernel
theorem dX12_semicolon_12 : decode cX12_semicolon 12 = .ok (.if_icmp .ne 12, 3) := by decide +kernel
theorem dX12_semicolon_15 : decode cX12_semicolon 15 = .ok (.aload_n 0, 1) := by decide +kernel
theorem dX12_semicolon_16 : decode cX12_semicolon 16 = .ok (.getfield 101, 3) := by decide +kernel
theorem dX12_semicolon_19 : decode cX12_semicolon 19 = .ok (.bipush 59, 2) := by decide +kernel
theorem dX12_semicolon_21 : decode cX12_semicolon 21 = .ok (.if_icmp .eq 8, 3) := by decide +kernel
theorem dX12_semicolon_24 : decode cX12_semicolon 24 = .ok (.aload_n 0, 1) := by decide +kernel
theorem dX12_semicolon_25 : decode cX12_semicolon 25 = .ok (.iconst 1, 1) := by decide +kernel
theorem dX12_semicolon_26 : decode cX12_semicolon 26 = .ok (.invokevirtual 161, 3) := by decide +kernel
theorem dX12_semicolon_29 : decode cX12_semicolon 29 = .ok (.aload_n 0, 1) := by decide +kernel
theorem dX12_semicolon_30 : decode cX12_semicolon 30 = .ok (.invokevirtual 164, 3) := by decide +kernel
theorem dX12_semicolon_33 : decode cX12_semicolon 33 = .ok (.return_, 1) := by decide +kernel
theorem dX12_letter_0 : decode cX12_letter 0 = .ok (.iload_n 1, 1) := by decide +kernel
theorem dX12_letter_1 : decode cX12_letter 1 = .ok (.aload_n 0, 1) := by decide +kernel
theorem dX12_letter_2 : decode cX12_letter 2 = .ok (.getfield 83, 3) := by decide +kernel
theorem dX12_letter_5 : decode cX12_letter 5 = .ok (.aload_n 0, 1) := by decide +kernel
theorem dX12_letter_6 : decode cX12_letter 6 = .ok (.getfield 77, 3) := by decide +kernel
theorem dX12_letter_9 : decode cX12_letter 9 = .ok (.isub, 1) := by decide +kernel
theorem dX12_letter_10 : decode cX12_letter 10 = .ok (.if_icmp .ge 17, 3) := by decide +kernel
theorem dX12_letter_13 : decode cX12_letter 13 = .ok (.aload_n 0, 1) := by decide +kernel
theorem dX12_letter_14 : decode cX12_letter 14 = .ok (.getfield 31, 3) := by decide +kernel
theorem dX12_letter_17 : decode cX12_letter 17 = .ok (.aload_n 0, 1) := by decide +kernel
theorem dX12_letter_18 : decode cX12_letter 18 = .ok (.getfield 77, 3) := by decide +kernel
theorem dX12_letter_21 : decode cX12_letter 21 = .ok (.iload_n 1, 1) := by decide +kernel
theorem dX12_letter_22 : decode cX12_letter 22 = .ok (.iadd, 1) := by decide +kernel
theorem dX12_letter_23 : decode cX12_letter 23 = .ok (.baload, 1) := by decide +kernel
theorem dX12_letter_24 : decode cX12_letter 24 = .ok (.goto 4, 3) := by decide +kernel
theorem dX12_letter_27 : decode cX12_letter 27 = .ok (.iconst 0, 1) := by decide +kernel
theorem dX12_letter_28 : decode cX12_letter 28 = .ok (.ireturn, 1) := by decide +kernel
theorem dX12_named_0 : decode cX12_named 0 = .ok (.iconst 0, 1) := by decide +kernel
theorem dX12_named_1 : decode cX12_named 1 = .ok (.istore_n 1, 1) := by decide +kernel
theorem dX12_named_2 : decode cX12_named 2 = .ok (.iload_n 1, 1) := by decide +kernel
theorem dX12_named_3 : decode cX12_named 3 = .ok (.aload_n 0, 1) := by decide +kernel
theorem dX12_named_4 : decode cX12_named 4 = .ok (.getfield 24, 3) := by decide +kernel
theorem dX12_named_7 : decode cX12_named 7 = .ok (.iconst 0, 1) := by decide +kernel
theorem dX12_named_8 : decode cX12_named 8 = .ok (.iaload, 1) := by decide +kernel
theorem dX12_named_9 : decode cX12_named 9 = .ok (.if_icmp .ge 84, 3) := by decide +kernel
theorem dX12_named_12 : decode cX12_named 12 = .ok (.aload_n 0, 1) := by decide +kernel
theorem dX12_named_13 : decode cX12_named 13 = .ok (.getfield 83, 3) := by decide +kernel
theorem dX12_named_16 : decode cX12_named 16 = .ok (.aload_n 0, 1) := by decide +kernel
theorem dX12_named_17 : decode cX12_named 17 = .ok (.getfield 77, 3) := by decide +kernel
theorem dX12_named_20 : decode cX12_named 20 = .ok (.isub, 1) := by decide +kernel
theorem dX12_named_21 : decode cX12_named 21 = .ok (.bipush 6, 2) := by decide +kernel
theorem dX12_named_23 : decode cX12_named 23 = .ok (.if_icmp .gt 7, 3) := by decide +kernel
theorem dX12_named_26 : decode cX12_named 26 = .ok (.iconst 1, 1) := by decide +kernel
theorem dX12_named_27 : decode cX12_named 27 = .ok (.goto 4, 3) := by decide +kernel
theorem dX12_named_30 : decode cX12_named 30 = .ok (.iconst 0, 1) := by decide +kernel
theorem dX12_named_31 : decode cX12_named 31 = .ok (.istore_n 2, 1) := by decide +kernel
theorem dX12_named_32 : decode cX12_named 32 = .ok (.iconst 0, 1) := by decide +kernel
theorem dX12_named_33 : decode cX12_named 33 = .ok (.istore_n 3, 1) := by decide +kernel
theorem dX12_named_34 : decode cX12_named 34 = .ok (.iload_n 3, 1) := by decide +kernel
theorem dX12_named_35 : decode cX12_named 35 = .ok (.bipush 6, 2) := by decide +kernel
theorem dX12_named_37 : decode cX12_named 37 = .ok (.if_icmp .ge 44, 3) := by decide +kernel
theorem dX12_named_40 : decode cX12_named 40 = .ok (.iload_n 2, 1) := by decide +kernel
theorem dX12_named_41 : decode cX12_named 41 = .ok (.ifCond .eq 40, 3) := by decide +kernel
theorem dX12_named_44 : decode cX12_named 44 = .ok (.aload_n 0, 1) := by decide +kernel
theorem dX12_named_45 : decode cX12_named 45 = .ok (.getfield 24, 3) := by decide +kernel
theorem dX12_named_48 : decode cX12_named 48 = .ok (.sipush 274, 3) := by decide +kernel
theorem dX12_named_51 : decode cX12_named 51 = .ok (.bipush 7, 2) := by decide +kernel
theorem dX12_named_53 : decode cX12_named 53 = .ok (.iload_n 1, 1) := by decide +kernel
theorem dX12_named_54 : decode cX12_named 54 = .ok (.imul, 1) := by decide +kernel
theorem dX12_named_55 : decode cX12_named 55 = .ok (.iadd, 1) := by decide +kernel
theorem dX12_named_56 : decode cX12_named 56 = .ok (.iconst 1, 1) := by decide +kernel
theorem dX12_named_57 : decode cX12_named 57 = .ok (.iadd, 1) := by decide +kernel
theorem dX12_named_58 : decode cX12_named 58 = .ok (.iload_n 3, 1) := by decide +kernel
theorem dX12_named_59 : decode cX12_named 59 = .ok (.iadd, 1) := by decide +kernel
theorem dX12_named_60 : decode cX12_named 60 = .ok (.iaload, 1) := by decide +kernel
theorem dX12_named_61 : decode cX12_named 61 = .ok (.aload_n 0, 1) := by decide +kernel
theorem dX12_named_62 : decode cX12_named 62 = .ok (.iload_n 3, 1) := by decide +kernel
theorem dX12_named_63 : decode cX12_named 63 = .ok (.invokevirtual 174, 3) := by decide +kernel
theorem dX12_named_66 : decode cX12_named 66 = .ok (.if_icmp .ne 7, 3) := by decide +kernel
theorem dX12_named_69 : decode cX12_named 69 = .ok (.iconst 1, 1) := by decide +kernel
theorem dX12_named_70 : decode cX12_named 70 = .ok (.goto 4, 3) := by decide +kernel
theorem dX12_named_73 : decode cX12_named 73 = .ok (.iconst 0, 1) := by decide +kernel
theorem dX12_named_74 : decode cX12_named 74 = .ok (.istore_n 2, 1) := by decide +kernel
theorem dX12_named_75 : decode cX12_named 75 = .ok (.iinc 3 1, 3) := by decide +kernel
theorem dX12_named_78 : decode cX12_named 78 = .ok (.goto (-44), 3) := by decide +kernel
theorem dX12_named_81 : decode cX12_named 81 = .ok (.iload_n 2, 1) := by decide +kernel
theorem dX12_named_82 : decode cX12_named 82 = .ok (.ifCond .eq 5, 3) := by decide +kernel
theorem dX12_named_85 : decode cX12_named 85 = .ok (.iload_n 1, 1) := by decide +kernel
theorem dX12_named_86 : decode cX12_named 86 = .ok (.ireturn, 1) := by decide +kernel
theorem dX12_named_87 : decode cX12_named 87 = .ok (.iinc 1 1, 3) := by decide +kernel
theorem dX12_named_90 : decode cX12_named 90 = .ok (.goto (-88), 3) := by decide +kernel
theorem dX12_named_93 : decode cX12_named 93 = .ok (.iconst (-1), 1) := by decide +kernel
theorem dX12_named_94 : decode cX12_named 94 = .ok (.ireturn, 1) := by decide +kernel
theorem dX12_checkName_0 : decode cX12_checkName 0 = .ok (.aload_n 0, 1) := by decide +kernel
theorem dX12_checkName_1 : decode cX12_checkName 1 = .ok (.invokevirtual 73, 3) := by decide +kernel
theorem dX12_checkName_4 : decode cX12_checkName 4 = .ok (.ifCond .eq 37, 3) := by decide +kernel
theorem dX12_checkName_7 : decode cX12_checkName 7 = .ok (.aload_n 0, 1) := by decide +kernel
theorem dX12_checkName_8 : decode cX12_checkName 8 = .ok (.getfield 90, 3) := by decide +kernel
theorem dX12_checkName_11 : decode cX12_checkName 11 = .ok (.iconst 1, 1) := by decide +kernel
theorem dX12_checkName_12 : decode cX12_checkName 12 = .ok (.if_icmp .ne 24, 3) := by decide +kernel
theorem dX12_checkName_15 : decode cX12_checkName 15 = .ok (.aload_n 0, 1) := by decide +kernel
theorem dX12_checkName_16 : decode cX12_checkName 16 = .ok (.getfield 83, 3) := by decide +kernel
theorem dX12_checkName_19 : decode cX12_checkName 19 = .ok (.aload_n 0, 1) := by decide +kernel
theorem dX12_checkName_20 : decode cX12_checkName 20 = .ok (.getfield 77, 3) := by decide +kernel
theorem dX12_checkName_23 : decode cX12_checkName 23 = .ok (.isub, 1) := by decide +kernel
theorem dX12_checkName_24 : decode cX12_checkName 24 = .ok (.bipush 6, 2) := by decide +kernel
theorem dX12_checkName_26 : decode cX12_checkName 26 = .ok (.if_icmp .gt 10, 3) := by decide +kernel
theorem dX12_checkName_29 : decode cX12_checkName 29 = .ok (.aload_n 0, 1) := by decide +kernel
theorem dX12_checkName_30 : decode cX12_checkName 30 = .ok (.invokevirtual 177, 3) := by decide +kernel
theorem dX12_checkName_33 : decode cX12_checkName 33 = .ok (.ifCond .eq 8, 3) := by decide +kernel
theorem dX12_checkName_36 : decode cX12_checkName 36 = .ok (.aload_n 0, 1) := by decide +kernel
theorem dX12_checkName_37 : decode cX12_checkName 37 = .ok (.iconst 1, 1) := by decide +kernel
theorem dX12_checkName_38 : decode cX12_checkName 38 = .ok (.invokevirtual 161, 3) := by decide +kernel
theorem dX12_checkName_41 : decode cX12_checkName 41 = .ok (.return_, 1) := by decide +kernel
theorem dX12_parseMode_0 : decode cX12_parseMode 0 = .ok (.aload_n 0, 1) := by decide +kernel
theorem dX12_parseMode_1 : decode cX12_parseMode 1 = .ok (.getfield 180, 3) := by decide +kernel
theorem dX12_parseMode_4 : decode cX12_parseMode 4 = .ok (.ifCond .eq 8, 3) := by decide +kernel
theorem dX12_parseMode_7 : decode cX12_parseMode 7 = .ok (.aload_n 0, 1) := by decide +kernel
theorem dX12_parseMode_8 : decode cX12_parseMode 8 = .ok (.iconst 3, 1) := by decide +kernel
theorem dX12_parseMode_9 : decode cX12_parseMode 9 = .ok (.invokevirtual 161, 3) := by decide +kernel
theorem dX12_parseMode_12 : decode cX12_parseMode 12 = .ok (.aload_n 0, 1) := by decide +kernel
theorem dX12_parseMode_13 : decode cX12_parseMode 13 = .ok (.iconst 1, 1) := by decide +kernel
theorem dX12_parseMode_14 : decode cX12_parseMode 14 = .ok (.putfield 180, 3) := by decide +kernel
theorem dX12_parseMode_17 : decode cX12_parseMode 17 = .ok (.aload_n 0, 1) := by decide +kernel
theorem dX12_parseMode_18 : decode cX12_parseMode 18 = .ok (.invokevirtual 164, 3) := by decide +kernel
theorem dX12_parseMode_21 : decode cX12_parseMode 21 = .ok (.aload_n 0, 1) := by decide +kernel
theorem dX12_parseMode_22 : decode cX12_parseMode 22 = .ok (.getfield 24, 3) := by decide +kernel
theorem dX12_parseMode_25 : decode cX12_parseMode 25 = .ok (.bipush 8, 2) := by decide +kernel
theorem dX12_parseMode_27 : decode cX12_parseMode 27 = .ok (.iload_n 1, 1) := by decide +kernel
theorem dX12_parseMode_28 : decode cX12_parseMode 28 = .ok (.iastore, 1) := by decide +kernel
theorem dX12_parseMode_29 : decode cX12_parseMode 29 = .ok (.return_, 1) := by decide +kernel
theorem dX12_parseBand_0 : decode cX12_parseBand 0 = .ok (.aload_n 0, 1) := by decide +kernel
theorem dX12_parseBand_1 : decode cX12_parseBand 1 = .ok (.getfield 24, 3) := by decide +kernel
theorem dX12_parseBand_4 : decode cX12_parseBand 4 = .ok (.bipush 6, 2) := by decide +kernel
theorem dX12_parseBand_6 : decode cX12_parseBand 6 = .ok (.iaload, 1) := by decide +kernel
theorem dX12_parseBand_7 : decode cX12_parseBand 7 = .ok (.istore_n 1, 1) := by decide +kernel
theorem dX12_parseBand_8 : decode cX12_parseBand 8 = .ok (.iload_n 1, 1) := by decide +kernel
theorem dX12_parseBand_9 : decode cX12_parseBand 9 = .ok (.bipush 6, 2) := by decide +kernel
theorem dX12_parseBand_11 : decode cX12_parseBand 11 = .ok (.if_icmp .ne 8, 3) := by decide +kernel
theorem dX12_parseBand_14 : decode cX12_parseBand 14 = .ok (.aload_n 0, 1) := by decide +kernel
theorem dX12_parseBand_15 : decode cX12_parseBand 15 = .ok (.iconst 4, 1) := by decide +kernel
theorem dX12_parseBand_16 : decode cX12_parseBand 16 = .ok (.invokevirtual 161, 3) := by decide +kernel
theorem dX12_parseBand_19 : decode cX12_parseBand 19 = .ok (.aload_n 0, 1) := by decide +kernel
theorem dX12_parseBand_20 : decode cX12_parseBand 20 = .ok (.invokevirtual 164, 3) := by decide +kernel
theorem dX12_parseBand_23 : decode cX12_parseBand 23 = .ok (.aload_n 0, 1) := by decide +kernel
theorem dX12_parseBand_24 : decode cX12_parseBand 24 = .ok (.iload_n 1, 1) := by decide +kernel
theorem dX12_parseBand_25 : decode cX12_parseBand 25 = .ok (.ifCond .ne 7, 3) := by decide +kernel
theorem dX12_parseBand_28 : decode cX12_parseBand 28 = .ok (.iconst 0, 1) := by decide +kernel
theorem dX12_parseBand_29 : decode cX12_parseBand 29 = .ok (.goto 16, 3) := by decide +kernel
theorem dX12_parseBand_32 : decode cX12_parseBand 32 = .ok (.aload_n 0, 1) := by decide +kernel
theorem dX12_parseBand_33 : decode cX12_parseBand 33 = .ok (.getfield 24, 3) := by decide +kernel
theorem dX12_parseBand_36 : decode cX12_parseBand 36 = .ok (.bipush 12, 2) := by decide +kernel
theorem dX12_parseBand_38 : decode cX12_parseBand 38 = .ok (.iload_n 1, 1) := by decide +kernel
theorem dX12_parseBand_39 : decode cX12_parseBand 39 = .ok (.iadd, 1) := by decide +kernel
theorem dX12_parseBand_40 : decode cX12_parseBand 40 = .ok (.iconst 1, 1) := by decide +kernel
theorem dX12_parseBand_41 : decode cX12_parseBand 41 = .ok (.isub, 1) := by decide +kernel
theorem dX12_parseBand_42 : decode cX12_parseBand 42 = .ok (.iaload, 1) := by decide +kernel
theorem dX12_parseBand_43 : decode cX12_parseBand 43 = .ok (.iconst 1, 1) := by decide +kernel
theorem dX12_parseBand_44 : decode cX12_parseBand 44 = .ok (.iadd, 1) := by decide +kernel
theorem dX12_parseBand_45 : decode cX12_parseBand 45 = .ok (.iload_n 1, 1) := by decide +kernel
theorem dX12_parseBand_46 : decode cX12_parseBand 46 = .ok (.ifCond .ne 7, 3) := by decide +kernel
theorem dX12_parseBand_49 : decode cX12_parseBand 49 = .ok (.iconst 0, 1) := by decide +kernel
theorem dX12_parseBand_50 : decode cX12_parseBand 50 = .ok (.goto 6, 3) := by decide +kernel
theorem dX12_parseBand_53 : decode cX12_parseBand 53 = .ok (.sipush 9999, 3) := by decide +kernel
theorem dX12_parseBand_56 : decode cX12_parseBand 56 = .ok (.invokevirtual 171, 3) := by decide +kernel
theorem dX12_parseBand_59 : decode cX12_parseBand 59 = .ok (.istore_n 2, 1) := by decide +kernel
theorem dX12_parseBand_60 : decode cX12_parseBand 60 = .ok (.aload_n 0, 1) := by decide +kernel
theorem dX12_parseBand_61 : decode cX12_parseBand 61 = .ok (.ldc 134, 2) := by decide +kernel
theorem dX12_parseBand_63 : decode cX12_parseBand 63 = .ok (.iconst 0, 1) := by decide +kernel
theorem dX12_parseBand_64 : decode cX12_parseBand 64 = .ok (.sipush 999, 3) := by decide +kernel
theorem dX12_parseBand_67 : decode cX12_parseBand 67 = .ok (.invokevirtual 184, 3) := by decide +kernel
theorem dX12_parseBand_70 : decode cX12_parseBand 70 = .ok (.istore_n 3, 1) := by decide +kernel
theorem dX12_parseBand_71 : decode cX12_parseBand 71 = .ok (.aload_n 0, 1) := by decide +kernel
theorem dX12_parseBand_72 : decode cX12_parseBand 72 = .ok (.invokevirtual 73, 3) := by decide +kernel
theorem dX12_parseBand_75 : decode cX12_parseBand 75 = .ok (.ifCond .ne 4, 3) := by decide +kernel
theorem dX12_parseBand_78 : decode cX12_parseBand 78 = .ok (.return_, 1) := by decide +kernel
theorem dX12_parseBand_79 : decode cX12_parseBand 79 = .ok (.aload_n 0, 1) := by decide +kernel
theorem dX12_parseBand_80 : decode cX12_parseBand 80 = .ok (.getfield 24, 3) := by decide +kernel
theorem dX12_parseBand_83 : decode cX12_parseBand 83 = .ok (.bipush 12, 2) := by decide +kernel
theorem dX12_parseBand_85 : decode cX12_parseBand 85 = .ok (.iload_n 1, 1) := by decide +kernel
theorem dX12_parseBand_86 : decode cX12_parseBand 86 = .ok (.iadd, 1) := by decide +kernel
theorem dX12_parseBand_87 : decode cX12_parseBand 87 = .ok (.iload_n 2, 1) := by decide +kernel
theorem dX12_parseBand_88 : decode cX12_parseBand 88 = .ok (.iastore, 1) := by decide +kernel
theorem dX12_parseBand_89 : decode cX12_parseBand 89 = .ok (.aload_n 0, 1) := by decide +kernel
theorem dX12_parseBand_90 : decode cX12_parseBand 90 = .ok (.getfield 24, 3) := by decide +kernel
theorem dX12_parseBand_93 : decode cX12_parseBand 93 = .ok (.bipush 22, 2) := by decide +kernel
theorem dX12_parseBand_95 : decode cX12_parseBand 95 = .ok (.iload_n 1, 1) := by decide +kernel
theorem dX12_parseBand_96 : decode cX12_parseBand 96 = .ok (.iadd, 1) := by decide +kernel
theorem dX12_parseBand_97 : decode cX12_parseBand 97 = .ok (.iload_n 3, 1) := by decide +kernel
theorem dX12_parseBand_98 : decode cX12_parseBand 98 = .ok (.iastore, 1) := by decide +kernel
theorem dX12_parseBand_99 : decode cX12_parseBand 99 = .ok (.aload_n 0, 1) := by decide +kernel
theorem dX12_parseBand_100 : decode cX12_parseBand 100 = .ok (.getfield 24, 3) := by decide +kernel
theorem dX12_parseBand_103 : decode cX12_parseBand 103 = .ok (.bipush 6, 2) := by decide +kernel
theorem dX12_parseBand_105 : decode cX12_parseBand 105 = .ok (.dup2, 1) := by decide +kernel
theorem dX12_parseBand_106 : decode cX12_parseBand 106 = .ok (.iaload, 1) := by decide +kernel
theorem dX12_parseBand_107 : decode cX12_parseBand 107 = .ok (.iconst 1, 1) := by decide +kernel
theorem dX12_parseBand_108 : decode cX12_parseBand 108 = .ok (.iadd, 1) := by decide +kernel
theorem dX12_parseBand_109 : decode cX12_parseBand 109 = .ok (.iastore, 1) := by decide +kernel
theorem dX12_parseBand_110 : decode cX12_parseBand 110 = .ok (.return_, 1) := by decide +kernel
theorem dX12_parseRebate_0 : decode cX12_parseRebate 0 = .ok (.aload_n 0, 1) := by decide +kernel
theorem dX12_parseRebate_1 : decode cX12_parseRebate 1 = .ok (.getfield 24, 3) := by decide +kernel
theorem dX12_parseRebate_4 : decode cX12_parseRebate 4 = .ok (.bipush 7, 2) := by decide +kernel
theorem dX12_parseRebate_6 : decode cX12_parseRebate 6 = .ok (.iaload, 1) := by decide +kernel
theorem dX12_parseRebate_7 : decode cX12_parseRebate 7 = .ok (.istore_n 1, 1) := by decide +kernel
theorem dX12_parseRebate_8 : decode cX12_parseRebate 8 = .ok (.iload_n 1, 1) := by decide +kernel
theorem dX12_parseRebate_9 : decode cX12_parseRebate 9 = .ok (.iconst 4, 1) := by decide +kernel
theorem dX12_parseRebate_10 : decode cX12_parseRebate 10 = .ok (.if_icmp .ne 8, 3) := by decide +kernel
theorem dX12_parseRebate_13 : decode cX12_parseRebate 13 = .ok (.aload_n 0, 1) := by decide +kernel
theorem dX12_parseRebate_14 : decode cX12_parseRebate 14 = .ok (.iconst 4, 1) := by decide +kernel
theorem dX12_parseRebate_15 : decode cX12_parseRebate 15 = .ok (.invokevirtual 161, 3) := by decide +kernel
theorem dX12_parseRebate_18 : decode cX12_parseRebate 18 = .ok (.aload_n 0, 1) := by decide +kernel
theorem dX12_parseRebate_19 : decode cX12_parseRebate 19 = .ok (.invokevirtual 164, 3) := by decide +kernel
theorem dX12_parseRebate_22 : decode cX12_parseRebate 22 = .ok (.aload_n 0, 1) := by decide +kernel
theorem dX12_parseRebate_23 : decode cX12_parseRebate 23 = .ok (.iload_n 1, 1) := by decide +kernel
theorem dX12_parseRebate_24 : decode cX12_parseRebate 24 = .ok (.ifCond .ne 7, 3) := by decide +kernel
theorem dX12_parseRebate_27 : decode cX12_parseRebate 27 = .ok (.iconst 2, 1) := by decide +kernel
theorem dX12_parseRebate_28 : decode cX12_parseRebate 28 = .ok (.goto 16, 3) := by decide +kernel
theorem dX12_parseRebate_31 : decode cX12_parseRebate 31 = .ok (.aload_n 0, 1) := by decide +kernel
theorem dX12_parseRebate_32 : decode cX12_parseRebate 32 = .ok (.getfield 24, 3) := by decide +kernel
theorem dX12_parseRebate_35 : decode cX12_parseRebate 35 = .ok (.bipush 18, 2) := by decide +kernel
theorem dX12_parseRebate_37 : decode cX12_parseRebate 37 = .ok (.iload_n 1, 1) := by decide +kernel
theorem dX12_parseRebate_38 : decode cX12_parseRebate 38 = .ok (.iadd, 1) := by decide +kernel
theorem dX12_parseRebate_39 : decode cX12_parseRebate 39 = .ok (.iconst 1, 1) := by decide +kernel
theorem dX12_parseRebate_40 : decode cX12_parseRebate 40 = .ok (.isub, 1) := by decide +kernel
theorem dX12_parseRebate_41 : decode cX12_parseRebate 41 = .ok (.iaload, 1) := by decide +kernel
theorem dX12_parseRebate_42 : decode cX12_parseRebate 42 = .ok (.iconst 1, 1) := by decide +kernel
theorem dX12_parseRebate_43 : decode cX12_parseRebate 43 = .ok (.iadd, 1) := by decide +kernel
theorem dX12_parseRebate_44 : decode cX12_parseRebate 44 = .ok (.bipush 99, 2) := by decide +kernel
theorem dX12_parseRebate_46 : decode cX12_parseRebate 46 = .ok (.invokevirtual 171, 3) := by decide +kernel
theorem dX12_parseRebate_49 : decode cX12_parseRebate 49 = .ok (.istore_n 2, 1) := by decide +kernel
theorem dX12_parseRebate_50 : decode cX12_parseRebate 50 = .ok (.aload_n 0, 1) := by decide +kernel
theorem dX12_parseRebate_51 : decode cX12_parseRebate 51 = .ok (.ldc 138, 2) := by decide +kernel
theorem dX12_parseRebate_53 : decode cX12_parseRebate 53 = .ok (.iconst 0, 1) := by decide +kernel
theorem dX12_parseRebate_54 : decode cX12_parseRebate 54 = .ok (.bipush 100, 2) := by decide +kernel
theorem dX12_parseRebate_56 : decode cX12_parseRebate 56 = .ok (.invokevirtual 184, 3) := by decide +kernel
theorem dX12_parseRebate_59 : decode cX12_parseRebate 59 = .ok (.istore_n 3, 1) := by decide +kernel
theorem dX12_parseRebate_60 : decode cX12_parseRebate 60 = .ok (.aload_n 0, 1) := by decide +kernel
theorem dX12_parseRebate_61 : decode cX12_parseRebate 61 = .ok (.invokevirtual 73, 3) := by decide +kernel
theorem dX12_parseRebate_64 : decode cX12_parseRebate 64 = .ok (.ifCond .ne 4, 3) := by decide +kernel
theorem dX12_parseRebate_67 : decode cX12_parseRebate 67 = .ok (.return_, 1) := by decide +kernel
theorem dX12_parseRebate_68 : decode cX12_parseRebate 68 = .ok (.aload_n 0, 1) := by decide +kernel
theorem dX12_parseRebate_69 : decode cX12_parseRebate 69 = .ok (.getfield 24, 3) := by decide +kernel
theorem dX12_parseRebate_72 : decode cX12_parseRebate 72 = .ok (.bipush 18, 2) := by decide +kernel
theorem dX12_parseRebate_74 : decode cX12_parseRebate 74 = .ok (.iload_n 1, 1) := by decide +kernel
theorem dX12_parseRebate_75 : decode cX12_parseRebate 75 = .ok (.iadd, 1) := by decide +kernel
theorem dX12_parseRebate_76 : decode cX12_parseRebate 76 = .ok (.iload_n 2, 1) := by decide +kernel
theorem dX12_parseRebate_77 : decode cX12_parseRebate 77 = .ok (.iastore, 1) := by decide +kernel
theorem dX12_parseRebate_78 : decode cX12_parseRebate 78 = .ok (.aload_n 0, 1) := by decide +kernel
theorem dX12_parseRebate_79 : decode cX12_parseRebate 79 = .ok (.getfield 24, 3) := by decide +kernel
theorem dX12_parseRebate_82 : decode cX12_parseRebate 82 = .ok (.bipush 28, 2) := by decide +kernel
theorem dX12_parseRebate_84 : decode cX12_parseRebate 84 = .ok (.iload_n 1, 1) := by decide +kernel
theorem dX12_parseRebate_85 : decode cX12_parseRebate 85 = .ok (.iadd, 1) := by decide +kernel
theorem dX12_parseRebate_86 : decode cX12_parseRebate 86 = .ok (.iload_n 3, 1) := by decide +kernel
theorem dX12_parseRebate_87 : decode cX12_parseRebate 87 = .ok (.iastore, 1) := by decide +kernel
theorem dX12_parseRebate_88 : decode cX12_parseRebate 88 = .ok (.aload_n 0, 1) := by decide +kernel
theorem dX12_parseRebate_89 : decode cX12_parseRebate 89 = .ok (.getfield 24, 3) := by decide +kernel
theorem dX12_parseRebate_92 : decode cX12_parseRebate 92 = .ok (.bipush 7, 2) := by decide +kernel
theorem dX12_parseRebate_94 : decode cX12_parseRebate 94 = .ok (.dup2, 1) := by decide +kernel
theorem dX12_parseRebate_95 : decode cX12_parseRebate 95 = .ok (.iaload, 1) := by decide +kernel
theorem dX12_parseRebate_96 : decode cX12_parseRebate 96 = .ok (.iconst 1, 1) := by decide +kernel
theorem dX12_parseRebate_97 : decode cX12_parseRebate 97 = .ok (.iadd, 1) := by decide +kernel
theorem dX12_parseRebate_98 : decode cX12_parseRebate 98 = .ok (.iastore, 1) := by decide +kernel
theorem dX12_parseRebate_99 : decode cX12_parseRebate 99 = .ok (.return_, 1) := by decide +kernel
theorem dX12_parseWaste_0 : decode cX12_parseWaste 0 = .ok (.aload_n 0, 1) := by decide +kernel
theorem dX12_parseWaste_1 : decode cX12_parseWaste 1 = .ok (.getfield 188, 3) := by decide +kernel
theorem dX12_parseWaste_4 : decode cX12_parseWaste 4 = .ok (.ifCond .eq 8, 3) := by decide +kernel
theorem dX12_parseWaste_7 : decode cX12_parseWaste 7 = .ok (.aload_n 0, 1) := by decide +kernel
theorem dX12_parseWaste_8 : decode cX12_parseWaste 8 = .ok (.iconst 3, 1) := by decide +kernel
theorem dX12_parseWaste_9 : decode cX12_parseWaste 9 = .ok (.invokevirtual 161, 3) := by decide +kernel
theorem dX12_parseWaste_12 : decode cX12_parseWaste 12 = .ok (.aload_n 0, 1) := by decide +kernel
theorem dX12_parseWaste_13 : decode cX12_parseWaste 13 = .ok (.iconst 1, 1) := by decide +kernel
theorem dX12_parseWaste_14 : decode cX12_parseWaste 14 = .ok (.putfield 188, 3) := by decide +kernel
theorem dX12_parseWaste_17 : decode cX12_parseWaste 17 = .ok (.aload_n 0, 1) := by decide +kernel
theorem dX12_parseWaste_18 : decode cX12_parseWaste 18 = .ok (.invokevirtual 164, 3) := by decide +kernel
theorem dX12_parseWaste_21 : decode cX12_parseWaste 21 = .ok (.aload_n 0, 1) := by decide +kernel
theorem dX12_parseWaste_22 : decode cX12_parseWaste 22 = .ok (.getfield 24, 3) := by decide +kernel
theorem dX12_parseWaste_25 : decode cX12_parseWaste 25 = .ok (.bipush 9, 2) := by decide +kernel
theorem dX12_parseWaste_27 : decode cX12_parseWaste 27 = .ok (.aload_n 0, 1) := by decide +kernel
theorem dX12_parseWaste_28 : decode cX12_parseWaste 28 = .ok (.ldc 142, 2) := by decide +kernel
theorem dX12_parseWaste_30 : decode cX12_parseWaste 30 = .ok (.iconst 0, 1) := by decide +kernel
theorem dX12_parseWaste_31 : decode cX12_parseWaste 31 = .ok (.sipush 9999, 3) := by decide +kernel
theorem dX12_parseWaste_34 : decode cX12_parseWaste 34 = .ok (.invokevirtual 184, 3) := by decide +kernel
theorem dX12_parseWaste_37 : decode cX12_parseWaste 37 = .ok (.iastore, 1) := by decide +kernel
theorem dX12_parseWaste_38 : decode cX12_parseWaste 38 = .ok (.aload_n 0, 1) := by decide +kernel
theorem dX12_parseWaste_39 : decode cX12_parseWaste 39 = .ok (.getfield 24, 3) := by decide +kernel
theorem dX12_parseWaste_42 : decode cX12_parseWaste 42 = .ok (.bipush 10, 2) := by decide +kernel
theorem dX12_parseWaste_44 : decode cX12_parseWaste 44 = .ok (.aload_n 0, 1) := by decide +kernel
theorem dX12_parseWaste_45 : decode cX12_parseWaste 45 = .ok (.ldc 144, 2) := by decide +kernel
theorem dX12_parseWaste_47 : decode cX12_parseWaste 47 = .ok (.iconst 0, 1) := by decide +kernel
theorem dX12_parseWaste_48 : decode cX12_parseWaste 48 = .ok (.sipush 999, 3) := by decide +kernel
theorem dX12_parseWaste_51 : decode cX12_parseWaste 51 = .ok (.invokevirtual 184, 3) := by decide +kernel
theorem dX12_parseWaste_54 : decode cX12_parseWaste 54 = .ok (.iastore, 1) := by decide +kernel
theorem dX12_parseWaste_55 : decode cX12_parseWaste 55 = .ok (.aload_n 0, 1) := by decide +kernel
theorem dX12_parseWaste_56 : decode cX12_parseWaste 56 = .ok (.getfield 24, 3) := by decide +kernel
theorem dX12_parseWaste_59 : decode cX12_parseWaste 59 = .ok (.bipush 11, 2) := by decide +kernel
theorem dX12_parseWaste_61 : decode cX12_parseWaste 61 = .ok (.aload_n 0, 1) := by decide +kernel
theorem dX12_parseWaste_62 : decode cX12_parseWaste 62 = .ok (.ldc 146, 2) := by decide +kernel
theorem dX12_parseWaste_64 : decode cX12_parseWaste 64 = .ok (.iconst 0, 1) := by decide +kernel
theorem dX12_parseWaste_65 : decode cX12_parseWaste 65 = .ok (.sipush 999, 3) := by decide +kernel
theorem dX12_parseWaste_68 : decode cX12_parseWaste 68 = .ok (.invokevirtual 184, 3) := by decide +kernel
theorem dX12_parseWaste_71 : decode cX12_parseWaste 71 = .ok (.iastore, 1) := by decide +kernel
theorem dX12_parseWaste_72 : decode cX12_parseWaste 72 = .ok (.return_, 1) := by decide +kernel
theorem dX12_parseLay_0 : decode cX12_parseLay 0 = .ok (.aload_n 0, 1) := by decide +kernel
theorem dX12_parseLay_1 : decode cX12_parseLay 1 = .ok (.getfield 191, 3) := by decide +kernel
theorem dX12_parseLay_4 : decode cX12_parseLay 4 = .ok (.ifCond .eq 8, 3) := by decide +kernel
theorem dX12_parseLay_7 : decode cX12_parseLay 7 = .ok (.aload_n 0, 1) := by decide +kernel
theorem dX12_parseLay_8 : decode cX12_parseLay 8 = .ok (.iconst 3, 1) := by decide +kernel
theorem dX12_parseLay_9 : decode cX12_parseLay 9 = .ok (.invokevirtual 161, 3) := by decide +kernel
theorem dX12_parseLay_12 : decode cX12_parseLay 12 = .ok (.aload_n 0, 1) := by decide +kernel
theorem dX12_parseLay_13 : decode cX12_parseLay 13 = .ok (.iconst 1, 1) := by decide +kernel
theorem dX12_parseLay_14 : decode cX12_parseLay 14 = .ok (.putfield 191, 3) := by decide +kernel
theorem dX12_parseLay_17 : decode cX12_parseLay 17 = .ok (.aload_n 0, 1) := by decide +kernel
theorem dX12_parseLay_18 : decode cX12_parseLay 18 = .ok (.invokevirtual 164, 3) := by decide +kernel
theorem dX12_parseLay_21 : decode cX12_parseLay 21 = .ok (.aload_n 0, 1) := by decide +kernel
theorem dX12_parseLay_22 : decode cX12_parseLay 22 = .ok (.getfield 24, 3) := by decide +kernel
theorem dX12_parseLay_25 : decode cX12_parseLay 25 = .ok (.bipush 32, 2) := by decide +kernel
theorem dX12_parseLay_27 : decode cX12_parseLay 27 = .ok (.aload_n 0, 1) := by decide +kernel
theorem dX12_parseLay_28 : decode cX12_parseLay 28 = .ok (.ldc 144, 2) := by decide +kernel
theorem dX12_parseLay_30 : decode cX12_parseLay 30 = .ok (.iconst 0, 1) := by decide +kernel
theorem dX12_parseLay_31 : decode cX12_parseLay 31 = .ok (.bipush 30, 2) := by decide +kernel
theorem dX12_parseLay_33 : decode cX12_parseLay 33 = .ok (.invokevirtual 184, 3) := by decide +kernel
theorem dX12_parseLay_36 : decode cX12_parseLay 36 = .ok (.iastore, 1) := by decide +kernel
theorem dX12_parseLay_37 : decode cX12_parseLay 37 = .ok (.aload_n 0, 1) := by decide +kernel
theorem dX12_parseLay_38 : decode cX12_parseLay 38 = .ok (.getfield 24, 3) := by decide +kernel
theorem dX12_parseLay_41 : decode cX12_parseLay 41 = .ok (.bipush 33, 2) := by decide +kernel
theorem dX12_parseLay_43 : decode cX12_parseLay 43 = .ok (.aload_n 0, 1) := by decide +kernel
theorem dX12_parseLay_44 : decode cX12_parseLay 44 = .ok (.ldc 134, 2) := by decide +kernel
theorem dX12_parseLay_46 : decode cX12_parseLay 46 = .ok (.iconst 0, 1) := by decide +kernel
theorem dX12_parseLay_47 : decode cX12_parseLay 47 = .ok (.sipush 9999, 3) := by decide +kernel
theorem dX12_parseLay_50 : decode cX12_parseLay 50 = .ok (.invokevirtual 184, 3) := by decide +kernel
theorem dX12_parseLay_53 : decode cX12_parseLay 53 = .ok (.iastore, 1) := by decide +kernel
theorem dX12_parseLay_54 : decode cX12_parseLay 54 = .ok (.return_, 1) := by decide +kernel
theorem dX12_parseShip_0 : decode cX12_parseShip 0 = .ok (.aload_n 0, 1) := by decide +kernel
theorem dX12_parseShip_1 : decode cX12_parseShip 1 = .ok (.getfield 24, 3) := by decide +kernel
theorem dX12_parseShip_4 : decode cX12_parseShip 4 = .ok (.iconst 0, 1) := by decide +kernel
theorem dX12_parseShip_5 : decode cX12_parseShip 5 = .ok (.iaload, 1) := by decide +kernel
theorem dX12_parseShip_6 : decode cX12_parseShip 6 = .ok (.istore_n 1, 1) := by decide +kernel
theorem dX12_parseShip_7 : decode cX12_parseShip 7 = .ok (.iload_n 1, 1) := by decide +kernel
theorem dX12_parseShip_8 : decode cX12_parseShip 8 = .ok (.bipush 8, 2) := by decide +kernel
theorem dX12_parseShip_10 : decode cX12_parseShip 10 = .ok (.if_icmp .ne 8, 3) := by decide +kernel
theorem dX12_parseShip_13 : decode cX12_parseShip 13 = .ok (.aload_n 0, 1) := by decide +kernel
theorem dX12_parseShip_14 : decode cX12_parseShip 14 = .ok (.iconst 4, 1) := by decide +kernel
theorem dX12_parseShip_15 : decode cX12_parseShip 15 = .ok (.invokevirtual 161, 3) := by decide +kernel
theorem dX12_parseShip_18 : decode cX12_parseShip 18 = .ok (.aload_n 0, 1) := by decide +kernel
theorem dX12_parseShip_19 : decode cX12_parseShip 19 = .ok (.invokevirtual 164, 3) := by decide +kernel
theorem dX12_parseShip_22 : decode cX12_parseShip 22 = .ok (.aload_n 0, 1) := by decide +kernel
theorem dX12_parseShip_23 : decode cX12_parseShip 23 = .ok (.invokevirtual 194, 3) := by decide +kernel
theorem dX12_parseShip_26 : decode cX12_parseShip 26 = .ok (.aload_n 0, 1) := by decide +kernel
theorem dX12_parseShip_27 : decode cX12_parseShip 27 = .ok (.invokevirtual 73, 3) := by decide +kernel
theorem dX12_parseShip_30 : decode cX12_parseShip 30 = .ok (.ifCond .eq 16, 3) := by decide +kernel
theorem dX12_parseShip_33 : decode cX12_parseShip 33 = .ok (.aload_n 0, 1) := by decide +kernel
theorem dX12_parseShip_34 : decode cX12_parseShip 34 = .ok (.invokevirtual 197, 3) := by decide +kernel
theorem dX12_parseShip_37 : decode cX12_parseShip 37 = .ok (.iconst (-1), 1) := by decide +kernel
theorem dX12_parseShip_38 : decode cX12_parseShip 38 = .ok (.if_icmp .eq 8, 3) := by decide +kernel
theorem dX12_parseShip_41 : decode cX12_parseShip 41 = .ok (.aload_n 0, 1) := by decide +kernel
theorem dX12_parseShip_42 : decode cX12_parseShip 42 = .ok (.iconst 3, 1) := by decide +kernel
theorem dX12_parseShip_43 : decode cX12_parseShip 43 = .ok (.invokevirtual 161, 3) := by decide +kernel
theorem dX12_parseShip_46 : decode cX12_parseShip 46 = .ok (.aload_n 0, 1) := by decide +kernel
theorem dX12_parseShip_47 : decode cX12_parseShip 47 = .ok (.invokevirtual 73, 3) := by decide +kernel
theorem dX12_parseShip_50 : decode cX12_parseShip 50 = .ok (.ifCond .ne 4, 3) := by decide +kernel
theorem dX12_parseShip_53 : decode cX12_parseShip 53 = .ok (.return_, 1) := by decide +kernel
theorem dX12_parseShip_54 : decode cX12_parseShip 54 = .ok (.iconst 0, 1) := by decide +kernel
theorem dX12_parseShip_55 : decode cX12_parseShip 55 = .ok (.istore_n 2, 1) := by decide +kernel
theorem dX12_parseShip_56 : decode cX12_parseShip 56 = .ok (.iload_n 2, 1) := by decide +kernel
theorem dX12_parseShip_57 : decode cX12_parseShip 57 = .ok (.bipush 6, 2) := by decide +kernel
theorem dX12_parseShip_59 : decode cX12_parseShip 59 = .ok (.if_icmp .ge 31, 3) := by decide +kernel
theorem dX12_parseShip_62 : decode cX12_parseShip 62 = .ok (.aload_n 0, 1) := by decide +kernel
theorem dX12_parseShip_63 : decode cX12_parseShip 63 = .ok (.getfield 24, 3) := by decide +kernel
theorem dX12_parseShip_66 : decode cX12_parseShip 66 = .ok (.sipush 274, 3) := by decide +kernel
theorem dX12_parseShip_69 : decode cX12_parseShip 69 = .ok (.bipush 7, 2) := by decide +kernel
theorem dX12_parseShip_71 : decode cX12_parseShip 71 = .ok (.iload_n 1, 1) := by decide +kernel
theorem dX12_parseShip_72 : decode cX12_parseShip 72 = .ok (.imul, 1) := by decide +kernel
theorem dX12_parseShip_73 : decode cX12_parseShip 73 = .ok (.iadd, 1) := by decide +kernel
theorem dX12_parseShip_74 : decode cX12_parseShip 74 = .ok (.iconst 1, 1) := by decide +kernel
theorem dX12_parseShip_75 : decode cX12_parseShip 75 = .ok (.iadd, 1) := by decide +kernel
theorem dX12_parseShip_76 : decode cX12_parseShip 76 = .ok (.iload_n 2, 1) := by decide +kernel
theorem dX12_parseShip_77 : decode cX12_parseShip 77 = .ok (.iadd, 1) := by decide +kernel
theorem dX12_parseShip_78 : decode cX12_parseShip 78 = .ok (.aload_n 0, 1) := by decide +kernel
theorem dX12_parseShip_79 : decode cX12_parseShip 79 = .ok (.iload_n 2, 1) := by decide +kernel
theorem dX12_parseShip_80 : decode cX12_parseShip 80 = .ok (.invokevirtual 174, 3) := by decide +kernel
theorem dX12_parseShip_83 : decode cX12_parseShip 83 = .ok (.iastore, 1) := by decide +kernel
theorem dX12_parseShip_84 : decode cX12_parseShip 84 = .ok (.iinc 2 1, 3) := by decide +kernel
theorem dX12_parseShip_87 : decode cX12_parseShip 87 = .ok (.goto (-31), 3) := by decide +kernel
theorem dX12_parseShip_90 : decode cX12_parseShip 90 = .ok (.aload_n 0, 1) := by decide +kernel
theorem dX12_parseShip_91 : decode cX12_parseShip 91 = .ok (.invokevirtual 164, 3) := by decide +kernel
theorem dX12_parseShip_94 : decode cX12_parseShip 94 = .ok (.aload_n 0, 1) := by decide +kernel
theorem dX12_parseShip_95 : decode cX12_parseShip 95 = .ok (.getfield 24, 3) := by decide +kernel
theorem dX12_parseShip_98 : decode cX12_parseShip 98 = .ok (.sipush 274, 3) := by decide +kernel
theorem dX12_parseShip_101 : decode cX12_parseShip 101 = .ok (.bipush 7, 2) := by decide +kernel
theorem dX12_parseShip_103 : decode cX12_parseShip 103 = .ok (.iload_n 1, 1) := by decide +kernel
theorem dX12_parseShip_104 : decode cX12_parseShip 104 = .ok (.imul, 1) := by decide +kernel
theorem dX12_parseShip_105 : decode cX12_parseShip 105 = .ok (.iadd, 1) := by decide +kernel
theorem dX12_parseShip_106 : decode cX12_parseShip 106 = .ok (.iconst 0, 1) := by decide +kernel
theorem dX12_parseShip_107 : decode cX12_parseShip 107 = .ok (.iadd, 1) := by decide +kernel
theorem dX12_parseShip_108 : decode cX12_parseShip 108 = .ok (.aload_n 0, 1) := by decide +kernel
theorem dX12_parseShip_109 : decode cX12_parseShip 109 = .ok (.ldc 152, 2) := by decide +kernel
theorem dX12_parseShip_111 : decode cX12_parseShip 111 = .ok (.iconst 1, 1) := by decide +kernel
theorem dX12_parseShip_112 : decode cX12_parseShip 112 = .ok (.sipush 9999, 3) := by decide +kernel
theorem dX12_parseShip_115 : decode cX12_parseShip 115 = .ok (.invokevirtual 184, 3) := by decide +kernel
theorem dX12_parseShip_118 : decode cX12_parseShip 118 = .ok (.iastore, 1) := by decide +kernel
theorem dX12_parseShip_119 : decode cX12_parseShip 119 = .ok (.aload_n 0, 1) := by decide +kernel
theorem dX12_parseShip_120 : decode cX12_parseShip 120 = .ok (.invokevirtual 73, 3) := by decide +kernel
theorem dX12_parseShip_123 : decode cX12_parseShip 123 = .ok (.ifCond .eq 13, 3) := by decide +kernel
theorem dX12_parseShip_126 : decode cX12_parseShip 126 = .ok (.aload_n 0, 1) := by decide +kernel
theorem dX12_parseShip_127 : decode cX12_parseShip 127 = .ok (.getfield 24, 3) := by decide +kernel
theorem dX12_parseShip_130 : decode cX12_parseShip 130 = .ok (.iconst 0, 1) := by decide +kernel
theorem dX12_parseShip_131 : decode cX12_parseShip 131 = .ok (.dup2, 1) := by decide +kernel
theorem dX12_parseShip_132 : decode cX12_parseShip 132 = .ok (.iaload, 1) := by decide +kernel
theorem dX12_parseShip_133 : decode cX12_parseShip 133 = .ok (.iconst 1, 1) := by decide +kernel
theorem dX12_parseShip_134 : decode cX12_parseShip 134 = .ok (.iadd, 1) := by decide +kernel
theorem dX12_parseShip_135 : decode cX12_parseShip 135 = .ok (.iastore, 1) := by decide +kernel
theorem dX12_parseShip_136 : decode cX12_parseShip 136 = .ok (.return_, 1) := by decide +kernel
theorem dX12_parseCall_0 : decode cX12_parseCall 0 = .ok (.aload_n 0, 1) := by decide +kernel
theorem dX12_parseCall_1 : decode cX12_parseCall 1 = .ok (.getfield 24, 3) := by decide +kernel
theorem dX12_parseCall_4 : decode cX12_parseCall 4 = .ok (.iconst 1, 1) := by decide +kernel
theorem dX12_parseCall_5 : decode cX12_parseCall 5 = .ok (.iaload, 1) := by decide +kernel
theorem dX12_parseCall_6 : decode cX12_parseCall 6 = .ok (.istore_n 1, 1) := by decide +kernel
theorem dX12_parseCall_7 : decode cX12_parseCall 7 = .ok (.iload_n 1, 1) := by decide +kernel
theorem dX12_parseCall_8 : decode cX12_parseCall 8 = .ok (.bipush 20, 2) := by decide +kernel
theorem dX12_parseCall_10 : decode cX12_parseCall 10 = .ok (.if_icmp .ne 8, 3) := by decide +kernel
theorem dX12_parseCall_13 : decode cX12_parseCall 13 = .ok (.aload_n 0, 1) := by decide +kernel
theorem dX12_parseCall_14 : decode cX12_parseCall 14 = .ok (.iconst 4, 1) := by decide +kernel
theorem dX12_parseCall_15 : decode cX12_parseCall 15 = .ok (.invokevirtual 161, 3) := by decide +kernel
theorem dX12_parseCall_18 : decode cX12_parseCall 18 = .ok (.aload_n 0, 1) := by decide +kernel
theorem dX12_parseCall_19 : decode cX12_parseCall 19 = .ok (.invokevirtual 164, 3) := by decide +kernel
theorem dX12_parseCall_22 : decode cX12_parseCall 22 = .ok (.aload_n 0, 1) := by decide +kernel
theorem dX12_parseCall_23 : decode cX12_parseCall 23 = .ok (.invokevirtual 194, 3) := by decide +kernel
theorem dX12_parseCall_26 : decode cX12_parseCall 26 = .ok (.aload_n 0, 1) := by decide +kernel
theorem dX12_parseCall_27 : decode cX12_parseCall 27 = .ok (.invokevirtual 73, 3) := by decide +kernel
theorem dX12_parseCall_30 : decode cX12_parseCall 30 = .ok (.ifCond .eq 10, 3) := by decide +kernel
theorem dX12_parseCall_33 : decode cX12_parseCall 33 = .ok (.aload_n 0, 1) := by decide +kernel
theorem dX12_parseCall_34 : decode cX12_parseCall 34 = .ok (.invokevirtual 197, 3) := by decide +kernel
theorem dX12_parseCall_37 : decode cX12_parseCall 37 = .ok (.goto 4, 3) := by decide +kernel
theorem dX12_parseCall_40 : decode cX12_parseCall 40 = .ok (.iconst (-1), 1) := by decide +kernel
theorem dX12_parseCall_41 : decode cX12_parseCall 41 = .ok (.istore_n 2, 1) := by decide +kernel
theorem dX12_parseCall_42 : decode cX12_parseCall 42 = .ok (.iload_n 2, 1) := by decide +kernel
theorem dX12_parseCall_43 : decode cX12_parseCall 43 = .ok (.iconst (-1), 1) := by decide +kernel
theorem dX12_parseCall_44 : decode cX12_parseCall 44 = .ok (.if_icmp .ne 8, 3) := by decide +kernel
theorem dX12_parseCall_47 : decode cX12_parseCall 47 = .ok (.aload_n 0, 1) := by decide +kernel
theorem dX12_parseCall_48 : decode cX12_parseCall 48 = .ok (.iconst 3, 1) := by decide +kernel
theorem dX12_parseCall_49 : decode cX12_parseCall 49 = .ok (.invokevirtual 161, 3) := by decide +kernel
theorem dX12_parseCall_52 : decode cX12_parseCall 52 = .ok (.aload_n 0, 1) := by decide +kernel
theorem dX12_parseCall_53 : decode cX12_parseCall 53 = .ok (.invokevirtual 164, 3) := by decide +kernel
theorem dX12_parseCall_56 : decode cX12_parseCall 56 = .ok (.aload_n 0, 1) := by decide +kernel
theorem dX12_parseCall_57 : decode cX12_parseCall 57 = .ok (.iconst 0, 1) := by decide +kernel
theorem dX12_parseCall_58 : decode cX12_parseCall 58 = .ok (.sipush 3599, 3) := by decide +kernel
theorem dX12_parseCall_61 : decode cX12_parseCall 61 = .ok (.invokevirtual 171, 3) := by decide +kernel
theorem dX12_parseCall_64 : decode cX12_parseCall 64 = .ok (.istore_n 3, 1) := by decide +kernel
theorem dX12_parseCall_65 : decode cX12_parseCall 65 = .ok (.aload_n 0, 1) := by decide +kernel
theorem dX12_parseCall_66 : decode cX12_parseCall 66 = .ok (.ldc 156, 2) := by decide +kernel
theorem dX12_parseCall_68 : decode cX12_parseCall 68 = .ok (.invokevirtual 167, 3) := by decide +kernel
theorem dX12_parseCall_71 : decode cX12_parseCall 71 = .ok (.aload_n 0, 1) := by decide +kernel
theorem dX12_parseCall_72 : decode cX12_parseCall 72 = .ok (.iload_n 3, 1) := by decide +kernel
theorem dX12_parseCall_73 : decode cX12_parseCall 73 = .ok (.iload_n 3, 1) := by decide +kernel
theorem dX12_parseCall_74 : decode cX12_parseCall 74 = .ok (.bipush 29, 2) := by decide +kernel
theorem dX12_parseCall_76 : decode cX12_parseCall 76 = .ok (.iadd, 1) := by decide +kernel
theorem dX12_parseCall_77 : decode cX12_parseCall 77 = .ok (.invokevirtual 171, 3) := by decide +kernel
theorem dX12_parseCall_80 : decode cX12_parseCall 80 = .ok (.istore 4, 2) := by decide +kernel
theorem dX12_parseCall_82 : decode cX12_parseCall 82 = .ok (.aload_n 0, 1) := by decide +kernel
theorem dX12_parseCall_83 : decode cX12_parseCall 83 = .ok (.ldc 140, 2) := by decide +kernel
theorem dX12_parseCall_85 : decode cX12_parseCall 85 = .ok (.iconst 0, 1) := by decide +kernel
theorem dX12_parseCall_86 : decode cX12_parseCall 86 = .ok (.sipush 999, 3) := by decide +kernel
theorem dX12_parseCall_89 : decode cX12_parseCall 89 = .ok (.invokevirtual 184, 3) := by decide +kernel
theorem dX12_parseCall_92 : decode cX12_parseCall 92 = .ok (.istore 5, 2) := by decide +kernel
theorem dX12_parseCall_94 : decode cX12_parseCall 94 = .ok (.aload_n 0, 1) := by decide +kernel
theorem dX12_parseCall_95 : decode cX12_parseCall 95 = .ok (.invokevirtual 73, 3) := by decide +kernel
theorem dX12_parseCall_98 : decode cX12_parseCall 98 = .ok (.ifCond .ne 4, 3) := by decide +kernel
theorem dX12_parseCall_101 : decode cX12_parseCall 101 = .ok (.return_, 1) := by decide +kernel
theorem dX12_parseCall_102 : decode cX12_parseCall 102 = .ok (.aload_n 0, 1) := by decide +kernel
theorem dX12_parseCall_103 : decode cX12_parseCall 103 = .ok (.iload_n 1, 1) := by decide +kernel
theorem dX12_parseCall_104 : decode cX12_parseCall 104 = .ok (.iload_n 2, 1) := by decide +kernel
theorem dX12_parseCall_105 : decode cX12_parseCall 105 = .ok (.iload_n 3, 1) := by decide +kernel
theorem dX12_parseCall_106 : decode cX12_parseCall 106 = .ok (.iload 4, 2) := by decide +kernel
theorem dX12_parseCall_108 : decode cX12_parseCall 108 = .ok (.iload 5, 2) := by decide +kernel
theorem dX12_parseCall_110 : decode cX12_parseCall 110 = .ok (.invokevirtual 200, 3) := by decide +kernel
theorem dX12_parseCall_113 : decode cX12_parseCall 113 = .ok (.aload_n 0, 1) := by decide +kernel
theorem dX12_parseCall_114 : decode cX12_parseCall 114 = .ok (.getfield 24, 3) := by decide +kernel
theorem dX12_parseCall_117 : decode cX12_parseCall 117 = .ok (.iconst 1, 1) := by decide +kernel
theorem dX12_parseCall_118 : decode cX12_parseCall 118 = .ok (.dup2, 1) := by decide +kernel
theorem dX12_parseCall_119 : decode cX12_parseCall 119 = .ok (.iaload, 1) := by decide +kernel
theorem dX12_parseCall_120 : decode cX12_parseCall 120 = .ok (.iconst 1, 1) := by decide +kernel
theorem dX12_parseCall_121 : decode cX12_parseCall 121 = .ok (.iadd, 1) := by decide +kernel
theorem dX12_parseCall_122 : decode cX12_parseCall 122 = .ok (.iastore, 1) := by decide +kernel
theorem dX12_parseCall_123 : decode cX12_parseCall 123 = .ok (.return_, 1) := by decide +kernel
theorem dX12_layCall_0 : decode cX12_layCall 0 = .ok (.sipush 330, 3) := by decide +kernel
theorem dX12_layCall_3 : decode cX12_layCall 3 = .ok (.bipush 7, 2) := by decide +kernel
theorem dX12_layCall_5 : decode cX12_layCall 5 = .ok (.iload_n 1, 1) := by decide +kernel
theorem dX12_layCall_6 : decode cX12_layCall 6 = .ok (.imul, 1) := by decide +kernel
theorem dX12_layCall_7 : decode cX12_layCall 7 = .ok (.iadd, 1) := by decide +kernel
theorem dX12_layCall_8 : decode cX12_layCall 8 = .ok (.istore 6, 2) := by decide +kernel
theorem dX12_layCall_10 : decode cX12_layCall 10 = .ok (.iconst 0, 1) := by decide +kernel
theorem dX12_layCall_11 : decode cX12_layCall 11 = .ok (.istore 7, 2) := by decide +kernel
theorem dX12_layCall_13 : decode cX12_layCall 13 = .ok (.iload 7, 2) := by decide +kernel
theorem dX12_layCall_15 : decode cX12_layCall 15 = .ok (.bipush 7, 2) := by decide +kernel
theorem dX12_layCall_17 : decode cX12_layCall 17 = .ok (.if_icmp .ge 20, 3) := by decide +kernel
theorem dX12_layCall_20 : decode cX12_layCall 20 = .ok (.aload_n 0, 1) := by decide +kernel
theorem dX12_layCall_21 : decode cX12_layCall 21 = .ok (.getfield 24, 3) := by decide +kernel
theorem dX12_layCall_24 : decode cX12_layCall 24 = .ok (.iload 6, 2) := by decide +kernel
theorem dX12_layCall_26 : decode cX12_layCall 26 = .ok (.iload 7, 2) := by decide +kernel
theorem dX12_layCall_28 : decode cX12_layCall 28 = .ok (.iadd, 1) := by decide +kernel
theorem dX12_layCall_29 : decode cX12_layCall 29 = .ok (.iconst 0, 1) := by decide +kernel
theorem dX12_layCall_30 : decode cX12_layCall 30 = .ok (.iastore, 1) := by decide +kernel
theorem dX12_layCall_31 : decode cX12_layCall 31 = .ok (.iinc 7 1, 3) := by decide +kernel
theorem dX12_layCall_34 : decode cX12_layCall 34 = .ok (.goto (-21), 3) := by decide +kernel
theorem dX12_layCall_37 : decode cX12_layCall 37 = .ok (.aload_n 0, 1) := by decide +kernel
theorem dX12_layCall_38 : decode cX12_layCall 38 = .ok (.getfield 24, 3) := by decide +kernel
theorem dX12_layCall_41 : decode cX12_layCall 41 = .ok (.iload 6, 2) := by decide +kernel
theorem dX12_layCall_43 : decode cX12_layCall 43 = .ok (.iconst 0, 1) := by decide +kernel
theorem dX12_layCall_44 : decode cX12_layCall 44 = .ok (.iadd, 1) := by decide +kernel
theorem dX12_layCall_45 : decode cX12_layCall 45 = .ok (.iload_n 2, 1) := by decide +kernel
theorem dX12_layCall_46 : decode cX12_layCall 46 = .ok (.iastore, 1) := by decide +kernel
theorem dX12_layCall_47 : decode cX12_layCall 47 = .ok (.aload_n 0, 1) := by decide +kernel
theorem dX12_layCall_48 : decode cX12_layCall 48 = .ok (.getfield 24, 3) := by decide +kernel
theorem dX12_layCall_51 : decode cX12_layCall 51 = .ok (.iload 6, 2) := by decide +kernel
theorem dX12_layCall_53 : decode cX12_layCall 53 = .ok (.iconst 1, 1) := by decide +kernel
theorem dX12_layCall_54 : decode cX12_layCall 54 = .ok (.iadd, 1) := by decide +kernel
theorem dX12_layCall_55 : decode cX12_layCall 55 = .ok (.iload_n 3, 1) := by decide +kernel
theorem dX12_layCall_56 : decode cX12_layCall 56 = .ok (.iastore, 1) := by decide +kernel
theorem dX12_layCall_57 : decode cX12_layCall 57 = .ok (.aload_n 0, 1) := by decide +kernel
theorem dX12_layCall_58 : decode cX12_layCall 58 = .ok (.getfield 24, 3) := by decide +kernel
theorem dX12_layCall_61 : decode cX12_layCall 61 = .ok (.iload 6, 2) := by decide +kernel
theorem dX12_layCall_63 : decode cX12_layCall 63 = .ok (.iconst 2, 1) := by decide +kernel
theorem dX12_layCall_64 : decode cX12_layCall 64 = .ok (.iadd, 1) := by decide +kernel
theorem dX12_layCall_65 : decode cX12_layCall 65 = .ok (.iload 4, 2) := by decide +kernel
theorem dX12_layCall_67 : decode cX12_layCall 67 = .ok (.iastore, 1) := by decide +kernel
theorem dX12_layCall_68 : decode cX12_layCall 68 = .ok (.aload_n 0, 1) := by decide +kernel
theorem dX12_layCall_69 : decode cX12_layCall 69 = .ok (.getfield 24, 3) := by decide +kernel
theorem dX12_layCall_72 : decode cX12_layCall 72 = .ok (.iload 6, 2) := by decide +kernel
theorem dX12_layCall_74 : decode cX12_layCall 74 = .ok (.iconst 3, 1) := by decide +kernel
theorem dX12_layCall_75 : decode cX12_layCall 75 = .ok (.iadd, 1) := by decide +kernel
theorem dX12_layCall_76 : decode cX12_layCall 76 = .ok (.iload 5, 2) := by decide +kernel
theorem dX12_layCall_78 : decode cX12_layCall 78 = .ok (.iastore, 1) := by decide +kernel
theorem dX12_layCall_79 : decode cX12_layCall 79 = .ok (.return_, 1) := by decide +kernel
theorem dX12_parseStatement_0 : decode cX12_parseStatement 0 = .ok (.aload_n 0, 1) := by decide +kernel
theorem dX12_parseStatement_1 : decode cX12_parseStatement 1 = .ok (.ldc 128, 2) := by decide +kernel
theorem dX12_parseStatement_3 : decode cX12_parseStatement 3 = .ok (.invokevirtual 158, 3) := by decide +kernel
theorem dX12_parseStatement_6 : decode cX12_parseStatement 6 = .ok (.ifCond .eq 11, 3) := by decide +kernel
theorem dX12_parseStatement_9 : decode cX12_parseStatement 9 = .ok (.aload_n 0, 1) := by decide +kernel
theorem dX12_parseStatement_10 : decode cX12_parseStatement 10 = .ok (.iconst 0, 1) := by decide +kernel
theorem dX12_parseStatement_11 : decode cX12_parseStatement 11 = .ok (.invokevirtual 204, 3) := by decide +kernel
theorem dX12_parseStatement_14 : decode cX12_parseStatement 14 = .ok (.goto 121, 3) := by decide +kernel
theorem dX12_parseStatement_17 : decode cX12_parseStatement 17 = .ok (.aload_n 0, 1) := by decide +kernel
theorem dX12_parseStatement_18 : decode cX12_parseStatement 18 = .ok (.ldc 130, 2) := by decide +kernel
theorem dX12_parseStatement_20 : decode cX12_parseStatement 20 = .ok (.invokevirtual 158, 3) := by decide +kernel
theorem dX12_parseStatement_23 : decode cX12_parseStatement 23 = .ok (.ifCond .eq 11, 3) := by decide +kernel
theorem dX12_parseStatement_26 : decode cX12_parseStatement 26 = .ok (.aload_n 0, 1) := by decide +kernel
theorem dX12_parseStatement_27 : decode cX12_parseStatement 27 = .ok (.iconst 1, 1) := by decide +kernel
theorem dX12_parseStatement_28 : decode cX12_parseStatement 28 = .ok (.invokevirtual 204, 3) := by decide +kernel
theorem dX12_parseStatement_31 : decode cX12_parseStatement 31 = .ok (.goto 104, 3) := by decide +kernel
theorem dX12_parseStatement_34 : decode cX12_parseStatement 34 = .ok (.aload_n 0, 1) := by decide +kernel
theorem dX12_parseStatement_35 : decode cX12_parseStatement 35 = .ok (.ldc 132, 2) := by decide +kernel
theorem dX12_parseStatement_37 : decode cX12_parseStatement 37 = .ok (.invokevirtual 158, 3) := by decide +kernel
theorem dX12_parseStatement_40 : decode cX12_parseStatement 40 = .ok (.ifCond .eq 10, 3) := by decide +kernel
theorem dX12_parseStatement_43 : decode cX12_parseStatement 43 = .ok (.aload_n 0, 1) := by decide +kernel
theorem dX12_parseStatement_44 : decode cX12_parseStatement 44 = .ok (.invokevirtual 207, 3) := by decide +kernel
theorem dX12_parseStatement_47 : decode cX12_parseStatement 47 = .ok (.goto 88, 3) := by decide +kernel
theorem dX12_parseStatement_50 : decode cX12_parseStatement 50 = .ok (.aload_n 0, 1) := by decide +kernel
theorem dX12_parseStatement_51 : decode cX12_parseStatement 51 = .ok (.ldc 136, 2) := by decide +kernel
theorem dX12_parseStatement_53 : decode cX12_parseStatement 53 = .ok (.invokevirtual 158, 3) := by decide +kernel
theorem dX12_parseStatement_56 : decode cX12_parseStatement 56 = .ok (.ifCond .eq 10, 3) := by decide +kernel
theorem dX12_parseStatement_59 : decode cX12_parseStatement 59 = .ok (.aload_n 0, 1) := by decide +kernel
theorem dX12_parseStatement_60 : decode cX12_parseStatement 60 = .ok (.invokevirtual 210, 3) := by decide +kernel
theorem dX12_parseStatement_63 : decode cX12_parseStatement 63 = .ok (.goto 72, 3) := by decide +kernel
theorem dX12_parseStatement_66 : decode cX12_parseStatement 66 = .ok (.aload_n 0, 1) := by decide +kernel
theorem dX12_parseStatement_67 : decode cX12_parseStatement 67 = .ok (.ldc 140, 2) := by decide +kernel
theorem dX12_parseStatement_69 : decode cX12_parseStatement 69 = .ok (.invokevirtual 158, 3) := by decide +kernel
theorem dX12_parseStatement_72 : decode cX12_parseStatement 72 = .ok (.ifCond .eq 10, 3) := by decide +kernel
theorem dX12_parseStatement_75 : decode cX12_parseStatement 75 = .ok (.aload_n 0, 1) := by decide +kernel
theorem dX12_parseStatement_76 : decode cX12_parseStatement 76 = .ok (.invokevirtual 213, 3) := by decide +kernel
theorem dX12_parseStatement_79 : decode cX12_parseStatement 79 = .ok (.goto 56, 3) := by decide +kernel
theorem dX12_parseStatement_82 : decode cX12_parseStatement 82 = .ok (.aload_n 0, 1) := by decide +kernel
theorem dX12_parseStatement_83 : decode cX12_parseStatement 83 = .ok (.ldc 148, 2) := by decide +kernel
theorem dX12_parseStatement_85 : decode cX12_parseStatement 85 = .ok (.invokevirtual 158, 3) := by decide +kernel
theorem dX12_parseStatement_88 : decode cX12_parseStatement 88 = .ok (.ifCond .eq 10, 3) := by decide +kernel
theorem dX12_parseStatement_91 : decode cX12_parseStatement 91 = .ok (.aload_n 0, 1) := by decide +kernel
theorem dX12_parseStatement_92 : decode cX12_parseStatement 92 = .ok (.invokevirtual 216, 3) := by decide +kernel
theorem dX12_parseStatement_95 : decode cX12_parseStatement 95 = .ok (.goto 40, 3) := by decide +kernel
theorem dX12_parseStatement_98 : decode cX12_parseStatement 98 = .ok (.aload_n 0, 1) := by decide +kernel
theorem dX12_parseStatement_99 : decode cX12_parseStatement 99 = .ok (.ldc 150, 2) := by decide +kernel
theorem dX12_parseStatement_101 : decode cX12_parseStatement 101 = .ok (.invokevirtual 158, 3) := by decide +kernel
theorem dX12_parseStatement_104 : decode cX12_parseStatement 104 = .ok (.ifCond .eq 10, 3) := by decide +kernel
theorem dX12_parseStatement_107 : decode cX12_parseStatement 107 = .ok (.aload_n 0, 1) := by decide +kernel
theorem dX12_parseStatement_108 : decode cX12_parseStatement 108 = .ok (.invokevirtual 219, 3) := by decide +kernel
theorem dX12_parseStatement_111 : decode cX12_parseStatement 111 = .ok (.goto 24, 3) := by decide +kernel
theorem dX12_parseStatement_114 : decode cX12_parseStatement 114 = .ok (.aload_n 0, 1) := by decide +kernel
theorem dX12_parseStatement_115 : decode cX12_parseStatement 115 = .ok (.ldc 154, 2) := by decide +kernel
theorem dX12_parseStatement_117 : decode cX12_parseStatement 117 = .ok (.invokevirtual 158, 3) := by decide +kernel
theorem dX12_parseStatement_120 : decode cX12_parseStatement 120 = .ok (.ifCond .eq 10, 3) := by decide +kernel
theorem dX12_parseStatement_123 : decode cX12_parseStatement 123 = .ok (.aload_n 0, 1) := by decide +kernel
theorem dX12_parseStatement_124 : decode cX12_parseStatement 124 = .ok (.invokevirtual 222, 3) := by decide +kernel
theorem dX12_parseStatement_127 : decode cX12_parseStatement 127 = .ok (.goto 8, 3) := by decide +kernel
theorem dX12_parseStatement_130 : decode cX12_parseStatement 130 = .ok (.aload_n 0, 1) := by decide +kernel
theorem dX12_parseStatement_131 : decode cX12_parseStatement 131 = .ok (.iconst 1, 1) := by decide +kernel
theorem dX12_parseStatement_132 : decode cX12_parseStatement 132 = .ok (.invokevirtual 161, 3) := by decide +kernel
theorem dX12_parseStatement_135 : decode cX12_parseStatement 135 = .ok (.aload_n 0, 1) := by decide +kernel
theorem dX12_parseStatement_136 : decode cX12_parseStatement 136 = .ok (.invokevirtual 225, 3) := by decide +kernel
theorem dX12_parseStatement_139 : decode cX12_parseStatement 139 = .ok (.return_, 1) := by decide +kernel
theorem dX12_load_0 : decode cX12_load 0 = .ok (.aload_n 0, 1) := by decide +kernel
theorem dX12_load_1 : decode cX12_load 1 = .ok (.iconst 0, 1) := by decide +kernel
theorem dX12_load_2 : decode cX12_load 2 = .ok (.putfield 3, 3) := by decide +kernel
theorem dX12_load_5 : decode cX12_load 5 = .ok (.aload_n 0, 1) := by decide +kernel
theorem dX12_load_6 : decode cX12_load 6 = .ok (.aload_n 0, 1) := by decide +kernel
theorem dX12_load_7 : decode cX12_load 7 = .ok (.getfield 59, 3) := by decide +kernel
theorem dX12_load_10 : decode cX12_load 10 = .ok (.putfield 80, 3) := by decide +kernel
theorem dX12_load_13 : decode cX12_load 13 = .ok (.aload_n 0, 1) := by decide +kernel
theorem dX12_load_14 : decode cX12_load 14 = .ok (.iconst 0, 1) := by decide +kernel
theorem dX12_load_15 : decode cX12_load 15 = .ok (.putfield 59, 3) := by decide +kernel
theorem dX12_load_18 : decode cX12_load 18 = .ok (.aload_n 0, 1) := by decide +kernel
theorem dX12_load_19 : decode cX12_load 19 = .ok (.iconst 0, 1) := by decide +kernel
theorem dX12_load_20 : decode cX12_load 20 = .ok (.putfield 83, 3) := by decide +kernel
theorem dX12_load_23 : decode cX12_load 23 = .ok (.aload_n 0, 1) := by decide +kernel
theorem dX12_load_24 : decode cX12_load 24 = .ok (.iconst 0, 1) := by decide +kernel
theorem dX12_load_25 : decode cX12_load 25 = .ok (.putfield 70, 3) := by decide +kernel
theorem dX12_load_28 : decode cX12_load 28 = .ok (.aload_n 0, 1) := by decide +kernel
theorem dX12_load_29 : decode cX12_load 29 = .ok (.iconst (-1), 1) := by decide +kernel
theorem dX12_load_30 : decode cX12_load 30 = .ok (.putfield 35, 3) := by decide +kernel
theorem dX12_load_33 : decode cX12_load 33 = .ok (.aload_n 0, 1) := by decide +kernel
theorem dX12_load_34 : decode cX12_load 34 = .ok (.iconst 0, 1) := by decide +kernel
theorem dX12_load_35 : decode cX12_load 35 = .ok (.putfield 180, 3) := by decide +kernel
theorem dX12_load_38 : decode cX12_load 38 = .ok (.aload_n 0, 1) := by decide +kernel
theorem dX12_load_39 : decode cX12_load 39 = .ok (.iconst 0, 1) := by decide +kernel
theorem dX12_load_40 : decode cX12_load 40 = .ok (.putfield 188, 3) := by decide +kernel
theorem dX12_load_43 : decode cX12_load 43 = .ok (.aload_n 0, 1) := by decide +kernel
theorem dX12_load_44 : decode cX12_load 44 = .ok (.iconst 0, 1) := by decide +kernel
theorem dX12_load_45 : decode cX12_load 45 = .ok (.putfield 191, 3) := by decide +kernel
theorem dX12_load_48 : decode cX12_load 48 = .ok (.iconst 0, 1) := by decide +kernel
theorem dX12_load_49 : decode cX12_load 49 = .ok (.istore_n 1, 1) := by decide +kernel
theorem dX12_load_50 : decode cX12_load 50 = .ok (.iload_n 1, 1) := by decide +kernel
theorem dX12_load_51 : decode cX12_load 51 = .ok (.sipush 1377, 3) := by decide +kernel
theorem dX12_load_54 : decode cX12_load 54 = .ok (.if_icmp .ge 16, 3) := by decide +kernel
theorem dX12_load_57 : decode cX12_load 57 = .ok (.aload_n 0, 1) := by decide +kernel
theorem dX12_load_58 : decode cX12_load 58 = .ok (.getfield 21, 3) := by decide +kernel
theorem dX12_load_61 : decode cX12_load 61 = .ok (.iload_n 1, 1) := by decide +kernel
theorem dX12_load_62 : decode cX12_load 62 = .ok (.iconst 0, 1) := by decide +kernel
theorem dX12_load_63 : decode cX12_load 63 = .ok (.iastore, 1) := by decide +kernel
theorem dX12_load_64 : decode cX12_load 64 = .ok (.iinc 1 1, 3) := by decide +kernel
theorem dX12_load_67 : decode cX12_load 67 = .ok (.goto (-17), 3) := by decide +kernel
theorem dX12_load_70 : decode cX12_load 70 = .ok (.aload_n 0, 1) := by decide +kernel
theorem dX12_load_71 : decode cX12_load 71 = .ok (.getfield 21, 3) := by decide +kernel
theorem dX12_load_74 : decode cX12_load 74 = .ok (.bipush 32, 2) := by decide +kernel
theorem dX12_load_76 : decode cX12_load 76 = .ok (.bipush 30, 2) := by decide +kernel
theorem dX12_load_78 : decode cX12_load 78 = .ok (.iastore, 1) := by decide +kernel
theorem dX12_load_79 : decode cX12_load 79 = .ok (.aload_n 0, 1) := by decide +kernel
theorem dX12_load_80 : decode cX12_load 80 = .ok (.aload_n 0, 1) := by decide +kernel
theorem dX12_load_81 : decode cX12_load 81 = .ok (.getfield 21, 3) := by decide +kernel
theorem dX12_load_84 : decode cX12_load 84 = .ok (.putfield 24, 3) := by decide +kernel
theorem dX12_load_87 : decode cX12_load 87 = .ok (.aload_n 0, 1) := by decide +kernel
theorem dX12_load_88 : decode cX12_load 88 = .ok (.invokevirtual 111, 3) := by decide +kernel
theorem dX12_load_91 : decode cX12_load 91 = .ok (.aload_n 0, 1) := by decide +kernel
theorem dX12_load_92 : decode cX12_load 92 = .ok (.invokevirtual 228, 3) := by decide +kernel
theorem dX12_load_95 : decode cX12_load 95 = .ok (.aload_n 0, 1) := by decide +kernel
theorem dX12_load_96 : decode cX12_load 96 = .ok (.invokevirtual 73, 3) := by decide +kernel
theorem dX12_load_99 : decode cX12_load 99 = .ok (.ifCond .eq 10, 3) := by decide +kernel
theorem dX12_load_102 : decode cX12_load 102 = .ok (.aload_n 0, 1) := by decide +kernel
theorem dX12_load_103 : decode cX12_load 103 = .ok (.getfield 90, 3) := by decide +kernel
theorem dX12_load_106 : decode cX12_load 106 = .ok (.ifCond .ne (-15), 3) := by decide +kernel
theorem dX12_load_109 : decode cX12_load 109 = .ok (.aload_n 0, 1) := by decide +kernel
theorem dX12_load_110 : decode cX12_load 110 = .ok (.aload_n 0, 1) := by decide +kernel
theorem dX12_load_111 : decode cX12_load 111 = .ok (.getfield 17, 3) := by decide +kernel
theorem dX12_load_114 : decode cX12_load 114 = .ok (.putfield 24, 3) := by decide +kernel
theorem dX12_load_117 : decode cX12_load 117 = .ok (.aload_n 0, 1) := by decide +kernel
theorem dX12_load_118 : decode cX12_load 118 = .ok (.invokevirtual 73, 3) := by decide +kernel
theorem dX12_load_121 : decode cX12_load 121 = .ok (.ifCond .ne 6, 3) := by decide +kernel
theorem dX12_load_124 : decode cX12_load 124 = .ok (.bipush (-4), 2) := by decide +kernel
theorem dX12_load_126 : decode cX12_load 126 = .ok (.ireturn, 1) := by decide +kernel
theorem dX12_load_127 : decode cX12_load 127 = .ok (.aload_n 0, 1) := by decide +kernel
theorem dX12_load_128 : decode cX12_load 128 = .ok (.invokevirtual 231, 3) := by decide +kernel
theorem dX12_load_131 : decode cX12_load 131 = .ok (.iconst 0, 1) := by decide +kernel
theorem dX12_load_132 : decode cX12_load 132 = .ok (.istore_n 1, 1) := by decide +kernel
theorem dX12_load_133 : decode cX12_load 133 = .ok (.iload_n 1, 1) := by decide +kernel
theorem dX12_load_134 : decode cX12_load 134 = .ok (.sipush 1377, 3) := by decide +kernel
theorem dX12_load_137 : decode cX12_load 137 = .ok (.if_icmp .ge 21, 3) := by decide +kernel
theorem dX12_load_140 : decode cX12_load 140 = .ok (.aload_n 0, 1) := by decide +kernel
theorem dX12_load_141 : decode cX12_load 141 = .ok (.getfield 17, 3) := by decide +kernel
theorem dX12_load_144 : decode cX12_load 144 = .ok (.iload_n 1, 1) := by decide +kernel
theorem dX12_load_145 : decode cX12_load 145 = .ok (.aload_n 0, 1) := by decide +kernel
theorem dX12_load_146 : decode cX12_load 146 = .ok (.getfield 21, 3) := by decide +kernel
theorem dX12_load_149 : decode cX12_load 149 = .ok (.iload_n 1, 1) := by decide +kernel
theorem dX12_load_150 : decode cX12_load 150 = .ok (.iaload, 1) := by decide +kernel
theorem dX12_load_151 : decode cX12_load 151 = .ok (.iastore, 1) := by decide +kernel
theorem dX12_load_152 : decode cX12_load 152 = .ok (.iinc 1 1, 3) := by decide +kernel
theorem dX12_load_155 : decode cX12_load 155 = .ok (.goto (-22), 3) := by decide +kernel
theorem dX12_load_158 : decode cX12_load 158 = .ok (.iconst 0, 1) := by decide +kernel
theorem dX12_load_159 : decode cX12_load 159 = .ok (.istore_n 1, 1) := by decide +kernel
theorem dX12_load_160 : decode cX12_load 160 = .ok (.iload_n 1, 1) := by decide +kernel
theorem dX12_load_161 : decode cX12_load 161 = .ok (.bipush 8, 2) := by decide +kernel
theorem dX12_load_163 : decode cX12_load 163 = .ok (.if_icmp .ge 16, 3) := by decide +kernel
theorem dX12_load_166 : decode cX12_load 166 = .ok (.aload_n 0, 1) := by decide +kernel
theorem dX12_load_167 : decode cX12_load 167 = .ok (.getfield 27, 3) := by decide +kernel
theorem dX12_load_170 : decode cX12_load 170 = .ok (.iload_n 1, 1) := by decide +kernel
theorem dX12_load_171 : decode cX12_load 171 = .ok (.lconst 0, 1) := by decide +kernel
theorem dX12_load_172 : decode cX12_load 172 = .ok (.lastore, 1) := by decide +kernel
theorem dX12_load_173 : decode cX12_load 173 = .ok (.iinc 1 1, 3) := by decide +kernel
theorem dX12_load_176 : decode cX12_load 176 = .ok (.goto (-16), 3) := by decide +kernel
theorem dX12_load_179 : decode cX12_load 179 = .ok (.aload_n 0, 1) := by decide +kernel
theorem dX12_load_180 : decode cX12_load 180 = .ok (.getfield 17, 3) := by decide +kernel
theorem dX12_load_183 : decode cX12_load 183 = .ok (.iconst 0, 1) := by decide +kernel
theorem dX12_load_184 : decode cX12_load 184 = .ok (.iaload, 1) := by decide +kernel
theorem dX12_load_185 : decode cX12_load 185 = .ok (.ireturn, 1) := by decide +kernel
theorem dX12_errorCode_0 : decode cX12_errorCode 0 = .ok (.aload_n 0, 1) := by decide +kernel
theorem dX12_errorCode_1 : decode cX12_errorCode 1 = .ok (.iconst 0, 1) := by decide +kernel
theorem dX12_errorCode_2 : decode cX12_errorCode 2 = .ok (.putfield 3, 3) := by decide +kernel
theorem dX12_errorCode_5 : decode cX12_errorCode 5 = .ok (.aload_n 0, 1) := by decide +kernel
theorem dX12_errorCode_6 : decode cX12_errorCode 6 = .ok (.getfield 70, 3) := by decide +kernel
theorem dX12_errorCode_9 : decode cX12_errorCode 9 = .ok (.ireturn, 1) := by decide +kernel
theorem dX12_errorPosition_0 : decode cX12_errorPosition 0 = .ok (.aload_n 0, 1) := by decide +kernel
theorem dX12_errorPosition_1 : decode cX12_errorPosition 1 = .ok (.iconst 0, 1) := by decide +kernel
theorem dX12_errorPosition_2 : decode cX12_errorPosition 2 = .ok (.putfield 3, 3) := by decide +kernel
theorem dX12_errorPosition_5 : decode cX12_errorPosition 5 = .ok (.aload_n 0, 1) := by decide +kernel
theorem dX12_errorPosition_6 : decode cX12_errorPosition 6 = .ok (.getfield 35, 3) := by decide +kernel
theorem dX12_errorPosition_9 : decode cX12_errorPosition 9 = .ok (.ireturn, 1) := by decide +kernel
theorem dX12_find_0 : decode cX12_find 0 = .ok (.aload_n 0, 1) := by decide +kernel
theorem dX12_find_1 : decode cX12_find 1 = .ok (.iconst 0, 1) := by decide +kernel
theorem dX12_find_2 : decode cX12_find 2 = .ok (.putfield 3, 3) := by decide +kernel
theorem dX12_find_5 : decode cX12_find 5 = .ok (.aload_n 0, 1) := by decide +kernel
theorem dX12_find_6 : decode cX12_find 6 = .ok (.iconst 0, 1) := by decide +kernel
theorem dX12_find_7 : decode cX12_find 7 = .ok (.putfield 77, 3) := by decide +kernel
theorem dX12_find_10 : decode cX12_find 10 = .ok (.aload_n 0, 1) := by decide +kernel
theorem dX12_find_11 : decode cX12_find 11 = .ok (.aload_n 0, 1) := by decide +kernel
theorem dX12_find_12 : decode cX12_find 12 = .ok (.getfield 59, 3) := by decide +kernel
theorem dX12_find_15 : decode cX12_find 15 = .ok (.putfield 83, 3) := by decide +kernel
theorem dX12_find_18 : decode cX12_find 18 = .ok (.aload_n 0, 1) := by decide +kernel
theorem dX12_find_19 : decode cX12_find 19 = .ok (.iconst 0, 1) := by decide +kernel
theorem dX12_find_20 : decode cX12_find 20 = .ok (.putfield 59, 3) := by decide +kernel
theorem dX12_find_23 : decode cX12_find 23 = .ok (.aload_n 0, 1) := by decide +kernel
theorem dX12_find_24 : decode cX12_find 24 = .ok (.getfield 83, 3) := by decide +kernel
theorem dX12_find_27 : decode cX12_find 27 = .ok (.ifCond .le 7, 3) := by decide +kernel
theorem dX12_find_30 : decode cX12_find 30 = .ok (.iconst 1, 1) := by decide +kernel
theorem dX12_find_31 : decode cX12_find 31 = .ok (.goto 4, 3) := by decide +kernel
theorem dX12_find_34 : decode cX12_find 34 = .ok (.iconst 0, 1) := by decide +kernel
theorem dX12_find_35 : decode cX12_find 35 = .ok (.istore_n 1, 1) := by decide +kernel
theorem dX12_find_36 : decode cX12_find 36 = .ok (.iconst 0, 1) := by decide +kernel
theorem dX12_find_37 : decode cX12_find 37 = .ok (.istore_n 2, 1) := by decide +kernel
theorem dX12_find_38 : decode cX12_find 38 = .ok (.iload_n 2, 1) := by decide +kernel
theorem dX12_find_39 : decode cX12_find 39 = .ok (.aload_n 0, 1) := by decide +kernel
theorem dX12_find_40 : decode cX12_find 40 = .ok (.getfield 83, 3) := by decide +kernel
theorem dX12_find_43 : decode cX12_find 43 = .ok (.if_icmp .ge 30, 3) := by decide +kernel
theorem dX12_find_46 : decode cX12_find 46 = .ok (.iload_n 1, 1) := by decide +kernel
theorem dX12_find_47 : decode cX12_find 47 = .ok (.ifCond .eq 26, 3) := by decide +kernel
theorem dX12_find_50 : decode cX12_find 50 = .ok (.aload_n 0, 1) := by decide +kernel
theorem dX12_find_51 : decode cX12_find 51 = .ok (.getfield 31, 3) := by decide +kernel
theorem dX12_find_54 : decode cX12_find 54 = .ok (.iload_n 2, 1) := by decide +kernel
theorem dX12_find_55 : decode cX12_find 55 = .ok (.baload, 1) := by decide +kernel
theorem dX12_find_56 : decode cX12_find 56 = .ok (.i2l, 1) := by decide +kernel
theorem dX12_find_57 : decode cX12_find 57 = .ok (.ldc2_w 93, 3) := by decide +kernel
theorem dX12_find_60 : decode cX12_find 60 = .ok (.ldc2_w 95, 3) := by decide +kernel
theorem dX12_find_63 : decode cX12_find 63 = .ok (.invokestatic 47, 3) := by decide +kernel
theorem dX12_find_66 : decode cX12_find 66 = .ok (.istore_n 1, 1) := by decide +kernel
theorem dX12_find_67 : decode cX12_find 67 = .ok (.iinc 2 1, 3) := by decide +kernel
theorem dX12_find_70 : decode cX12_find 70 = .ok (.goto (-32), 3) := by decide +kernel
theorem dX12_find_73 : decode cX12_find 73 = .ok (.iload_n 1, 1) := by decide +kernel
theorem dX12_find_74 : decode cX12_find 74 = .ok (.ifCond .eq 10, 3) := by decide +kernel
theorem dX12_find_77 : decode cX12_find 77 = .ok (.aload_n 0, 1) := by decide +kernel
theorem dX12_find_78 : decode cX12_find 78 = .ok (.invokevirtual 197, 3) := by decide +kernel
theorem dX12_find_81 : decode cX12_find 81 = .ok (.goto 4, 3) := by decide +kernel
theorem dX12_find_84 : decode cX12_find 84 = .ok (.iconst (-1), 1) := by decide +kernel
theorem dX12_find_85 : decode cX12_find 85 = .ok (.ireturn, 1) := by decide +kernel
theorem dX12_bandWith_0 : decode cX12_bandWith 0 = .ok (.aload_n 0, 1) := by decide +kernel
theorem dX12_bandWith_1 : decode cX12_bandWith 1 = .ok (.getfield 17, 3) := by decide +kernel
theorem dX12_bandWith_4 : decode cX12_bandWith 4 = .ok (.bipush 6, 2) := by decide +kernel
theorem dX12_bandWith_6 : decode cX12_bandWith 6 = .ok (.iaload, 1) := by decide +kernel
theorem dX12_bandWith_7 : decode cX12_bandWith 7 = .ok (.iconst 1, 1) := by decide +kernel
theorem dX12_bandWith_8 : decode cX12_bandWith 8 = .ok (.isub, 1) := by decide +kernel
theorem dX12_bandWith_9 : decode cX12_bandWith 9 = .ok (.istore_n 2, 1) := by decide +kernel
theorem dX12_bandWith_10 : decode cX12_bandWith 10 = .ok (.iload_n 2, 1) := by decide +kernel
theorem dX12_bandWith_11 : decode cX12_bandWith 11 = .ok (.ifCond .le 22, 3) := by decide +kernel
theorem dX12_bandWith_14 : decode cX12_bandWith 14 = .ok (.aload_n 0, 1) := by decide +kernel
theorem dX12_bandWith_15 : decode cX12_bandWith 15 = .ok (.getfield 17, 3) := by decide +kernel
theorem dX12_bandWith_18 : decode cX12_bandWith 18 = .ok (.bipush 12, 2) := by decide +kernel
theorem dX12_bandWith_20 : decode cX12_bandWith 20 = .ok (.iload_n 2, 1) := by decide +kernel
theorem dX12_bandWith_21 : decode cX12_bandWith 21 = .ok (.iadd, 1) := by decide +kernel
theorem dX12_bandWith_22 : decode cX12_bandWith 22 = .ok (.iaload, 1) := by decide +kernel
theorem dX12_bandWith_23 : decode cX12_bandWith 23 = .ok (.iload_n 1, 1) := by decide +kernel
theorem dX12_bandWith_24 : decode cX12_bandWith 24 = .ok (.if_icmp .le 9, 3) := by decide +kernel
theorem dX12_bandWith_27 : decode cX12_bandWith 27 = .ok (.iinc 2 (-1), 3) := by decide +kernel
theorem dX12_bandWith_30 : decode cX12_bandWith 30 = .ok (.goto (-20), 3) := by decide +kernel
theorem dX12_bandWith_33 : decode cX12_bandWith 33 = .ok (.iload_n 2, 1) := by decide +kernel
theorem dX12_bandWith_34 : decode cX12_bandWith 34 = .ok (.ireturn, 1) := by decide +kernel
theorem dX12_inBand_0 : decode cX12_inBand 0 = .ok (.iload_n 2, 1) := by decide +kernel
theorem dX12_inBand_1 : decode cX12_inBand 1 = .ok (.iconst 1, 1) := by decide +kernel
theorem dX12_inBand_2 : decode cX12_inBand 2 = .ok (.iadd, 1) := by decide +kernel
theorem dX12_inBand_3 : decode cX12_inBand 3 = .ok (.aload_n 0, 1) := by decide +kernel
theorem dX12_inBand_4 : decode cX12_inBand 4 = .ok (.getfield 17, 3) := by decide +kernel
theorem dX12_inBand_7 : decode cX12_inBand 7 = .ok (.bipush 6, 2) := by decide +kernel
theorem dX12_inBand_9 : decode cX12_inBand 9 = .ok (.iaload, 1) := by decide +kernel
theorem dX12_inBand_10 : decode cX12_inBand 10 = .ok (.if_icmp .ge 21, 3) := by decide +kernel
theorem dX12_inBand_13 : decode cX12_inBand 13 = .ok (.iload_n 1, 1) := by decide +kernel
theorem dX12_inBand_14 : decode cX12_inBand 14 = .ok (.aload_n 0, 1) := by decide +kernel
theorem dX12_inBand_15 : decode cX12_inBand 15 = .ok (.getfield 17, 3) := by decide +kernel
theorem dX12_inBand_18 : decode cX12_inBand 18 = .ok (.bipush 12, 2) := by decide +kernel
theorem dX12_inBand_20 : decode cX12_inBand 20 = .ok (.iload_n 2, 1) := by decide +kernel
theorem dX12_inBand_21 : decode cX12_inBand 21 = .ok (.iadd, 1) := by decide +kernel
theorem dX12_inBand_22 : decode cX12_inBand 22 = .ok (.iconst 1, 1) := by decide +kernel
theorem dX12_inBand_23 : decode cX12_inBand 23 = .ok (.iadd, 1) := by decide +kernel
theorem dX12_inBand_24 : decode cX12_inBand 24 = .ok (.iaload, 1) := by decide +kernel
theorem dX12_inBand_25 : decode cX12_inBand 25 = .ok (.invokestatic 105, 3) := by decide +kernel
theorem dX12_inBand_28 : decode cX12_inBand 28 = .ok (.goto 4, 3) := by decide +kernel
theorem dX12_inBand_31 : decode cX12_inBand 31 = .ok (.iload_n 1, 1) := by decide +kernel
theorem dX12_inBand_32 : decode cX12_inBand 32 = .ok (.istore_n 3, 1) := by decide +kernel
theorem dX12_inBand_33 : decode cX12_inBand 33 = .ok (.iconst 0, 1) := by decide +kernel
theorem dX12_inBand_34 : decode cX12_inBand 34 = .ok (.iload_n 3, 1) := by decide +kernel
theorem dX12_inBand_35 : decode cX12_inBand 35 = .ok (.aload_n 0, 1) := by decide +kernel
theorem dX12_inBand_36 : decode cX12_inBand 36 = .ok (.getfield 17, 3) := by decide +kernel
theorem dX12_inBand_39 : decode cX12_inBand 39 = .ok (.bipush 12, 2) := by decide +kernel
theorem dX12_inBand_41 : decode cX12_inBand 41 = .ok (.iload_n 2, 1) := by decide +kernel
theorem dX12_inBand_42 : decode cX12_inBand 42 = .ok (.iadd, 1) := by decide +kernel
theorem dX12_inBand_43 : decode cX12_inBand 43 = .ok (.iaload, 1) := by decide +kernel
theorem dX12_inBand_44 : decode cX12_inBand 44 = .ok (.isub, 1) := by decide +kernel
theorem dX12_inBand_45 : decode cX12_inBand 45 = .ok (.invokestatic 234, 3) := by decide +kernel
theorem dX12_inBand_48 : decode cX12_inBand 48 = .ok (.ireturn, 1) := by decide +kernel
theorem dX12_duesOf_0 : decode cX12_duesOf 0 = .ok (.aload_n 0, 1) := by decide +kernel
theorem dX12_duesOf_1 : decode cX12_duesOf 1 = .ok (.getfield 17, 3) := by decide +kernel
theorem dX12_duesOf_4 : decode cX12_duesOf 4 = .ok (.bipush 6, 2) := by decide +kernel
theorem dX12_duesOf_6 : decode cX12_duesOf 6 = .ok (.iaload, 1) := by decide +kernel
theorem dX12_duesOf_7 : decode cX12_duesOf 7 = .ok (.ifCond .ne 5, 3) := by decide +kernel
theorem dX12_duesOf_10 : decode cX12_duesOf 10 = .ok (.iconst 0, 1) := by decide +kernel
theorem dX12_duesOf_11 : decode cX12_duesOf 11 = .ok (.ireturn, 1) := by decide +kernel
theorem dX12_duesOf_12 : decode cX12_duesOf 12 = .ok (.aload_n 0, 1) := by decide +kernel
theorem dX12_duesOf_13 : decode cX12_duesOf 13 = .ok (.getfield 17, 3) := by decide +kernel
theorem dX12_duesOf_16 : decode cX12_duesOf 16 = .ok (.bipush 8, 2) := by decide +kernel
theorem dX12_duesOf_18 : decode cX12_duesOf 18 = .ok (.iaload, 1) := by decide +kernel
theorem dX12_duesOf_19 : decode cX12_duesOf 19 = .ok (.iconst 1, 1) := by decide +kernel
theorem dX12_duesOf_20 : decode cX12_duesOf 20 = .ok (.if_icmp .ne 18, 3) := by decide +kernel
theorem dX12_duesOf_23 : decode cX12_duesOf 23 = .ok (.iload_n 1, 1) := by decide +kernel
theorem dX12_duesOf_24 : decode cX12_duesOf 24 = .ok (.aload_n 0, 1) := by decide +kernel
theorem dX12_duesOf_25 : decode cX12_duesOf 25 = .ok (.iload_n 2, 1) := by decide +kernel
theorem dX12_duesOf_26 : decode cX12_duesOf 26 = .ok (.iconst 0, 1) := by decide +kernel
theorem dX12_duesOf_27 : decode cX12_duesOf 27 = .ok (.aload_n 0, 1) := by decide +kernel
theorem dX12_duesOf_28 : decode cX12_duesOf 28 = .ok (.iload_n 1, 1) := by decide +kernel
theorem dX12_duesOf_29 : decode cX12_duesOf 29 = .ok (.invokevirtual 237, 3) := by decide +kernel
theorem dX12_duesOf_32 : decode cX12_duesOf 32 = .ok (.iadd, 1) := by decide +kernel
theorem dX12_duesOf_33 : decode cX12_duesOf 33 = .ok (.invokevirtual 240, 3) := by decide +kernel
theorem dX12_duesOf_36 : decode cX12_duesOf 36 = .ok (.imul, 1) := by decide +kernel
theorem dX12_duesOf_37 : decode cX12_duesOf 37 = .ok (.ireturn, 1) := by decide +kernel
theorem dX12_duesOf_38 : decode cX12_duesOf 38 = .ok (.iconst 0, 1) := by decide +kernel
theorem dX12_duesOf_39 : decode cX12_duesOf 39 = .ok (.istore_n 3, 1) := by decide +kernel
theorem dX12_duesOf_40 : decode cX12_duesOf 40 = .ok (.iconst 0, 1) := by decide +kernel
theorem dX12_duesOf_41 : decode cX12_duesOf 41 = .ok (.istore 4, 2) := by decide +kernel
theorem dX12_duesOf_43 : decode cX12_duesOf 43 = .ok (.iload 4, 2) := by decide +kernel
theorem dX12_duesOf_45 : decode cX12_duesOf 45 = .ok (.aload_n 0, 1) := by decide +kernel
theorem dX12_duesOf_46 : decode cX12_duesOf 46 = .ok (.getfield 17, 3) := by decide +kernel
theorem dX12_duesOf_49 : decode cX12_duesOf 49 = .ok (.bipush 6, 2) := by decide +kernel
theorem dX12_duesOf_51 : decode cX12_duesOf 51 = .ok (.iaload, 1) := by decide +kernel
theorem dX12_duesOf_52 : decode cX12_duesOf 52 = .ok (.if_icmp .ge 29, 3) := by decide +kernel
theorem dX12_duesOf_55 : decode cX12_duesOf 55 = .ok (.iload_n 3, 1) := by decide +kernel
theorem dX12_duesOf_56 : decode cX12_duesOf 56 = .ok (.aload_n 0, 1) := by decide +kernel
theorem dX12_duesOf_57 : decode cX12_duesOf 57 = .ok (.iload_n 1, 1) := by decide +kernel
theorem dX12_duesOf_58 : decode cX12_duesOf 58 = .ok (.iload 4, 2) := by decide +kernel
theorem dX12_duesOf_60 : decode cX12_duesOf 60 = .ok (.invokevirtual 243, 3) := by decide +kernel
theorem dX12_duesOf_63 : decode cX12_duesOf 63 = .ok (.aload_n 0, 1) := by decide +kernel
theorem dX12_duesOf_64 : decode cX12_duesOf 64 = .ok (.iload_n 2, 1) := by decide +kernel
theorem dX12_duesOf_65 : decode cX12_duesOf 65 = .ok (.iconst 0, 1) := by decide +kernel
theorem dX12_duesOf_66 : decode cX12_duesOf 66 = .ok (.iload 4, 2) := by decide +kernel
theorem dX12_duesOf_68 : decode cX12_duesOf 68 = .ok (.iadd, 1) := by decide +kernel
theorem dX12_duesOf_69 : decode cX12_duesOf 69 = .ok (.invokevirtual 240, 3) := by decide +kernel
theorem dX12_duesOf_72 : decode cX12_duesOf 72 = .ok (.imul, 1) := by decide +kernel
theorem dX12_duesOf_73 : decode cX12_duesOf 73 = .ok (.iadd, 1) := by decide +kernel
theorem dX12_duesOf_74 : decode cX12_duesOf 74 = .ok (.istore_n 3, 1) := by decide +kernel
theorem dX12_duesOf_75 : decode cX12_duesOf 75 = .ok (.iinc 4 1, 3) := by decide +kernel
theorem dX12_duesOf_78 : decode cX12_duesOf 78 = .ok (.goto (-35), 3) := by decide +kernel
theorem dX12_duesOf_81 : decode cX12_duesOf 81 = .ok (.iload_n 3, 1) := by decide +kernel
theorem dX12_duesOf_82 : decode cX12_duesOf 82 = .ok (.ireturn, 1) := by decide +kernel
theorem dX12_feeOf_0 : decode cX12_feeOf 0 = .ok (.aload_n 0, 1) := by decide +kernel
theorem dX12_feeOf_1 : decode cX12_feeOf 1 = .ok (.getfield 17, 3) := by decide +kernel
theorem dX12_feeOf_4 : decode cX12_feeOf 4 = .ok (.bipush 9, 2) := by decide +kernel
theorem dX12_feeOf_6 : decode cX12_feeOf 6 = .ok (.iaload, 1) := by decide +kernel
theorem dX12_feeOf_7 : decode cX12_feeOf 7 = .ok (.aload_n 0, 1) := by decide +kernel
theorem dX12_feeOf_8 : decode cX12_feeOf 8 = .ok (.getfield 17, 3) := by decide +kernel
theorem dX12_feeOf_11 : decode cX12_feeOf 11 = .ok (.bipush 11, 2) := by decide +kernel
theorem dX12_feeOf_13 : decode cX12_feeOf 13 = .ok (.iaload, 1) := by decide +kernel
theorem dX12_feeOf_14 : decode cX12_feeOf 14 = .ok (.iconst 0, 1) := by decide +kernel
theorem dX12_feeOf_15 : decode cX12_feeOf 15 = .ok (.iload_n 1, 1) := by decide +kernel
theorem dX12_feeOf_16 : decode cX12_feeOf 16 = .ok (.aload_n 0, 1) := by decide +kernel
theorem dX12_feeOf_17 : decode cX12_feeOf 17 = .ok (.getfield 17, 3) := by decide +kernel
theorem dX12_feeOf_20 : decode cX12_feeOf 20 = .ok (.bipush 10, 2) := by decide +kernel
theorem dX12_feeOf_22 : decode cX12_feeOf 22 = .ok (.iaload, 1) := by decide +kernel
theorem dX12_feeOf_23 : decode cX12_feeOf 23 = .ok (.isub, 1) := by decide +kernel
theorem dX12_feeOf_24 : decode cX12_feeOf 24 = .ok (.invokestatic 234, 3) := by decide +kernel
theorem dX12_feeOf_27 : decode cX12_feeOf 27 = .ok (.imul, 1) := by decide +kernel
theorem dX12_feeOf_28 : decode cX12_feeOf 28 = .ok (.iadd, 1) := by decide +kernel
theorem dX12_feeOf_29 : decode cX12_feeOf 29 = .ok (.ireturn, 1) := by decide +kernel
theorem dX12_percentOf_0 : decode cX12_percentOf 0 = .ok (.iconst 0, 1) := by decide +kernel
theorem dX12_percentOf_1 : decode cX12_percentOf 1 = .ok (.istore_n 3, 1) := by decide +kernel
theorem dX12_percentOf_2 : decode cX12_percentOf 2 = .ok (.iconst 0, 1) := by decide +kernel
theorem dX12_percentOf_3 : decode cX12_percentOf 3 = .ok (.istore 4, 2) := by decide +kernel
theorem dX12_percentOf_5 : decode cX12_percentOf 5 = .ok (.iload 4, 2) := by decide +kernel
theorem dX12_percentOf_7 : decode cX12_percentOf 7 = .ok (.aload_n 0, 1) := by decide +kernel
theorem dX12_percentOf_8 : decode cX12_percentOf 8 = .ok (.getfield 17, 3) := by decide +kernel
theorem dX12_percentOf_11 : decode cX12_percentOf 11 = .ok (.bipush 7, 2) := by decide +kernel
theorem dX12_percentOf_13 : decode cX12_percentOf 13 = .ok (.iaload, 1) := by decide +kernel
theorem dX12_percentOf_14 : decode cX12_percentOf 14 = .ok (.if_icmp .ge 38, 3) := by decide +kernel
theorem dX12_percentOf_17 : decode cX12_percentOf 17 = .ok (.aload_n 0, 1) := by decide +kernel
theorem dX12_percentOf_18 : decode cX12_percentOf 18 = .ok (.getfield 17, 3) := by decide +kernel
theorem dX12_percentOf_21 : decode cX12_percentOf 21 = .ok (.bipush 18, 2) := by decide +kernel
theorem dX12_percentOf_23 : decode cX12_percentOf 23 = .ok (.iload 4, 2) := by decide +kernel
theorem dX12_percentOf_25 : decode cX12_percentOf 25 = .ok (.iadd, 1) := by decide +kernel
theorem dX12_percentOf_26 : decode cX12_percentOf 26 = .ok (.iaload, 1) := by decide +kernel
theorem dX12_percentOf_27 : decode cX12_percentOf 27 = .ok (.iload_n 1, 1) := by decide +kernel
theorem dX12_percentOf_28 : decode cX12_percentOf 28 = .ok (.if_icmp .gt 16, 3) := by decide +kernel
theorem dX12_percentOf_31 : decode cX12_percentOf 31 = .ok (.aload_n 0, 1) := by decide +kernel
theorem dX12_percentOf_32 : decode cX12_percentOf 32 = .ok (.iload_n 2, 1) := by decide +kernel
theorem dX12_percentOf_33 : decode cX12_percentOf 33 = .ok (.bipush 6, 2) := by decide +kernel
theorem dX12_percentOf_35 : decode cX12_percentOf 35 = .ok (.iload 4, 2) := by decide +kernel
theorem dX12_percentOf_37 : decode cX12_percentOf 37 = .ok (.iadd, 1) := by decide +kernel
theorem dX12_percentOf_38 : decode cX12_percentOf 38 = .ok (.invokevirtual 240, 3) := by decide +kernel
theorem dX12_percentOf_41 : decode cX12_percentOf 41 = .ok (.goto 4, 3) := by decide +kernel
theorem dX12_percentOf_44 : decode cX12_percentOf 44 = .ok (.iload_n 3, 1) := by decide +kernel
theorem dX12_percentOf_45 : decode cX12_percentOf 45 = .ok (.istore_n 3, 1) := by decide +kernel
theorem dX12_percentOf_46 : decode cX12_percentOf 46 = .ok (.iinc 4 1, 3) := by decide +kernel
theorem dX12_percentOf_49 : decode cX12_percentOf 49 = .ok (.goto (-44), 3) := by decide +kernel
theorem dX12_percentOf_52 : decode cX12_percentOf 52 = .ok (.iload_n 3, 1) := by decide +kernel
theorem dX12_percentOf_53 : decode cX12_percentOf 53 = .ok (.ireturn, 1) := by decide +kernel
theorem dX12_count_0 : decode cX12_count 0 = .ok (.aload_n 0, 1) := by decide +kernel
theorem dX12_count_1 : decode cX12_count 1 = .ok (.iload_n 1, 1) := by decide +kernel
theorem dX12_count_2 : decode cX12_count 2 = .ok (.i2l, 1) := by decide +kernel
theorem dX12_count_3 : decode cX12_count 3 = .ok (.lconst 0, 1) := by decide +kernel
theorem dX12_count_4 : decode cX12_count 4 = .ok (.ldc2_w 246, 3) := by decide +kernel
theorem dX12_count_7 : decode cX12_count 7 = .ok (.invokestatic 47, 3) := by decide +kernel
theorem dX12_count_10 : decode cX12_count 10 = .ok (.invokevirtual 62, 3) := by decide +kernel
theorem dX12_count_13 : decode cX12_count 13 = .ok (.ifCond .ne 5, 3) := by decide +kernel
theorem dX12_count_16 : decode cX12_count 16 = .ok (.iconst 0, 1) := by decide +kernel
theorem dX12_count_17 : decode cX12_count 17 = .ok (.ireturn, 1) := by decide +kernel
theorem dX12_count_18 : decode cX12_count 18 = .ok (.iload_n 1, 1) := by decide +kernel
theorem dX12_count_19 : decode cX12_count 19 = .ok (.bipush 8, 2) := by decide +kernel
theorem dX12_count_21 : decode cX12_count 21 = .ok (.if_icmp .ge 10, 3) := by decide +kernel
theorem dX12_count_24 : decode cX12_count 24 = .ok (.aload_n 0, 1) := by decide +kernel
theorem dX12_count_25 : decode cX12_count 25 = .ok (.getfield 17, 3) := by decide +kernel
theorem dX12_count_28 : decode cX12_count 28 = .ok (.iload_n 1, 1) := by decide +kernel
theorem dX12_count_29 : decode cX12_count 29 = .ok (.iaload, 1) := by decide +kernel
theorem dX12_count_30 : decode cX12_count 30 = .ok (.ireturn, 1) := by decide +kernel
theorem dX12_count_31 : decode cX12_count 31 = .ok (.iconst 0, 1) := by decide +kernel
theorem dX12_count_32 : decode cX12_count 32 = .ok (.istore_n 2, 1) := by decide +kernel
theorem dX12_count_33 : decode cX12_count 33 = .ok (.iconst 0, 1) := by decide +kernel
theorem dX12_count_34 : decode cX12_count 34 = .ok (.istore_n 3, 1) := by decide +kernel
theorem dX12_count_35 : decode cX12_count 35 = .ok (.iload_n 3, 1) := by decide +kernel
theorem dX12_count_36 : decode cX12_count 36 = .ok (.aload_n 0, 1) := by decide +kernel
theorem dX12_count_37 : decode cX12_count 37 = .ok (.getfield 17, 3) := by decide +kernel
theorem dX12_count_40 : decode cX12_count 40 = .ok (.iconst 1, 1) := by decide +kernel
theorem dX12_count_41 : decode cX12_count 41 = .ok (.iaload, 1) := by decide +kernel
theorem dX12_count_42 : decode cX12_count 42 = .ok (.if_icmp .ge 21, 3) := by decide +kernel
theorem dX12_count_45 : decode cX12_count 45 = .ok (.iload_n 2, 1) := by decide +kernel
theorem dX12_count_46 : decode cX12_count 46 = .ok (.aload_n 0, 1) := by decide +kernel
theorem dX12_count_47 : decode cX12_count 47 = .ok (.iload_n 3, 1) := by decide +kernel
theorem dX12_count_48 : decode cX12_count 48 = .ok (.iconst 5, 1) := by decide +kernel
theorem dX12_count_49 : decode cX12_count 49 = .ok (.invokevirtual 248, 3) := by decide +kernel
theorem dX12_count_52 : decode cX12_count 52 = .ok (.invokestatic 251, 3) := by decide +kernel
theorem dX12_count_55 : decode cX12_count 55 = .ok (.iadd, 1) := by decide +kernel
theorem dX12_count_56 : decode cX12_count 56 = .ok (.istore_n 2, 1) := by decide +kernel
theorem dX12_count_57 : decode cX12_count 57 = .ok (.iinc 3 1, 3) := by decide +kernel
theorem dX12_count_60 : decode cX12_count 60 = .ok (.goto (-25), 3) := by decide +kernel
theorem dX12_count_63 : decode cX12_count 63 = .ok (.iload_n 2, 1) := by decide +kernel
theorem dX12_count_64 : decode cX12_count 64 = .ok (.ireturn, 1) := by decide +kernel
theorem dX12_tariff_0 : decode cX12_tariff 0 = .ok (.aload_n 0, 1) := by decide +kernel
theorem dX12_tariff_1 : decode cX12_tariff 1 = .ok (.iload_n 1, 1) := by decide +kernel
theorem dX12_tariff_2 : decode cX12_tariff 2 = .ok (.i2l, 1) := by decide +kernel
theorem dX12_tariff_3 : decode cX12_tariff 3 = .ok (.lconst 0, 1) := by decide +kernel
theorem dX12_tariff_4 : decode cX12_tariff 4 = .ok (.ldc2_w 254, 3) := by decide +kernel
theorem dX12_tariff_7 : decode cX12_tariff 7 = .ok (.invokestatic 47, 3) := by decide +kernel
theorem dX12_tariff_10 : decode cX12_tariff 10 = .ok (.invokevirtual 62, 3) := by decide +kernel
theorem dX12_tariff_13 : decode cX12_tariff 13 = .ok (.ifCond .ne 5, 3) := by decide +kernel
theorem dX12_tariff_16 : decode cX12_tariff 16 = .ok (.iconst 0, 1) := by decide +kernel
theorem dX12_tariff_17 : decode cX12_tariff 17 = .ok (.ireturn, 1) := by decide +kernel
theorem dX12_tariff_18 : decode cX12_tariff 18 = .ok (.iload_n 1, 1) := by decide +kernel
theorem dX12_tariff_19 : decode cX12_tariff 19 = .ok (.iconst 4, 1) := by decide +kernel
theorem dX12_tariff_20 : decode cX12_tariff 20 = .ok (.if_icmp .ge 15, 3) := by decide +kernel
theorem dX12_tariff_23 : decode cX12_tariff 23 = .ok (.aload_n 0, 1) := by decide +kernel
theorem dX12_tariff_24 : decode cX12_tariff 24 = .ok (.getfield 17, 3) := by decide +kernel
theorem dX12_tariff_27 : decode cX12_tariff 27 = .ok (.bipush 8, 2) := by decide +kernel
theorem dX12_tariff_29 : decode cX12_tariff 29 = .ok (.iload_n 1, 1) := by decide +kernel
theorem dX12_tariff_30 : decode cX12_tariff 30 = .ok (.iadd, 1) := by decide +kernel
theorem dX12_tariff_31 : decode cX12_tariff 31 = .ok (.iaload, 1) := by decide +kernel
theorem dX12_tariff_32 : decode cX12_tariff 32 = .ok (.goto 17, 3) := by decide +kernel
theorem dX12_tariff_35 : decode cX12_tariff 35 = .ok (.aload_n 0, 1) := by decide +kernel
theorem dX12_tariff_36 : decode cX12_tariff 36 = .ok (.aload_n 0, 1) := by decide +kernel
theorem dX12_tariff_37 : decode cX12_tariff 37 = .ok (.invokevirtual 256, 3) := by decide +kernel
theorem dX12_tariff_40 : decode cX12_tariff 40 = .ok (.bipush 10, 2) := by decide +kernel
theorem dX12_tariff_42 : decode cX12_tariff 42 = .ok (.iload_n 1, 1) := by decide +kernel
theorem dX12_tariff_43 : decode cX12_tariff 43 = .ok (.iadd, 1) := by decide +kernel
theorem dX12_tariff_44 : decode cX12_tariff 44 = .ok (.iconst 4, 1) := by decide +kernel
theorem dX12_tariff_45 : decode cX12_tariff 45 = .ok (.isub, 1) := by decide +kernel
theorem dX12_tariff_46 : decode cX12_tariff 46 = .ok (.invokevirtual 240, 3) := by decide +kernel
theorem dX12_tariff_49 : decode cX12_tariff 49 = .ok (.ireturn, 1) := by decide +kernel
theorem dX12_band_0 : decode cX12_band 0 = .ok (.aload_n 0, 1) := by decide +kernel
theorem dX12_band_1 : decode cX12_band 1 = .ok (.aload_n 0, 1) := by decide +kernel
theorem dX12_band_2 : decode cX12_band 2 = .ok (.iload_n 1, 1) := by decide +kernel
theorem dX12_band_3 : decode cX12_band 3 = .ok (.invokevirtual 259, 3) := by decide +kernel
theorem dX12_band_6 : decode cX12_band 6 = .ok (.iload_n 2, 1) := by decide +kernel
theorem dX12_band_7 : decode cX12_band 7 = .ok (.i2l, 1) := by decide +kernel
theorem dX12_band_8 : decode cX12_band 8 = .ok (.lconst 0, 1) := by decide +kernel
theorem dX12_band_9 : decode cX12_band 9 = .ok (.lconst 1, 1) := by decide +kernel
theorem dX12_band_10 : decode cX12_band 10 = .ok (.invokestatic 47, 3) := by decide +kernel
theorem dX12_band_13 : decode cX12_band 13 = .ok (.invokevirtual 263, 3) := by decide +kernel
theorem dX12_band_16 : decode cX12_band 16 = .ok (.ifCond .ne 5, 3) := by decide +kernel
theorem dX12_band_19 : decode cX12_band 19 = .ok (.iconst 0, 1) := by decide +kernel
theorem dX12_band_20 : decode cX12_band 20 = .ok (.ireturn, 1) := by decide +kernel
theorem dX12_band_21 : decode cX12_band 21 = .ok (.iload_n 2, 1) := by decide +kernel
theorem dX12_band_22 : decode cX12_band 22 = .ok (.ifCond .ne 15, 3) := by decide +kernel
theorem dX12_band_25 : decode cX12_band 25 = .ok (.aload_n 0, 1) := by decide +kernel
theorem dX12_band_26 : decode cX12_band 26 = .ok (.getfield 17, 3) := by decide +kernel
theorem dX12_band_29 : decode cX12_band 29 = .ok (.bipush 12, 2) := by decide +kernel
theorem dX12_band_31 : decode cX12_band 31 = .ok (.iload_n 1, 1) := by decide +kernel
theorem dX12_band_32 : decode cX12_band 32 = .ok (.iadd, 1) := by decide +kernel
theorem dX12_band_33 : decode cX12_band 33 = .ok (.iaload, 1) := by decide +kernel
theorem dX12_band_34 : decode cX12_band 34 = .ok (.goto 14, 3) := by decide +kernel
theorem dX12_band_37 : decode cX12_band 37 = .ok (.aload_n 0, 1) := by decide +kernel
theorem dX12_band_38 : decode cX12_band 38 = .ok (.aload_n 0, 1) := by decide +kernel
theorem dX12_band_39 : decode cX12_band 39 = .ok (.invokevirtual 256, 3) := by decide +kernel
theorem dX12_band_42 : decode cX12_band 42 = .ok (.iconst 0, 1) := by decide +kernel
theorem dX12_band_43 : decode cX12_band 43 = .ok (.iload_n 1, 1) := by decide +kernel
theorem dX12_band_44 : decode cX12_band 44 = .ok (.iadd, 1) := by decide +kernel
theorem dX12_band_45 : decode cX12_band 45 = .ok (.invokevirtual 240, 3) := by decide +kernel
theorem dX12_band_48 : decode cX12_band 48 = .ok (.ireturn, 1) := by decide +kernel
theorem dX12_rebate_0 : decode cX12_rebate 0 = .ok (.aload_n 0, 1) := by decide +kernel
theorem dX12_rebate_1 : decode cX12_rebate 1 = .ok (.aload_n 0, 1) := by decide +kernel
theorem dX12_rebate_2 : decode cX12_rebate 2 = .ok (.iload_n 1, 1) := by decide +kernel
theorem dX12_rebate_3 : decode cX12_rebate 3 = .ok (.invokevirtual 267, 3) := by decide +kernel
theorem dX12_rebate_6 : decode cX12_rebate 6 = .ok (.iload_n 2, 1) := by decide +kernel
theorem dX12_rebate_7 : decode cX12_rebate 7 = .ok (.i2l, 1) := by decide +kernel
theorem dX12_rebate_8 : decode cX12_rebate 8 = .ok (.lconst 0, 1) := by decide +kernel
theorem dX12_rebate_9 : decode cX12_rebate 9 = .ok (.lconst 1, 1) := by decide +kernel
theorem dX12_rebate_10 : decode cX12_rebate 10 = .ok (.invokestatic 47, 3) := by decide +kernel
theorem dX12_rebate_13 : decode cX12_rebate 13 = .ok (.invokevirtual 263, 3) := by decide +kernel
theorem dX12_rebate_16 : decode cX12_rebate 16 = .ok (.ifCond .ne 5, 3) := by decide +kernel
theorem dX12_rebate_19 : decode cX12_rebate 19 = .ok (.iconst 0, 1) := by decide +kernel
theorem dX12_rebate_20 : decode cX12_rebate 20 = .ok (.ireturn, 1) := by decide +kernel
theorem dX12_rebate_21 : decode cX12_rebate 21 = .ok (.iload_n 2, 1) := by decide +kernel
theorem dX12_rebate_22 : decode cX12_rebate 22 = .ok (.ifCond .ne 15, 3) := by decide +kernel
theorem dX12_rebate_25 : decode cX12_rebate 25 = .ok (.aload_n 0, 1) := by decide +kernel
theorem dX12_rebate_26 : decode cX12_rebate 26 = .ok (.getfield 17, 3) := by decide +kernel
theorem dX12_rebate_29 : decode cX12_rebate 29 = .ok (.bipush 18, 2) := by decide +kernel
theorem dX12_rebate_31 : decode cX12_rebate 31 = .ok (.iload_n 1, 1) := by decide +kernel
theorem dX12_rebate_32 : decode cX12_rebate 32 = .ok (.iadd, 1) := by decide +kernel
theorem dX12_rebate_33 : decode cX12_rebate 33 = .ok (.iaload, 1) := by decide +kernel
theorem dX12_rebate_34 : decode cX12_rebate 34 = .ok (.goto 15, 3) := by decide +kernel
theorem dX12_rebate_37 : decode cX12_rebate 37 = .ok (.aload_n 0, 1) := by decide +kernel
theorem dX12_rebate_38 : decode cX12_rebate 38 = .ok (.aload_n 0, 1) := by decide +kernel
theorem dX12_rebate_39 : decode cX12_rebate 39 = .ok (.invokevirtual 256, 3) := by decide +kernel
theorem dX12_rebate_42 : decode cX12_rebate 42 = .ok (.bipush 6, 2) := by decide +kernel
theorem dX12_rebate_44 : decode cX12_rebate 44 = .ok (.iload_n 1, 1) := by decide +kernel
theorem dX12_rebate_45 : decode cX12_rebate 45 = .ok (.iadd, 1) := by decide +kernel
theorem dX12_rebate_46 : decode cX12_rebate 46 = .ok (.invokevirtual 240, 3) := by decide +kernel
theorem dX12_rebate_49 : decode cX12_rebate 49 = .ok (.ireturn, 1) := by decide +kernel
theorem dX12_bandOf_0 : decode cX12_bandOf 0 = .ok (.aload_n 0, 1) := by decide +kernel
theorem dX12_bandOf_1 : decode cX12_bandOf 1 = .ok (.iload_n 1, 1) := by decide +kernel
theorem dX12_bandOf_2 : decode cX12_bandOf 2 = .ok (.invokestatic 270, 3) := by decide +kernel
theorem dX12_bandOf_5 : decode cX12_bandOf 5 = .ok (.invokevirtual 62, 3) := by decide +kernel
