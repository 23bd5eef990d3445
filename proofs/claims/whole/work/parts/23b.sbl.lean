/-! The JDK own code of StringBuilder: links and rows. -/
theorem dJ4_init_da8c8_0 : decode cJ4_init_da8c8 0 = .ok (.aload_n 0, 1) := by decide +kernel
theorem dJ4_init_da8c8_1 : decode cJ4_init_da8c8 1 = .ok (.bipush 16, 2) := by decide +kernel
theorem dJ4_init_da8c8_3 : decode cJ4_init_da8c8 3 = .ok (.invokespecial 1, 3) := by decide +kernel
theorem dJ4_init_da8c8_6 : decode cJ4_init_da8c8 6 = .ok (.return_, 1) := by decide +kernel
theorem dJ5_init_d00df_0 : decode cJ5_init_d00df 0 = .ok (.aload_n 0, 1) := by decide +kernel
theorem dJ5_init_d00df_1 : decode cJ5_init_d00df 1 = .ok (.invokespecial 3, 3) := by decide +kernel
theorem dJ5_init_d00df_4 : decode cJ5_init_d00df 4 = .ok (.getstatic 18, 3) := by decide +kernel
theorem dJ5_init_d00df_7 : decode cJ5_init_d00df 7 = .ok (.ifCond .eq 18, 3) := by decide +kernel
theorem dJ5_init_d00df_10 : decode cJ5_init_d00df 10 = .ok (.aload_n 0, 1) := by decide +kernel
theorem dJ5_init_d00df_11 : decode cJ5_init_d00df 11 = .ok (.iload_n 1, 1) := by decide +kernel
theorem dJ5_init_d00df_12 : decode cJ5_init_d00df 12 = .ok (.newarray .byte, 2) := by decide +kernel
theorem dJ5_init_d00df_14 : decode cJ5_init_d00df 14 = .ok (.putfield 15, 3) := by decide +kernel
theorem dJ5_init_d00df_17 : decode cJ5_init_d00df 17 = .ok (.aload_n 0, 1) := by decide +kernel
theorem dJ5_init_d00df_18 : decode cJ5_init_d00df 18 = .ok (.iconst 0, 1) := by decide +kernel
theorem dJ5_init_d00df_19 : decode cJ5_init_d00df 19 = .ok (.putfield 22, 3) := by decide +kernel
theorem dJ5_init_d00df_22 : decode cJ5_init_d00df 22 = .ok (.goto 16, 3) := by decide +kernel
theorem dJ5_init_d00df_25 : decode cJ5_init_d00df 25 = .ok (.aload_n 0, 1) := by decide +kernel
theorem dJ5_init_d00df_26 : decode cJ5_init_d00df 26 = .ok (.iload_n 1, 1) := by decide +kernel
theorem dJ5_init_d00df_27 : decode cJ5_init_d00df 27 = .ok (.invokestatic 26, 3) := by decide +kernel
theorem dJ5_init_d00df_30 : decode cJ5_init_d00df 30 = .ok (.putfield 15, 3) := by decide +kernel
theorem dJ5_init_d00df_33 : decode cJ5_init_d00df 33 = .ok (.aload_n 0, 1) := by decide +kernel
theorem dJ5_init_d00df_34 : decode cJ5_init_d00df 34 = .ok (.iconst 1, 1) := by decide +kernel
theorem dJ5_init_d00df_35 : decode cJ5_init_d00df 35 = .ok (.putfield 22, 3) := by decide +kernel
theorem dJ5_init_d00df_38 : decode cJ5_init_d00df 38 = .ok (.return_, 1) := by decide +kernel
theorem dJ4_append_cf468_0 : decode cJ4_append_cf468 0 = .ok (.aload_n 0, 1) := by decide +kernel
theorem dJ4_append_cf468_1 : decode cJ4_append_cf468 1 = .ok (.iload_n 1, 1) := by decide +kernel
theorem dJ4_append_cf468_2 : decode cJ4_append_cf468 2 = .ok (.invokespecial 50, 3) := by decide +kernel
theorem dJ4_append_cf468_5 : decode cJ4_append_cf468 5 = .ok (.pop, 1) := by decide +kernel
theorem dJ4_append_cf468_6 : decode cJ4_append_cf468 6 = .ok (.aload_n 0, 1) := by decide +kernel
theorem dJ4_append_cf468_7 : decode cJ4_append_cf468 7 = .ok (.areturn, 1) := by decide +kernel
theorem dJ5_append_3fe6f_0 : decode cJ5_append_3fe6f 0 = .ok (.aload_n 0, 1) := by decide +kernel
theorem dJ5_append_3fe6f_1 : decode cJ5_append_3fe6f 1 = .ok (.aload_n 0, 1) := by decide +kernel
theorem dJ5_append_3fe6f_2 : decode cJ5_append_3fe6f 2 = .ok (.getfield 79, 3) := by decide +kernel
theorem dJ5_append_3fe6f_5 : decode cJ5_append_3fe6f 5 = .ok (.iconst 1, 1) := by decide +kernel
theorem dJ5_append_3fe6f_6 : decode cJ5_append_3fe6f 6 = .ok (.iadd, 1) := by decide +kernel
theorem dJ5_append_3fe6f_7 : decode cJ5_append_3fe6f 7 = .ok (.invokevirtual 100, 3) := by decide +kernel
theorem dJ5_append_3fe6f_10 : decode cJ5_append_3fe6f 10 = .ok (.aload_n 0, 1) := by decide +kernel
theorem dJ5_append_3fe6f_11 : decode cJ5_append_3fe6f 11 = .ok (.invokevirtual 83, 3) := by decide +kernel
theorem dJ5_append_3fe6f_14 : decode cJ5_append_3fe6f 14 = .ok (.ifCond .eq 31, 3) := by decide +kernel
theorem dJ5_append_3fe6f_17 : decode cJ5_append_3fe6f 17 = .ok (.iload_n 1, 1) := by decide +kernel
theorem dJ5_append_3fe6f_18 : decode cJ5_append_3fe6f 18 = .ok (.invokestatic 191, 3) := by decide +kernel
theorem dJ5_append_3fe6f_21 : decode cJ5_append_3fe6f 21 = .ok (.ifCond .eq 24, 3) := by decide +kernel
theorem dJ5_append_3fe6f_24 : decode cJ5_append_3fe6f 24 = .ok (.aload_n 0, 1) := by decide +kernel
theorem dJ5_append_3fe6f_25 : decode cJ5_append_3fe6f 25 = .ok (.getfield 15, 3) := by decide +kernel
theorem dJ5_append_3fe6f_28 : decode cJ5_append_3fe6f 28 = .ok (.aload_n 0, 1) := by decide +kernel
theorem dJ5_append_3fe6f_29 : decode cJ5_append_3fe6f 29 = .ok (.dup, 1) := by decide +kernel
theorem dJ5_append_3fe6f_30 : decode cJ5_append_3fe6f 30 = .ok (.getfield 79, 3) := by decide +kernel
theorem dJ5_append_3fe6f_33 : decode cJ5_append_3fe6f 33 = .ok (.dup_x1, 1) := by decide +kernel
theorem dJ5_append_3fe6f_34 : decode cJ5_append_3fe6f 34 = .ok (.iconst 1, 1) := by decide +kernel
theorem dJ5_append_3fe6f_35 : decode cJ5_append_3fe6f 35 = .ok (.iadd, 1) := by decide +kernel
theorem dJ5_append_3fe6f_36 : decode cJ5_append_3fe6f 36 = .ok (.putfield 79, 3) := by decide +kernel
theorem dJ5_append_3fe6f_39 : decode cJ5_append_3fe6f 39 = .ok (.iload_n 1, 1) := by decide +kernel
theorem dJ5_append_3fe6f_40 : decode cJ5_append_3fe6f 40 = .ok (.i2b, 1) := by decide +kernel
theorem dJ5_append_3fe6f_41 : decode cJ5_append_3fe6f 41 = .ok (.bastore, 1) := by decide +kernel
theorem dJ5_append_3fe6f_42 : decode cJ5_append_3fe6f 42 = .ok (.goto 33, 3) := by decide +kernel
theorem dJ5_append_3fe6f_45 : decode cJ5_append_3fe6f 45 = .ok (.aload_n 0, 1) := by decide +kernel
theorem dJ5_append_3fe6f_46 : decode cJ5_append_3fe6f 46 = .ok (.invokevirtual 83, 3) := by decide +kernel
theorem dJ5_append_3fe6f_49 : decode cJ5_append_3fe6f 49 = .ok (.ifCond .eq 7, 3) := by decide +kernel
theorem dJ5_append_3fe6f_52 : decode cJ5_append_3fe6f 52 = .ok (.aload_n 0, 1) := by decide +kernel
theorem dJ5_append_3fe6f_53 : decode cJ5_append_3fe6f 53 = .ok (.invokevirtual 195, 3) := by decide +kernel
theorem dJ5_append_3fe6f_56 : decode cJ5_append_3fe6f 56 = .ok (.aload_n 0, 1) := by decide +kernel
theorem dJ5_append_3fe6f_57 : decode cJ5_append_3fe6f 57 = .ok (.getfield 15, 3) := by decide +kernel
theorem dJ5_append_3fe6f_60 : decode cJ5_append_3fe6f 60 = .ok (.aload_n 0, 1) := by decide +kernel
theorem dJ5_append_3fe6f_61 : decode cJ5_append_3fe6f 61 = .ok (.dup, 1) := by decide +kernel
theorem dJ5_append_3fe6f_62 : decode cJ5_append_3fe6f 62 = .ok (.getfield 79, 3) := by decide +kernel
theorem dJ5_append_3fe6f_65 : decode cJ5_append_3fe6f 65 = .ok (.dup_x1, 1) := by decide +kernel
theorem dJ5_append_3fe6f_66 : decode cJ5_append_3fe6f 66 = .ok (.iconst 1, 1) := by decide +kernel
theorem dJ5_append_3fe6f_67 : decode cJ5_append_3fe6f 67 = .ok (.iadd, 1) := by decide +kernel
theorem dJ5_append_3fe6f_68 : decode cJ5_append_3fe6f 68 = .ok (.putfield 79, 3) := by decide +kernel
theorem dJ5_append_3fe6f_71 : decode cJ5_append_3fe6f 71 = .ok (.iload_n 1, 1) := by decide +kernel
theorem dJ5_append_3fe6f_72 : decode cJ5_append_3fe6f 72 = .ok (.invokestatic 197, 3) := by decide +kernel
theorem dJ5_append_3fe6f_75 : decode cJ5_append_3fe6f 75 = .ok (.aload_n 0, 1) := by decide +kernel
theorem dJ5_append_3fe6f_76 : decode cJ5_append_3fe6f 76 = .ok (.areturn, 1) := by decide +kernel
theorem dJ5_ensureCapacityInternal_d00df_0 : decode cJ5_ensureCapacityInternal_d00df 0 = .ok (.aload_n 0, 1) := by decide +kernel
theorem dJ5_ensureCapacityInternal_d00df_1 : decode cJ5_ensureCapacityInternal_d00df 1 = .ok (.getfield 15, 3) := by decide +kernel
theorem dJ5_ensureCapacityInternal_d00df_4 : decode cJ5_ensureCapacityInternal_d00df 4 = .ok (.arraylength, 1) := by decide +kernel
theorem dJ5_ensureCapacityInternal_d00df_5 : decode cJ5_ensureCapacityInternal_d00df 5 = .ok (.aload_n 0, 1) := by decide +kernel
theorem dJ5_ensureCapacityInternal_d00df_6 : decode cJ5_ensureCapacityInternal_d00df 6 = .ok (.getfield 22, 3) := by decide +kernel
theorem dJ5_ensureCapacityInternal_d00df_9 : decode cJ5_ensureCapacityInternal_d00df 9 = .ok (.ishr, 1) := by decide +kernel
theorem dJ5_ensureCapacityInternal_d00df_10 : decode cJ5_ensureCapacityInternal_d00df 10 = .ok (.istore_n 2, 1) := by decide +kernel
theorem dJ5_ensureCapacityInternal_d00df_11 : decode cJ5_ensureCapacityInternal_d00df 11 = .ok (.iload_n 1, 1) := by decide +kernel
theorem dJ5_ensureCapacityInternal_d00df_12 : decode cJ5_ensureCapacityInternal_d00df 12 = .ok (.iload_n 2, 1) := by decide +kernel
theorem dJ5_ensureCapacityInternal_d00df_13 : decode cJ5_ensureCapacityInternal_d00df 13 = .ok (.isub, 1) := by decide +kernel
theorem dJ5_ensureCapacityInternal_d00df_14 : decode cJ5_ensureCapacityInternal_d00df 14 = .ok (.ifCond .le 24, 3) := by decide +kernel
theorem dJ5_ensureCapacityInternal_d00df_17 : decode cJ5_ensureCapacityInternal_d00df 17 = .ok (.aload_n 0, 1) := by decide +kernel
theorem dJ5_ensureCapacityInternal_d00df_18 : decode cJ5_ensureCapacityInternal_d00df 18 = .ok (.aload_n 0, 1) := by decide +kernel
theorem dJ5_ensureCapacityInternal_d00df_19 : decode cJ5_ensureCapacityInternal_d00df 19 = .ok (.getfield 15, 3) := by decide +kernel
theorem dJ5_ensureCapacityInternal_d00df_22 : decode cJ5_ensureCapacityInternal_d00df 22 = .ok (.aload_n 0, 1) := by decide +kernel
theorem dJ5_ensureCapacityInternal_d00df_23 : decode cJ5_ensureCapacityInternal_d00df 23 = .ok (.iload_n 1, 1) := by decide +kernel
theorem dJ5_ensureCapacityInternal_d00df_24 : decode cJ5_ensureCapacityInternal_d00df 24 = .ok (.invokevirtual 104, 3) := by decide +kernel
theorem dJ5_ensureCapacityInternal_d00df_27 : decode cJ5_ensureCapacityInternal_d00df 27 = .ok (.aload_n 0, 1) := by decide +kernel
theorem dJ5_ensureCapacityInternal_d00df_28 : decode cJ5_ensureCapacityInternal_d00df 28 = .ok (.getfield 22, 3) := by decide +kernel
theorem dJ5_ensureCapacityInternal_d00df_31 : decode cJ5_ensureCapacityInternal_d00df 31 = .ok (.ishl, 1) := by decide +kernel
theorem dJ5_ensureCapacityInternal_d00df_32 : decode cJ5_ensureCapacityInternal_d00df 32 = .ok (.invokestatic 108, 3) := by decide +kernel
theorem dJ5_ensureCapacityInternal_d00df_35 : decode cJ5_ensureCapacityInternal_d00df 35 = .ok (.putfield 15, 3) := by decide +kernel
theorem dJ5_ensureCapacityInternal_d00df_38 : decode cJ5_ensureCapacityInternal_d00df 38 = .ok (.return_, 1) := by decide +kernel
theorem dJ5_isLatin1_aae02_0 : decode cJ5_isLatin1_aae02 0 = .ok (.getstatic 18, 3) := by decide +kernel
theorem dJ5_isLatin1_aae02_3 : decode cJ5_isLatin1_aae02 3 = .ok (.ifCond .eq 14, 3) := by decide +kernel
theorem dJ5_isLatin1_aae02_6 : decode cJ5_isLatin1_aae02 6 = .ok (.aload_n 0, 1) := by decide +kernel
theorem dJ5_isLatin1_aae02_7 : decode cJ5_isLatin1_aae02 7 = .ok (.getfield 22, 3) := by decide +kernel
theorem dJ5_isLatin1_aae02_10 : decode cJ5_isLatin1_aae02 10 = .ok (.ifCond .ne 7, 3) := by decide +kernel
theorem dJ5_isLatin1_aae02_13 : decode cJ5_isLatin1_aae02 13 = .ok (.iconst 1, 1) := by decide +kernel
theorem dJ5_isLatin1_aae02_14 : decode cJ5_isLatin1_aae02 14 = .ok (.goto 4, 3) := by decide +kernel
theorem dJ5_isLatin1_aae02_17 : decode cJ5_isLatin1_aae02 17 = .ok (.iconst 0, 1) := by decide +kernel
theorem dJ5_isLatin1_aae02_18 : decode cJ5_isLatin1_aae02 18 = .ok (.ireturn, 1) := by decide +kernel
theorem dJ1_canEncode_fc78d_0 : decode cJ1_canEncode_fc78d 0 = .ok (.iload_n 0, 1) := by decide +kernel
theorem dJ1_canEncode_fc78d_1 : decode cJ1_canEncode_fc78d 1 = .ok (.sipush 255, 3) := by decide +kernel
theorem dJ1_canEncode_fc78d_4 : decode cJ1_canEncode_fc78d 4 = .ok (.if_icmp .gt 7, 3) := by decide +kernel
theorem dJ1_canEncode_fc78d_7 : decode cJ1_canEncode_fc78d 7 = .ok (.iconst 1, 1) := by decide +kernel
theorem dJ1_canEncode_fc78d_8 : decode cJ1_canEncode_fc78d 8 = .ok (.goto 4, 3) := by decide +kernel
theorem dJ1_canEncode_fc78d_11 : decode cJ1_canEncode_fc78d 11 = .ok (.iconst 0, 1) := by decide +kernel
theorem dJ1_canEncode_fc78d_12 : decode cJ1_canEncode_fc78d 12 = .ok (.ireturn, 1) := by decide +kernel
theorem dJ4_toString_0e30d_0 : decode cJ4_toString_0e30d 0 = .ok (.new 18, 3) := by decide +kernel
theorem dJ4_toString_0e30d_3 : decode cJ4_toString_0e30d 3 = .ok (.dup, 1) := by decide +kernel
theorem dJ4_toString_0e30d_4 : decode cJ4_toString_0e30d 4 = .ok (.aload_n 0, 1) := by decide +kernel
theorem dJ4_toString_0e30d_5 : decode cJ4_toString_0e30d 5 = .ok (.invokespecial 137, 3) := by decide +kernel
theorem dJ4_toString_0e30d_8 : decode cJ4_toString_0e30d 8 = .ok (.areturn, 1) := by decide +kernel
theorem dJ0_init_81219_0 : decode cJ0_init_81219 0 = .ok (.aload_n 0, 1) := by decide +kernel
theorem dJ0_init_81219_1 : decode cJ0_init_81219 1 = .ok (.aload_n 1, 1) := by decide +kernel
theorem dJ0_init_81219_2 : decode cJ0_init_81219 2 = .ok (.aconst_null, 1) := by decide +kernel
theorem dJ0_init_81219_3 : decode cJ0_init_81219 3 = .ok (.invokespecial 489, 3) := by decide +kernel
theorem dJ0_init_81219_6 : decode cJ0_init_81219 6 = .ok (.return_, 1) := by decide +kernel
theorem dJ0_init_db425_0 : decode cJ0_init_db425 0 = .ok (.aload_n 0, 1) := by decide +kernel
theorem dJ0_init_db425_1 : decode cJ0_init_db425 1 = .ok (.invokespecial 1, 3) := by decide +kernel
theorem dJ0_init_db425_4 : decode cJ0_init_db425 4 = .ok (.aload_n 1, 1) := by decide +kernel
theorem dJ0_init_db425_5 : decode cJ0_init_db425 5 = .ok (.invokevirtual 552, 3) := by decide +kernel
theorem dJ0_init_db425_8 : decode cJ0_init_db425 8 = .ok (.astore_n 3, 1) := by decide +kernel
theorem dJ0_init_db425_9 : decode cJ0_init_db425 9 = .ok (.aload_n 1, 1) := by decide +kernel
theorem dJ0_init_db425_10 : decode cJ0_init_db425 10 = .ok (.invokevirtual 549, 3) := by decide +kernel
theorem dJ0_init_db425_13 : decode cJ0_init_db425 13 = .ok (.istore 4, 2) := by decide +kernel
theorem dJ0_init_db425_15 : decode cJ0_init_db425 15 = .ok (.aload_n 1, 1) := by decide +kernel
theorem dJ0_init_db425_16 : decode cJ0_init_db425 16 = .ok (.invokevirtual 1047, 3) := by decide +kernel
theorem dJ0_init_db425_19 : decode cJ0_init_db425 19 = .ok (.ifCond .eq 22, 3) := by decide +kernel
theorem dJ0_init_db425_22 : decode cJ0_init_db425 22 = .ok (.aload_n 0, 1) := by decide +kernel
theorem dJ0_init_db425_23 : decode cJ0_init_db425 23 = .ok (.iconst 0, 1) := by decide +kernel
theorem dJ0_init_db425_24 : decode cJ0_init_db425 24 = .ok (.putfield 15, 3) := by decide +kernel
theorem dJ0_init_db425_27 : decode cJ0_init_db425 27 = .ok (.aload_n 0, 1) := by decide +kernel
theorem dJ0_init_db425_28 : decode cJ0_init_db425 28 = .ok (.aload_n 3, 1) := by decide +kernel
theorem dJ0_init_db425_29 : decode cJ0_init_db425 29 = .ok (.iconst 0, 1) := by decide +kernel
theorem dJ0_init_db425_30 : decode cJ0_init_db425 30 = .ok (.iload 4, 2) := by decide +kernel
theorem dJ0_init_db425_32 : decode cJ0_init_db425 32 = .ok (.invokestatic 54, 3) := by decide +kernel
theorem dJ0_init_db425_35 : decode cJ0_init_db425 35 = .ok (.putfield 9, 3) := by decide +kernel
theorem dJ0_init_db425_38 : decode cJ0_init_db425 38 = .ok (.goto 59, 3) := by decide +kernel
theorem dJ0_init_db425_41 : decode cJ0_init_db425 41 = .ok (.getstatic 38, 3) := by decide +kernel
theorem dJ0_init_db425_44 : decode cJ0_init_db425 44 = .ok (.ifCond .eq 35, 3) := by decide +kernel
theorem dJ0_init_db425_47 : decode cJ0_init_db425 47 = .ok (.aload_n 1, 1) := by decide +kernel
theorem dJ0_init_db425_48 : decode cJ0_init_db425 48 = .ok (.getfield 1048, 3) := by decide +kernel
theorem dJ0_init_db425_51 : decode cJ0_init_db425 51 = .ok (.ifCond .eq 28, 3) := by decide +kernel
theorem dJ0_init_db425_54 : decode cJ0_init_db425 54 = .ok (.aload_n 0, 1) := by decide +kernel
theorem dJ0_init_db425_55 : decode cJ0_init_db425 55 = .ok (.aload_n 3, 1) := by decide +kernel
theorem dJ0_init_db425_56 : decode cJ0_init_db425 56 = .ok (.iconst 0, 1) := by decide +kernel
theorem dJ0_init_db425_57 : decode cJ0_init_db425 57 = .ok (.iload 4, 2) := by decide +kernel
theorem dJ0_init_db425_59 : decode cJ0_init_db425 59 = .ok (.invokestatic 1051, 3) := by decide +kernel
theorem dJ0_init_db425_62 : decode cJ0_init_db425 62 = .ok (.putfield 9, 3) := by decide +kernel
theorem dJ0_init_db425_65 : decode cJ0_init_db425 65 = .ok (.aload_n 0, 1) := by decide +kernel
theorem dJ0_init_db425_66 : decode cJ0_init_db425 66 = .ok (.aload_n 0, 1) := by decide +kernel
theorem dJ0_init_db425_67 : decode cJ0_init_db425 67 = .ok (.getfield 9, 3) := by decide +kernel
theorem dJ0_init_db425_70 : decode cJ0_init_db425 70 = .ok (.iload 4, 2) := by decide +kernel
theorem dJ0_init_db425_72 : decode cJ0_init_db425 72 = .ok (.invokestatic 47, 3) := by decide +kernel
theorem dJ0_init_db425_75 : decode cJ0_init_db425 75 = .ok (.putfield 15, 3) := by decide +kernel
theorem dJ0_init_db425_78 : decode cJ0_init_db425 78 = .ok (.return_, 1) := by decide +kernel
theorem dJ0_init_db425_79 : decode cJ0_init_db425 79 = .ok (.aload_n 0, 1) := by decide +kernel
theorem dJ0_init_db425_80 : decode cJ0_init_db425 80 = .ok (.iconst 1, 1) := by decide +kernel
theorem dJ0_init_db425_81 : decode cJ0_init_db425 81 = .ok (.putfield 15, 3) := by decide +kernel
theorem dJ0_init_db425_84 : decode cJ0_init_db425 84 = .ok (.aload_n 0, 1) := by decide +kernel
theorem dJ0_init_db425_85 : decode cJ0_init_db425 85 = .ok (.aload_n 3, 1) := by decide +kernel
theorem dJ0_init_db425_86 : decode cJ0_init_db425 86 = .ok (.iconst 0, 1) := by decide +kernel
theorem dJ0_init_db425_87 : decode cJ0_init_db425 87 = .ok (.iload 4, 2) := by decide +kernel
theorem dJ0_init_db425_89 : decode cJ0_init_db425 89 = .ok (.iconst 1, 1) := by decide +kernel
theorem dJ0_init_db425_90 : decode cJ0_init_db425 90 = .ok (.ishl, 1) := by decide +kernel
theorem dJ0_init_db425_91 : decode cJ0_init_db425 91 = .ok (.invokestatic 54, 3) := by decide +kernel
theorem dJ0_init_db425_94 : decode cJ0_init_db425 94 = .ok (.putfield 9, 3) := by decide +kernel
theorem dJ0_init_db425_97 : decode cJ0_init_db425 97 = .ok (.return_, 1) := by decide +kernel
theorem dJ5_getValue_6d5f1_0 : decode cJ5_getValue_6d5f1 0 = .ok (.aload_n 0, 1) := by decide +kernel
theorem dJ5_getValue_6d5f1_1 : decode cJ5_getValue_6d5f1 1 = .ok (.getfield 15, 3) := by decide +kernel
theorem dJ5_getValue_6d5f1_4 : decode cJ5_getValue_6d5f1 4 = .ok (.areturn, 1) := by decide +kernel
theorem dJ4_length_8abf5_0 : decode cJ4_length_8abf5 0 = .ok (.aload_n 0, 1) := by decide +kernel
theorem dJ4_length_8abf5_1 : decode cJ4_length_8abf5 1 = .ok (.invokespecial 343, 3) := by decide +kernel
theorem dJ4_length_8abf5_4 : decode cJ4_length_8abf5 4 = .ok (.ireturn, 1) := by decide +kernel
theorem dJ5_length_8abf5_0 : decode cJ5_length_8abf5 0 = .ok (.aload_n 0, 1) := by decide +kernel
theorem dJ5_length_8abf5_1 : decode cJ5_length_8abf5 1 = .ok (.getfield 79, 3) := by decide +kernel
theorem dJ5_length_8abf5_4 : decode cJ5_length_8abf5 4 = .ok (.ireturn, 1) := by decide +kernel
theorem dJ7_copyOfRange_39247_0 : decode cJ7_copyOfRange_39247 0 = .ok (.iload_n 1, 1) := by decide +kernel
theorem dJ7_copyOfRange_39247_1 : decode cJ7_copyOfRange_39247 1 = .ok (.ifCond .ne 9, 3) := by decide +kernel
theorem dJ7_copyOfRange_39247_4 : decode cJ7_copyOfRange_39247 4 = .ok (.iload_n 2, 1) := by decide +kernel
theorem dJ7_copyOfRange_39247_5 : decode cJ7_copyOfRange_39247 5 = .ok (.aload_n 0, 1) := by decide +kernel
theorem dJ7_copyOfRange_39247_6 : decode cJ7_copyOfRange_39247 6 = .ok (.arraylength, 1) := by decide +kernel
theorem dJ7_copyOfRange_39247_7 : decode cJ7_copyOfRange_39247 7 = .ok (.if_icmp .eq 10, 3) := by decide +kernel
theorem dJ7_copyOfRange_39247_10 : decode cJ7_copyOfRange_39247 10 = .ok (.aload_n 0, 1) := by decide +kernel
theorem dJ7_copyOfRange_39247_11 : decode cJ7_copyOfRange_39247 11 = .ok (.iload_n 1, 1) := by decide +kernel
theorem dJ7_copyOfRange_39247_12 : decode cJ7_copyOfRange_39247 12 = .ok (.iload_n 2, 1) := by decide +kernel
theorem dJ7_copyOfRange_39247_13 : decode cJ7_copyOfRange_39247 13 = .ok (.invokestatic 339, 3) := by decide +kernel
theorem dJ7_copyOfRange_39247_16 : decode cJ7_copyOfRange_39247 16 = .ok (.areturn, 1) := by decide +kernel
theorem dJ7_copyOfRange_39247_17 : decode cJ7_copyOfRange_39247 17 = .ok (.aload_n 0, 1) := by decide +kernel
theorem dJ7_copyOfRange_39247_18 : decode cJ7_copyOfRange_39247 18 = .ok (.invokevirtual 310, 3) := by decide +kernel
theorem dJ7_copyOfRange_39247_21 : decode cJ7_copyOfRange_39247 21 = .ok (.checkcast 311, 3) := by decide +kernel
theorem dJ7_copyOfRange_39247_24 : decode cJ7_copyOfRange_39247 24 = .ok (.areturn, 1) := by decide +kernel
theorem dJ7_copyOfRangeByte_39247_0 : decode cJ7_copyOfRangeByte_39247 0 = .ok (.iload_n 1, 1) := by decide +kernel
theorem dJ7_copyOfRangeByte_39247_1 : decode cJ7_copyOfRangeByte_39247 1 = .ok (.iload_n 2, 1) := by decide +kernel
theorem dJ7_copyOfRangeByte_39247_2 : decode cJ7_copyOfRangeByte_39247 2 = .ok (.invokestatic 343, 3) := by decide +kernel
theorem dJ7_copyOfRangeByte_39247_5 : decode cJ7_copyOfRangeByte_39247 5 = .ok (.iload_n 2, 1) := by decide +kernel
theorem dJ7_copyOfRangeByte_39247_6 : decode cJ7_copyOfRangeByte_39247 6 = .ok (.iload_n 1, 1) := by decide +kernel
theorem dJ7_copyOfRangeByte_39247_7 : decode cJ7_copyOfRangeByte_39247 7 = .ok (.isub, 1) := by decide +kernel
theorem dJ7_copyOfRangeByte_39247_8 : decode cJ7_copyOfRangeByte_39247 8 = .ok (.istore_n 3, 1) := by decide +kernel
theorem dJ7_copyOfRangeByte_39247_9 : decode cJ7_copyOfRangeByte_39247 9 = .ok (.iload_n 3, 1) := by decide +kernel
theorem dJ7_copyOfRangeByte_39247_10 : decode cJ7_copyOfRangeByte_39247 10 = .ok (.newarray .byte, 2) := by decide +kernel
theorem dJ7_copyOfRangeByte_39247_12 : decode cJ7_copyOfRangeByte_39247 12 = .ok (.astore 4, 2) := by decide +kernel
theorem dJ7_copyOfRangeByte_39247_14 : decode cJ7_copyOfRangeByte_39247 14 = .ok (.aload_n 0, 1) := by decide +kernel
theorem dJ7_copyOfRangeByte_39247_15 : decode cJ7_copyOfRangeByte_39247 15 = .ok (.iload_n 1, 1) := by decide +kernel
theorem dJ7_copyOfRangeByte_39247_16 : decode cJ7_copyOfRangeByte_39247 16 = .ok (.aload 4, 2) := by decide +kernel
theorem dJ7_copyOfRangeByte_39247_18 : decode cJ7_copyOfRangeByte_39247 18 = .ok (.iconst 0, 1) := by decide +kernel
theorem dJ7_copyOfRangeByte_39247_19 : decode cJ7_copyOfRangeByte_39247 19 = .ok (.aload_n 0, 1) := by decide +kernel
theorem dJ7_copyOfRangeByte_39247_20 : decode cJ7_copyOfRangeByte_39247 20 = .ok (.arraylength, 1) := by decide +kernel
theorem dJ7_copyOfRangeByte_39247_21 : decode cJ7_copyOfRangeByte_39247 21 = .ok (.iload_n 1, 1) := by decide +kernel
theorem dJ7_copyOfRangeByte_39247_22 : decode cJ7_copyOfRangeByte_39247 22 = .ok (.isub, 1) := by decide +kernel
theorem dJ7_copyOfRangeByte_39247_23 : decode cJ7_copyOfRangeByte_39247 23 = .ok (.iload_n 3, 1) := by decide +kernel
theorem dJ7_copyOfRangeByte_39247_24 : decode cJ7_copyOfRangeByte_39247 24 = .ok (.invokestatic 304, 3) := by decide +kernel
theorem dJ7_copyOfRangeByte_39247_27 : decode cJ7_copyOfRangeByte_39247 27 = .ok (.invokestatic 150, 3) := by decide +kernel
theorem dJ7_copyOfRangeByte_39247_30 : decode cJ7_copyOfRangeByte_39247 30 = .ok (.aload 4, 2) := by decide +kernel
theorem dJ7_copyOfRangeByte_39247_32 : decode cJ7_copyOfRangeByte_39247 32 = .ok (.areturn, 1) := by decide +kernel
theorem dJ7_checkLength_df160_0 : decode cJ7_checkLength_df160 0 = .ok (.iload_n 1, 1) := by decide +kernel
theorem dJ7_checkLength_df160_1 : decode cJ7_checkLength_df160 1 = .ok (.iload_n 0, 1) := by decide +kernel
theorem dJ7_checkLength_df160_2 : decode cJ7_checkLength_df160 2 = .ok (.if_icmp .ge 35, 3) := by decide +kernel
theorem dJ7_checkLength_df160_5 : decode cJ7_checkLength_df160 5 = .ok (.new 43, 3) := by decide +kernel
theorem dJ7_checkLength_df160_8 : decode cJ7_checkLength_df160 8 = .ok (.dup, 1) := by decide +kernel
theorem dJ7_checkLength_df160_9 : decode cJ7_checkLength_df160 9 = .ok (.new 45, 3) := by decide +kernel
theorem dJ7_checkLength_df160_12 : decode cJ7_checkLength_df160 12 = .ok (.dup, 1) := by decide +kernel
theorem dJ7_checkLength_df160_13 : decode cJ7_checkLength_df160 13 = .ok (.invokespecial 47, 3) := by decide +kernel
theorem dJ7_checkLength_df160_16 : decode cJ7_checkLength_df160 16 = .ok (.iload_n 0, 1) := by decide +kernel
theorem dJ7_checkLength_df160_17 : decode cJ7_checkLength_df160 17 = .ok (.invokevirtual 54, 3) := by decide +kernel
theorem dJ7_checkLength_df160_20 : decode cJ7_checkLength_df160 20 = .ok (.ldc_w 337, 3) := by decide +kernel
theorem dJ7_checkLength_df160_23 : decode cJ7_checkLength_df160 23 = .ok (.invokevirtual 50, 3) := by decide +kernel
theorem dJ7_checkLength_df160_26 : decode cJ7_checkLength_df160 26 = .ok (.iload_n 1, 1) := by decide +kernel
theorem dJ7_checkLength_df160_27 : decode cJ7_checkLength_df160 27 = .ok (.invokevirtual 54, 3) := by decide +kernel
theorem dJ7_checkLength_df160_30 : decode cJ7_checkLength_df160 30 = .ok (.invokevirtual 61, 3) := by decide +kernel
theorem dJ7_checkLength_df160_33 : decode cJ7_checkLength_df160 33 = .ok (.invokespecial 65, 3) := by decide +kernel
theorem dJ7_checkLength_df160_36 : decode cJ7_checkLength_df160 36 = .ok (.athrow, 1) := by decide +kernel
theorem dJ7_checkLength_df160_37 : decode cJ7_checkLength_df160 37 = .ok (.return_, 1) := by decide +kernel
theorem cf_J4 : xCF 14 RJ4 TJ4 4 tyJ4 := by
  refine ⟨rfl, ?_, tyJ4_ok, nmJ4⟩
  intro w hw
  obtain ⟨k, hk, rfl⟩ := List.mem_map.mp hw
  have hk := List.mem_range.mp hk
  match k, hk with
  | 0, _ => exact gW_in (gT3 (List.mem_of_getElem? (i := 173) (by decide +kernel))) (by decide +kernel)
  | 1, _ => exact gW_in (gT3 (List.mem_of_getElem? (i := 175) (by decide +kernel))) (by decide +kernel)
  | 2, _ => exact gW_in (gT3 (List.mem_of_getElem? (i := 177) (by decide +kernel))) (by decide +kernel)
  | 3, _ => exact gW_in (gT3 (List.mem_of_getElem? (i := 179) (by decide +kernel))) (by decide +kernel)
  | k + 4, h => omega
theorem cf_J0 : xCF 13 RJ0 TJ0 4 tyJ0 := by
  refine ⟨rfl, ?_, tyJ0_ok, nmJ0⟩
  intro w hw
  obtain ⟨k, hk, rfl⟩ := List.mem_map.mp hw
  have hk := List.mem_range.mp hk
  match k, hk with
  | 0, _ => exact gW_in (gT4 (List.mem_of_getElem? (i := 196) (by decide +kernel))) (by decide +kernel)
  | 1, _ => exact gW_in (gT4 (List.mem_of_getElem? (i := 198) (by decide +kernel))) (by decide +kernel)
  | 2, _ => exact gW_in (gT4 (List.mem_of_getElem? (i := 200) (by decide +kernel))) (by decide +kernel)
  | 3, _ => exact gW_in (gT4 (List.mem_of_getElem? (i := 202) (by decide +kernel))) (by decide +kernel)
  | k + 4, h => omega
theorem fl_J5_15 : xFL RJ5 15 14 0 RJ4 TJ4 4 tyJ4 := ⟨cf_J4, by decide, gW_in (gT3 (List.mem_of_getElem? (i := 169) (by decide +kernel))) (by decide +kernel)⟩
theorem fl_J5_22 : xFL RJ5 22 14 1 RJ4 TJ4 4 tyJ4 := ⟨cf_J4, by decide, gW_in (gT3 (List.mem_of_getElem? (i := 170) (by decide +kernel))) (by decide +kernel)⟩
theorem fl_J5_79 : xFL RJ5 79 14 3 RJ4 TJ4 4 tyJ4 := ⟨cf_J4, by decide, gW_in (gT3 (List.mem_of_getElem? (i := 172) (by decide +kernel))) (by decide +kernel)⟩
theorem fl_J0_9 : xFL RJ0 9 13 0 RJ0 TJ0 4 tyJ0 := ⟨cf_J0, by decide, gW_in (gT4 (List.mem_of_getElem? (i := 194) (by decide +kernel))) (by decide +kernel)⟩
theorem fl_J0_15 : xFL RJ0 15 13 1 RJ0 TJ0 4 tyJ0 := ⟨cf_J0, by decide, gW_in (gT4 (List.mem_of_getElem? (i := 195) (by decide +kernel))) (by decide +kernel)⟩
theorem flw_J5_18 : Cond.fieldLink "java/lang/AbstractStringBuilder" 18 "java/lang/String" "COMPACT_STRINGS" "Z" ∈ gW := gW_in (gT3 (List.mem_of_getElem? (i := 161) (by decide +kernel))) (by decide +kernel)
theorem oi_i : Cond.instanceMethod Lib.objectInit ∈ gW := gW_in (gT1 (List.mem_of_getElem? (i := 37) (by decide +kernel))) (by decide +kernel)
theorem oi_c : Cond.code Lib.objectInit ⟨#[0xb1]⟩ 1 none ∈ gW := gW_in (gT1 (List.mem_of_getElem? (i := 38) (by decide +kernel))) (by decide +kernel)
theorem ar_int : Cond.arrayClass .int ∈ gW := gW_in (gT1 (List.mem_of_getElem? (i := 192) (by decide +kernel))) (by decide +kernel)
theorem ar_long : Cond.arrayClass .long ∈ gW := gW_in (gT8 (List.mem_of_getElem? (i := 152) (by decide +kernel))) (by decide +kernel)
theorem ar_byte : Cond.arrayClass .byte ∈ gW := gW_in (gT1 (List.mem_of_getElem? (i := 61) (by decide +kernel))) (by decide +kernel)
theorem oi_J5_3 : Cond.methodLink RJ5 3 Lib.objectInit ∈ gW := gW_in (gT3 (List.mem_of_getElem? (i := 160) (by decide +kernel))) (by decide +kernel)
theorem oi_J0_1 : Cond.methodLink RJ0 1 Lib.objectInit ∈ gW := gW_in (gT4 (List.mem_of_getElem? (i := 26) (by decide +kernel))) (by decide +kernel)
theorem mi_X1_37 : xMI RX1 37 yJ4_init_da8c8 cJ4_init_da8c8 1 0 := ⟨gW_in (gT3 (List.mem_of_getElem? (i := 154) (by decide +kernel))) (by decide +kernel), gW_in (gT3 (List.mem_of_getElem? (i := 155) (by decide +kernel))) (by decide +kernel), gW_in (gT1 (List.mem_of_getElem? (i := 25) (by decide +kernel))) (by decide +kernel), gW_in (gT3 (List.mem_of_getElem? (i := 156) (by decide +kernel))) (by decide +kernel), rfl, by decide, by decide, by decide +kernel⟩
theorem mi_J4_1 : xMI RJ4 1 yJ5_init_d00df cJ5_init_d00df 2 1 := ⟨gW_in (gT3 (List.mem_of_getElem? (i := 157) (by decide +kernel))) (by decide +kernel), gW_in (gT3 (List.mem_of_getElem? (i := 158) (by decide +kernel))) (by decide +kernel), gW_in (gT1 (List.mem_of_getElem? (i := 24) (by decide +kernel))) (by decide +kernel), gW_in (gT3 (List.mem_of_getElem? (i := 159) (by decide +kernel))) (by decide +kernel), rfl, by decide, by decide, by decide +kernel⟩
theorem mi_J4_137 : xMI RJ4 137 yJ0_init_81219 cJ0_init_81219 2 1 := ⟨gW_in (gT4 (List.mem_of_getElem? (i := 20) (by decide +kernel))) (by decide +kernel), gW_in (gT4 (List.mem_of_getElem? (i := 21) (by decide +kernel))) (by decide +kernel), gW_in (gT1 (List.mem_of_getElem? (i := 20) (by decide +kernel))) (by decide +kernel), gW_in (gT4 (List.mem_of_getElem? (i := 22) (by decide +kernel))) (by decide +kernel), rfl, by decide, by decide, by decide +kernel⟩
theorem mi_J0_489 : xMI RJ0 489 yJ0_init_db425 cJ0_init_db425 5 2 := ⟨gW_in (gT4 (List.mem_of_getElem? (i := 23) (by decide +kernel))) (by decide +kernel), gW_in (gT4 (List.mem_of_getElem? (i := 24) (by decide +kernel))) (by decide +kernel), gW_in (gT1 (List.mem_of_getElem? (i := 20) (by decide +kernel))) (by decide +kernel), gW_in (gT4 (List.mem_of_getElem? (i := 25) (by decide +kernel))) (by decide +kernel), rfl, by decide, by decide, by decide +kernel⟩
theorem ml_J5_191 : xMS RJ5 191 yJ1_canEncode_fc78d cJ1_canEncode_fc78d 1 (some (FieldType.boolean)) 1 := ⟨gW_in (gT3 (List.mem_of_getElem? (i := 226) (by decide +kernel))) (by decide +kernel), gW_in (gT3 (List.mem_of_getElem? (i := 227) (by decide +kernel))) (by decide +kernel), gW_in (gT1 (List.mem_of_getElem? (i := 21) (by decide +kernel))) (by decide +kernel), gW_in (gT3 (List.mem_of_getElem? (i := 228) (by decide +kernel))) (by decide +kernel), by decide, by decide, by decide +kernel⟩
theorem ml_J0_54 : xMS RJ0 54 yJ7_copyOfRange_39247 cJ7_copyOfRange_39247 3 (some ((FieldType.array FieldType.byte))) 3 := ⟨gW_in (gT4 (List.mem_of_getElem? (i := 41) (by decide +kernel))) (by decide +kernel), gW_in (gT4 (List.mem_of_getElem? (i := 42) (by decide +kernel))) (by decide +kernel), gW_in (gT1 (List.mem_of_getElem? (i := 27) (by decide +kernel))) (by decide +kernel), gW_in (gT4 (List.mem_of_getElem? (i := 43) (by decide +kernel))) (by decide +kernel), by decide, by decide, by decide +kernel⟩
theorem ml_J7_339 : xMS RJ7 339 yJ7_copyOfRangeByte_39247 cJ7_copyOfRangeByte_39247 5 (some ((FieldType.array FieldType.byte))) 3 := ⟨gW_in (gT4 (List.mem_of_getElem? (i := 44) (by decide +kernel))) (by decide +kernel), gW_in (gT4 (List.mem_of_getElem? (i := 45) (by decide +kernel))) (by decide +kernel), gW_in (gT1 (List.mem_of_getElem? (i := 27) (by decide +kernel))) (by decide +kernel), gW_in (gT4 (List.mem_of_getElem? (i := 46) (by decide +kernel))) (by decide +kernel), by decide, by decide, by decide +kernel⟩
theorem ml_J7_343 : xMS RJ7 343 yJ7_checkLength_df160 cJ7_checkLength_df160 2 none 2 := ⟨gW_in (gT4 (List.mem_of_getElem? (i := 47) (by decide +kernel))) (by decide +kernel), gW_in (gT4 (List.mem_of_getElem? (i := 48) (by decide +kernel))) (by decide +kernel), gW_in (gT1 (List.mem_of_getElem? (i := 27) (by decide +kernel))) (by decide +kernel), gW_in (gT4 (List.mem_of_getElem? (i := 49) (by decide +kernel))) (by decide +kernel), by decide, by decide, by decide +kernel⟩
theorem ml_J7_304 : xMS RJ7 304 yJ9_min_7cf53 cJ9_min_7cf53 2 (some (FieldType.int)) 2 := ⟨gW_in (gT3 (List.mem_of_getElem? (i := 217) (by decide +kernel))) (by decide +kernel), gW_in (gT3 (List.mem_of_getElem? (i := 21) (by decide +kernel))) (by decide +kernel), gW_in (gT1 (List.mem_of_getElem? (i := 3) (by decide +kernel))) (by decide +kernel), gW_in (gT3 (List.mem_of_getElem? (i := 22) (by decide +kernel))) (by decide +kernel), by decide, by decide, by decide +kernel⟩
/-- a link to a method of a superclass of the receiver's -/
def xMU (own : String) (ix : Nat) (y : MethodName) (b : ByteArray) (n : Nat) (r : Option FieldType) (k : Nat) : Prop :=
  Cond.methodLink own ix y ∈ gW ∧ Cond.sameMethod y.cls y.cls y.name y.desc ∈ gW ∧ Cond.instanceMethod y ∈ gW ∧ Cond.initialized y.cls ∈ gW ∧ Cond.code y b n r ∈ gW ∧ (y.cls ≠ "java/lang/invoke/MethodHandle" ∧ y.cls ≠ "java/lang/invoke/VarHandle") ∧ (parseMethodDescriptor y.desc).map (fun d => d.parameters.length) = some k
theorem mu_J5_83 : xMU RJ5 83 yJ5_isLatin1_aae02 cJ5_isLatin1_aae02 1 (some (FieldType.boolean)) 0 := ⟨gW_in (gT3 (List.mem_of_getElem? (i := 221) (by decide +kernel))) (by decide +kernel), gW_in (gT3 (List.mem_of_getElem? (i := 223) (by decide +kernel))) (by decide +kernel), gW_in (gT3 (List.mem_of_getElem? (i := 222) (by decide +kernel))) (by decide +kernel), gW_in (gT1 (List.mem_of_getElem? (i := 24) (by decide +kernel))) (by decide +kernel), gW_in (gT3 (List.mem_of_getElem? (i := 225) (by decide +kernel))) (by decide +kernel), by decide, by decide +kernel⟩
theorem mu_J5_100 : xMU RJ5 100 yJ5_ensureCapacityInternal_d00df cJ5_ensureCapacityInternal_d00df 3 none 1 := ⟨gW_in (gT3 (List.mem_of_getElem? (i := 190) (by decide +kernel))) (by decide +kernel), gW_in (gT11 (List.mem_of_getElem? (i := 135) (by decide +kernel))) (by decide +kernel), gW_in (gT3 (List.mem_of_getElem? (i := 192) (by decide +kernel))) (by decide +kernel), gW_in (gT1 (List.mem_of_getElem? (i := 24) (by decide +kernel))) (by decide +kernel), gW_in (gT3 (List.mem_of_getElem? (i := 193) (by decide +kernel))) (by decide +kernel), by decide, by decide +kernel⟩
theorem mu_J0_552 : xMU RJ0 552 yJ5_getValue_6d5f1 cJ5_getValue_6d5f1 1 (some ((FieldType.array FieldType.byte))) 0 := ⟨gW_in (gT4 (List.mem_of_getElem? (i := 27) (by decide +kernel))) (by decide +kernel), gW_in (gT4 (List.mem_of_getElem? (i := 29) (by decide +kernel))) (by decide +kernel), gW_in (gT4 (List.mem_of_getElem? (i := 28) (by decide +kernel))) (by decide +kernel), gW_in (gT1 (List.mem_of_getElem? (i := 24) (by decide +kernel))) (by decide +kernel), gW_in (gT4 (List.mem_of_getElem? (i := 31) (by decide +kernel))) (by decide +kernel), by decide, by decide +kernel⟩
theorem mu_J0_549 : xMU RJ0 549 yJ5_length_8abf5 cJ5_length_8abf5 1 (some (FieldType.int)) 0 := ⟨gW_in (gT4 (List.mem_of_getElem? (i := 32) (by decide +kernel))) (by decide +kernel), gW_in (gT4 (List.mem_of_getElem? (i := 34) (by decide +kernel))) (by decide +kernel), gW_in (gT4 (List.mem_of_getElem? (i := 33) (by decide +kernel))) (by decide +kernel), gW_in (gT1 (List.mem_of_getElem? (i := 24) (by decide +kernel))) (by decide +kernel), gW_in (gT4 (List.mem_of_getElem? (i := 39) (by decide +kernel))) (by decide +kernel), by decide, by decide +kernel⟩
theorem mu_J0_1047 : xMU RJ0 1047 yJ5_isLatin1_aae02 cJ5_isLatin1_aae02 1 (some (FieldType.boolean)) 0 := ⟨gW_in (gT4 (List.mem_of_getElem? (i := 40) (by decide +kernel))) (by decide +kernel), gW_in (gT3 (List.mem_of_getElem? (i := 223) (by decide +kernel))) (by decide +kernel), gW_in (gT3 (List.mem_of_getElem? (i := 222) (by decide +kernel))) (by decide +kernel), gW_in (gT1 (List.mem_of_getElem? (i := 24) (by decide +kernel))) (by decide +kernel), gW_in (gT3 (List.mem_of_getElem? (i := 225) (by decide +kernel))) (by decide +kernel), by decide, by decide +kernel⟩
theorem mu_J4_50 : xMU RJ4 50 yJ5_append_3fe6f cJ5_append_3fe6f 2 (some ((FieldType.object "java/lang/AbstractStringBuilder"))) 1 := ⟨gW_in (gT3 (List.mem_of_getElem? (i := 187) (by decide +kernel))) (by decide +kernel), gW_in (gT11 (List.mem_of_getElem? (i := 134) (by decide +kernel))) (by decide +kernel), gW_in (gT3 (List.mem_of_getElem? (i := 188) (by decide +kernel))) (by decide +kernel), gW_in (gT1 (List.mem_of_getElem? (i := 24) (by decide +kernel))) (by decide +kernel), gW_in (gT3 (List.mem_of_getElem? (i := 189) (by decide +kernel))) (by decide +kernel), by decide, by decide +kernel⟩
theorem mu_J4_343 : xMU RJ4 343 yJ5_length_8abf5 cJ5_length_8abf5 1 (some (FieldType.int)) 0 := ⟨gW_in (gT4 (List.mem_of_getElem? (i := 38) (by decide +kernel))) (by decide +kernel), gW_in (gT4 (List.mem_of_getElem? (i := 34) (by decide +kernel))) (by decide +kernel), gW_in (gT4 (List.mem_of_getElem? (i := 33) (by decide +kernel))) (by decide +kernel), gW_in (gT1 (List.mem_of_getElem? (i := 24) (by decide +kernel))) (by decide +kernel), gW_in (gT4 (List.mem_of_getElem? (i := 39) (by decide +kernel))) (by decide +kernel), by decide, by decide +kernel⟩
theorem se_isLatin1 : Cond.selects "java/lang/StringBuilder" yJ5_isLatin1_aae02 yJ5_isLatin1_aae02 ∈ gW := gW_in (gT3 (List.mem_of_getElem? (i := 224) (by decide +kernel))) (by decide +kernel)
theorem se_getValue : Cond.selects "java/lang/StringBuilder" yJ5_getValue_6d5f1 yJ5_getValue_6d5f1 ∈ gW := gW_in (gT4 (List.mem_of_getElem? (i := 30) (by decide +kernel))) (by decide +kernel)
theorem se_length : Cond.selects "java/lang/StringBuilder" yJ5_length_8abf5 yJ4_length_8abf5 ∈ gW := gW_in (gT4 (List.mem_of_getElem? (i := 35) (by decide +kernel))) (by decide +kernel)
theorem im_length : Cond.instanceMethod yJ4_length_8abf5 ∈ gW := gW_in (gT4 (List.mem_of_getElem? (i := 36) (by decide +kernel))) (by decide +kernel)
theorem co_length : Cond.code yJ4_length_8abf5 cJ4_length_8abf5 1 (some .int) ∈ gW := gW_in (gT4 (List.mem_of_getElem? (i := 37) (by decide +kernel))) (by decide +kernel)
theorem su_J4 : Cond.superclass "java/lang/StringBuilder" "java/lang/AbstractStringBuilder" ∈ gW := gW_in (gT3 (List.mem_of_getElem? (i := 181) (by decide +kernel))) (by decide +kernel)
theorem in_J4 : Cond.instantiable RJ4 4 ∈ gW := gW_in (gT3 (List.mem_of_getElem? (i := 153) (by decide +kernel))) (by decide +kernel)
theorem ii_J4 : Cond.initialized RJ4 ∈ gW := gW_in (gT1 (List.mem_of_getElem? (i := 25) (by decide +kernel))) (by decide +kernel)
theorem in_J0 : Cond.instantiable RJ0 4 ∈ gW := gW_in (gT4 (List.mem_of_getElem? (i := 19) (by decide +kernel))) (by decide +kernel)
theorem ii_J0 : Cond.initialized RJ0 ∈ gW := gW_in (gT1 (List.mem_of_getElem? (i := 20) (by decide +kernel))) (by decide +kernel)
theorem kl_X1_35 : Cond.classLink RX1 35 RJ4 ∈ gW := gW_in (gT3 (List.mem_of_getElem? (i := 152) (by decide +kernel))) (by decide +kernel)
theorem kl_J4_18 : Cond.classLink RJ4 18 RJ0 ∈ gW := gW_in (gT4 (List.mem_of_getElem? (i := 18) (by decide +kernel))) (by decide +kernel)
theorem ac_J7_150 : xAC "java/util/Arrays" 150 := ⟨gW_in (gT3 (List.mem_of_getElem? (i := 218) (by decide +kernel))) (by decide +kernel), gW_in (gT3 (List.mem_of_getElem? (i := 220) (by decide +kernel))) (by decide +kernel), gW_in (gT3 (List.mem_of_getElem? (i := 219) (by decide +kernel))) (by decide +kernel), gW_in (gT1 (List.mem_of_getElem? (i := 28) (by decide +kernel))) (by decide +kernel)⟩
theorem sel_private {C : String} {y : MethodName} {s : State} {args : Array Value} {n : Nat} (hy : y.cls ≠ "java/lang/invoke/MethodHandle" ∧ y.cls ≠ "java/lang/invoke/VarHandle")
    (hsame : (Cond.sameMethod y.cls y.cls y.name y.desc).before args s = true) (hins : (Cond.instantiable C n).before args s = true) (hpriv : (Cond.privateMethod y).before args s = true) (hinst : (Cond.instanceMethod y).before args s = true) :
    (Cond.selects C y y).before args s = true := by
  obtain ⟨c, k, hc, hk, -, hniab, -, -⟩ := Cond.instantiable_spec hins
  obtain ⟨cn, ck, r1, hcn, hck, hni, -, -⟩ := Cond.sameMethod_found hsame
  obtain ⟨mk, methM, hnamed, hmethM, -, -⟩ := Cond.instanceMethod_spec hinst
  have hfound : s.methodFound? y.cls y.name y.desc = some mk := State.methodFound?_of_named hnamed hy
  have hsel : selectMethod {} s.vm c mk = .method mk := selectMethod_private hmethM (Cond.privateMethod_at hpriv mk methM hnamed hmethM)
  have hcls : mk.cls = cn := Option.some.inj ((findClass_of_methodNamed hnamed).symm.trans hcn)
  simp only [Cond.before, Cond.holds, Cond.value, hc, hfound, hnamed, hsel, hcls, hck]
  simp
  exact hni
theorem pv_at {y : MethodName} {s0 s : State} {args : Array Value} (h : va_Nw (.privateMethod y) s0) (hW : s0.WarmedH s.vm) : (Cond.privateMethod y).before args s = true :=
  va_Nw.use rfl (va_tabs rfl (rfl : (s0.setVm s.vm).vm = s.vm) (by rw [Cond.privateMethod_setVm hW.alike]; exact h))
section SBR
variable {p : Program} {l : Launch} {e : Env} {R : Room} {s : State} {m : MethodId} {args : Array Value} {below : List Frame} {meth : Method} {c : Code} {nL : Nat} {Q : State → Prop} {H : Heap} {locs : List Loc} {cells slots : Nat} {pc : Nat} {lv : List (Nat × Value)} {st : List Value}
  {D : va_G} {cA : Nat → ClassId} {s0 : State} {own : String} {cc : ByteArray} {rt : Option FieldType}
  {ix n k ci N mc ms b : Nat} {Cn : String} {y : MethodName} {bytes : ByteArray} {r : Option FieldType} {rm : Room} {As fs : List Value} {Wd : Heap → Prop} {T : u_T}
theorem x_null (C : xC D cA s0 own cc nL rt p s m args meth c) (hd : decode cc pc = .ok (.aconst_null, 1)) (kk : xW p l e R s m args below meth c nL Q H locs cells slots (pc + 1) lv (.null :: st)) : xW p l e R s m args below meth c nL Q H locs cells slots pc lv st := fun ls hl => lv_null C.1 C.2.1 hd (kk ls hl)
theorem x_runU {Qc : Array Value → State → Outcome → State → Prop} {free : Nat → Prop} {ls : Array Slot} (rest : List Value) (hl : ls.size = nL) (C : xC D cA s0 own cc nL rt p s m args meth c) (ML : xMU own ix y bytes n r k) (hsel : (Cond.selects Cn y y).before args s = true) (hM : Met l y (wsG y bytes n r) rm (xP D cA s0 (.ref b :: As) Wd) Qc mc ms free) (hrm : xRm rm R mc ms n) (hn : As.length = k) (hrecv : va_at D xcl (b, .inr (ci, fs)) H) (hci : xcl[ci]? = some (Cn, T, N)) (hWd : Wd H) (hro : (rest.map fun v => v.category).sum ≤ 8) (hcs : cells + mc ≤ R.cells ∧ slots + ms ≤ R.slots) (hd : decode cc pc = .ok (.invokevirtual ix, 3)) :
    va_Run p l e R s m args below meth c H locs cells slots mc ms (F0 m pc ls (As.reverse ++ .ref b :: rest)) rest (Qc (Value.ref b :: As).toArray) free := by
  obtain ⟨h1, h2, h4, h5, h6, h7, h8⟩ := ML
  have T1 := C.2.2.2.2.2.1
  exact va_runU (As := As) (rest := rest) (x := y) (y := y) (owner := y.cls) (C := Cn) ⟨C.1, C.2.1, C.2.2.2.1, C.2.2.2.2.1, C.2.2.2.2.2.1⟩ hM ⟨⟨hrm.1, hrm.2.1, hrm.2.2.1, hrm.2.2.2, pay_in T1 (wsG_good h6), List.mem_cons_self⟩, T1 _ h6, T1 _ h5, h7, fun sig h => by
    rw [h] at h8
    exact (Option.some.inj h8).symm, T1 _ h1, T1 _ h2, va_Decl.of (T1 _ h4) (T1 _ h6), hsel, T1 _ h4⟩ ⟨xP_blind, va_recv C.2.2.2.2.2.2.2.1 (va_one hrecv) hci (q0 := 0) rfl, fun U hU hW => ⟨rfl, C.2.2.2.2.2.2.2.warm hW, by rw [hU]; exact hWd⟩⟩ rfl hn hl rfl (lv_room hro) hd hcs
theorem x_runO {Qc : Array Value → State → Outcome → State → Prop} {free : Nat → Prop} {ls : Array Slot} {x : MethodName} {bx : ByteArray} {nx : Nat} {rx : Option FieldType} (rest : List Value) (hl : ls.size = nL) (C : xC D cA s0 own cc nL rt p s m args meth c) (ML : xMU own ix x bx nx rx k) (hsel : Cond.selects Cn x y ∈ gW) (hiy : Cond.instanceMethod y ∈ gW) (hcy : Cond.code y bytes n r ∈ gW) (hny : Cond.initialized y.cls ∈ gW) (hM : Met l y (wsG y bytes n r) rm (xP D cA s0 (.ref b :: As) Wd) Qc mc ms free) (hrm : xRm rm R mc ms n) (hn : As.length = k) (hrecv : va_at D xcl (b, .inr (ci, fs)) H) (hci : xcl[ci]? = some (Cn, T, N)) (hWd : Wd H) (hro : (rest.map fun v => v.category).sum ≤ 8) (hcs : cells + mc ≤ R.cells ∧ slots + ms ≤ R.slots) (hd : decode cc pc = .ok (.invokevirtual ix, 3)) :
    va_Run p l e R s m args below meth c H locs cells slots mc ms (F0 m pc ls (As.reverse ++ .ref b :: rest)) rest (Qc (Value.ref b :: As).toArray) free := by
  obtain ⟨h1, h2, h4, h5, h6, h7, h8⟩ := ML
  have T1 := C.2.2.2.2.2.1
  exact va_runU (As := As) (rest := rest) (x := x) (y := y) (owner := x.cls) (C := Cn) ⟨C.1, C.2.1, C.2.2.2.1, C.2.2.2.2.1, C.2.2.2.2.2.1⟩ hM ⟨⟨hrm.1, hrm.2.1, hrm.2.2.1, hrm.2.2.2, pay_in T1 (wsG_good hcy), List.mem_cons_self⟩, T1 _ hcy, T1 _ hny, h7, fun sig h => by
    rw [h] at h8
    exact (Option.some.inj h8).symm, T1 _ h1, T1 _ h2, va_Decl.of (T1 _ h4) (T1 _ h6), T1 _ hsel, T1 _ hiy⟩ ⟨xP_blind, va_recv C.2.2.2.2.2.2.2.1 (va_one hrecv) hci (q0 := 0) rfl, fun U hU hW => ⟨rfl, C.2.2.2.2.2.2.2.warm hW, by rw [hU]; exact hWd⟩⟩ rfl hn hl rfl (lv_room hro) hd hcs
theorem x_runSU {Qc : Array Value → State → Outcome → State → Prop} {free : Nat → Prop} {ls : Array Slot} (rest : List Value) (hl : ls.size = nL) (C : xC D cA s0 own cc nL rt p s m args meth c) (ML : xMU own ix y bytes n r k) (hsup : Cond.superclass own y.cls ∈ gW) (hni : y.name ≠ "<init>") (hM : Met l y (wsG y bytes n r) rm (xP D cA s0 (.ref b :: As) Wd) Qc mc ms free) (hrm : xRm rm R mc ms n) (hn : As.length = k) (hrecv : va_at D xcl (b, .inr (ci, fs)) H) (hci : xcl[ci]? = some (Cn, T, N)) (hWd : Wd H) (hro : (rest.map fun v => v.category).sum ≤ 8) (hcs : cells + mc ≤ R.cells ∧ slots + ms ≤ R.slots) (hd : decode cc pc = .ok (.invokespecial ix, 3)) :
    va_Run p l e R s m args below meth c H locs cells slots mc ms (F0 m pc ls (As.reverse ++ .ref b :: rest)) rest (Qc (Value.ref b :: As).toArray) free := by
  obtain ⟨h1, h2, h4, h5, h6, h7, h8⟩ := ML
  have T1 := C.2.2.2.2.2.1
  exact va_runSU (As := As) (rest := rest) (C := Cn) (C.2.2.2.2.2.2.2.1.1 ci _ hci).2 ⟨C.1, C.2.1, C.2.2.2.1, C.2.2.2.2.1, C.2.2.2.2.2.1⟩ hM ⟨⟨hrm.1, hrm.2.1, hrm.2.2.1, hrm.2.2.2, pay_in T1 (wsG_good h6), List.mem_cons_self⟩, T1 _ h1, T1 _ h2, T1 _ hsup, T1 _ h4, T1 _ h5, T1 _ h6, hni, fun sig h => by
    rw [h] at h8
    exact (Option.some.inj h8).symm⟩ ⟨xP_blind, va_recv C.2.2.2.2.2.2.2.1 (va_one hrecv) hci (q0 := 0) rfl, fun U hU hW => ⟨rfl, C.2.2.2.2.2.2.2.warm hW, by rw [hU]; exact hWd⟩⟩ rfl hn hl rfl (lv_room hro) hd hcs
theorem x_copyB0 {a0 a1 n0 nn : Nat} {f g : Nat → Int32} {A : Nat → Prop} {H0 : Heap} (C : xC D cA s0 own cc nL rt p s m args meth c) (AC : xAC own ix) (h0 : va_at D xcl (a0, .inl (cA 2, n0, .inl f)) H) (h1 : va_at D xcl (a1, .inl (cA 2, nn, .inl g)) H) (hle : nn ≤ n0) (h31 : n0 < 2 ^ 31) (hfit : ∀ i, i < nn → fits .byte (.int (f i)) = true) (hfr : 1 ≤ R.frames) (hlo : (st.map fun v => v.category).sum + (nativeFrameWords "java/lang/System" "arraycopy" 5 + 11) ≤ R.locals) (hd : decode cc pc = .ok (.invokestatic ix, 3)) (hS : va_S A H0 H locs) (hA : A a1)
    (kk : ∀ (H1 : Heap) (locs1 : List Loc), va_at D xcl (a1, .inl (cA 2, nn, .inl f)) H1 → (∀ q : Nat, q ≠ a1 → H1[q]? = H[q]?) → H1.size = H.size → va_S A H0 H1 locs1 → xW p l e R s m args below meth c nL Q H1 locs1 cells slots (pc + 3) lv st) : xW p l e R s m args below meth c nL Q H locs cells slots pc lv (.int (nI nn) :: .int 0 :: .ref a1 :: .int 0 :: .ref a0 :: st) := fun ls hl => by
  have hK := C.2.2.2.2.2.2.2.1
  have hts := C.2.2.2.2.2.1
  have hc0 : H[a0]? = some (vp_cell (cA 2) (n0, .inl f)) := h0
  have hc1 : H[a1]? = some (vp_cell (cA 2) (nn, .inl g)) := h1
  have h3 : ¬ nI nn < 0 := nI_pos (by omega)
  have ecl : (nI nn).toNatClampNeg = nn := nI_clamp (by omega)
  have z0 : (0 : Int32).toNatClampNeg = 0 := by decide
  have h00 : ¬ (0 : Int32) < 0 := by decide
  intro T hT X
  obtain ⟨-, k0, hk0, cm0, hkk0⟩ := (hK.2 2 _ rfl).1 n0 (fun j => .int (f j))
  obtain ⟨-, k1, hk1, cm1, hkk1⟩ := (hK.2 2 _ rfl).1 nn (fun j => .int (g j))
  obtain ⟨vm', X', step⟩ := X.arraycopy C.1 C.2.2.2.2.1 (hts _ AC.1) (hts _ AC.2.1) (hts _ AC.2.2.1) (hts _ AC.2.2.2) (src := a0) (dst := a1) (cs := vp_cell (cA 2) (n0, .inl f)) (cd := vp_cell (cA 2) (nn, .inl g)) (srcPos := 0) (destPos := 0) (n := nI nn) (by rw [hT]; exact hc0) (by rw [hT]; exact hc1)
    (fun _ h => by cases h) (fun _ h => by cases h) (fun h => by cases h) (fun h => by cases h) hk0 hk1 hkk0 hkk1 (by rfl) h00 h00 h3
    (by rw [nn_toNat h00, nn_toNat h3, ecl, z0]; show ¬ _ > ((arrV (cA 2) n0 (fun j => .int (f j))).slots.size : Int); rw [arrV_size]; omega)
    (by rw [nn_toNat h00, nn_toNat h3, ecl, z0]; show ¬ _ > ((arrV (cA 2) nn (fun j => .int (g j))).slots.size : Int); rw [arrV_size]; omega)
    (fun vm₁ _ i hi => by
      rw [ecl] at hi
      have e : (vp_cell (cA 2) (n0, .inl f)).slots.getD ((0 : Int32).toNatClampNeg + i) .null = .int (f i) := by
        show (arrV (cA 2) n0 (fun j => .int (f j))).slots.getD _ _ = _
        rw [z0, Nat.zero_add, Array.getD_eq_getD_getElem?, arrV_read _ _ (by omega)]
        rfl
      refine ⟨?_, ?_⟩
      · rw [e]
        exact hfit i hi
      · rw [e]
        exact trivial)
    (g := F0 m pc ls (.int (nI nn) :: .int 0 :: .ref a1 :: .int 0 :: .ref a0 :: st)) rfl (by rw [C.2.2.2.1]; exact hl.1) (rest := st) rfl (by rw [C.2.1]; exact hd) hfr (by show 2 * 0 + _ + _ ≤ _; omega)
  have e1 : copied (vp_cell (cA 2) (n0, .inl f)) (vp_cell (cA 2) (nn, .inl g)) 0 0 (nI nn) = vp_cell (cA 2) (nn, .inl (va_cpy f g (0 : Int32).toNatClampNeg (0 : Int32).toNatClampNeg (nI nn).toNatClampNeg)) := va_copied (fun z => .int z) (cA 2) (cA 2) f g (by rw [ecl, z0]; omega)
  rw [e1, ecl, z0] at X' step
  have hl1 : a1 < H.size := (Array.getElem?_eq_some_iff.mp hc1).1
  have hheap : ((T.setVm vm').setCell a1 (vp_cell (cA 2) (nn, .inl (va_cpy f g 0 0 nn)))).heap = H.setIfInBounds a1 (vp_cell (cA 2) (nn, .inl (va_cpy f g 0 0 nn))) := by rw [← hT]; rfl
  have oq : ∀ q : Nat, q ≠ a1 → (H.setIfInBounds a1 (vp_cell (cA 2) (nn, .inl (va_cpy f g 0 0 nn))))[q]? = H[q]? := fun q hq => by simp [Array.getElem?_setIfInBounds, Ne.symm hq]
  have ec : vp_cell (cA 2) (nn, .inl (va_cpy f g 0 0 nn)) = vp_cell (cA 2) (nn, .inl f) := by
    rw [vp_cell_i, vp_cell_i]
    refine arrV_same fun j hj => ?_
    show Value.int (va_cpy f g 0 0 nn j) = _
    unfold va_cpy
    rw [if_pos ⟨Nat.zero_le _, by omega⟩, Nat.zero_add, Nat.sub_zero]
  obtain ⟨t, g1, g2⟩ := kk _ _ (show (H.setIfInBounds a1 _)[a1]? = some (vp_cell (cA 2) (nn, .inl f)) by rw [← ec]; simp [Array.getElem?_setIfInBounds, hl1]) oq (by simp) ⟨by simp; exact hS.1, fun q g1 g2 => by
      rw [oq q (fun e => g2 (by rw [e]; exact hA))]
      exact hS.2.1 q g1 g2, fun q hq => by
      rcases List.mem_append.mp hq with h | h
      · exact hS.2.2 q h
      · obtain ⟨z, -, hz⟩ := List.mem_map.mp h
        rw [← hz]
        exact hA⟩ ls hl _ hheap X'
  exact ⟨t, step t g1, g2⟩
end SBR
