theorem dX0_init_0 : decode cX0_init 0 = .ok (.aload_n 0, 1) := by decide +kernel
theorem dX0_init_1 : decode cX0_init 1 = .ok (.invokespecial 3, 3) := by decide +kernel
theorem dX0_init_4 : decode cX0_init 4 = .ok (.aload_n 0, 1) := by decide +kernel
theorem dX0_init_5 : decode cX0_init 5 = .ok (.iload_n 1, 1) := by decide +kernel
theorem dX0_init_6 : decode cX0_init 6 = .ok (.putfield 9, 3) := by decide +kernel
theorem dX0_init_9 : decode cX0_init 9 = .ok (.aload_n 0, 1) := by decide +kernel
theorem dX0_init_10 : decode cX0_init 10 = .ok (.iload_n 2, 1) := by decide +kernel
theorem dX0_init_11 : decode cX0_init 11 = .ok (.putfield 15, 3) := by decide +kernel
theorem dX0_init_14 : decode cX0_init 14 = .ok (.aload_n 0, 1) := by decide +kernel
theorem dX0_init_15 : decode cX0_init 15 = .ok (.iload_n 3, 1) := by decide +kernel
theorem dX0_init_16 : decode cX0_init 16 = .ok (.putfield 18, 3) := by decide +kernel
theorem dX0_init_19 : decode cX0_init 19 = .ok (.aload_n 0, 1) := by decide +kernel
theorem dX0_init_20 : decode cX0_init 20 = .ok (.aload 4, 2) := by decide +kernel
theorem dX0_init_22 : decode cX0_init 22 = .ok (.putfield 21, 3) := by decide +kernel
theorem dX0_init_25 : decode cX0_init 25 = .ok (.aload_n 0, 1) := by decide +kernel
theorem dX0_init_26 : decode cX0_init 26 = .ok (.aload 5, 2) := by decide +kernel
theorem dX0_init_28 : decode cX0_init 28 = .ok (.putfield 25, 3) := by decide +kernel
theorem dX0_init_31 : decode cX0_init 31 = .ok (.aload_n 0, 1) := by decide +kernel
theorem dX0_init_32 : decode cX0_init 32 = .ok (.ldc 28, 2) := by decide +kernel
theorem dX0_init_34 : decode cX0_init 34 = .ok (.putfield 29, 3) := by decide +kernel
theorem dX0_init_37 : decode cX0_init 37 = .ok (.return_, 1) := by decide +kernel
theorem dX1_init_0 : decode cX1_init 0 = .ok (.aload_n 0, 1) := by decide +kernel
theorem dX1_init_1 : decode cX1_init 1 = .ok (.invokespecial 1, 3) := by decide +kernel
theorem dX1_init_4 : decode cX1_init 4 = .ok (.aload_n 0, 1) := by decide +kernel
theorem dX1_init_5 : decode cX1_init 5 = .ok (.iload_n 1, 1) := by decide +kernel
theorem dX1_init_6 : decode cX1_init 6 = .ok (.putfield 7, 3) := by decide +kernel
theorem dX1_init_9 : decode cX1_init 9 = .ok (.aload_n 0, 1) := by decide +kernel
theorem dX1_init_10 : decode cX1_init 10 = .ok (.iload_n 2, 1) := by decide +kernel
theorem dX1_init_11 : decode cX1_init 11 = .ok (.putfield 13, 3) := by decide +kernel
theorem dX1_init_14 : decode cX1_init 14 = .ok (.aload_n 0, 1) := by decide +kernel
theorem dX1_init_15 : decode cX1_init 15 = .ok (.iload_n 3, 1) := by decide +kernel
theorem dX1_init_16 : decode cX1_init 16 = .ok (.putfield 16, 3) := by decide +kernel
theorem dX1_init_19 : decode cX1_init 19 = .ok (.aload_n 0, 1) := by decide +kernel
theorem dX1_init_20 : decode cX1_init 20 = .ok (.iload 4, 2) := by decide +kernel
theorem dX1_init_22 : decode cX1_init 22 = .ok (.putfield 19, 3) := by decide +kernel
theorem dX1_init_25 : decode cX1_init 25 = .ok (.return_, 1) := by decide +kernel
theorem dX2_init_0 : decode cX2_init 0 = .ok (.aload_n 0, 1) := by decide +kernel
theorem dX2_init_1 : decode cX2_init 1 = .ok (.invokespecial 1, 3) := by decide +kernel
theorem dX2_init_4 : decode cX2_init 4 = .ok (.aload_n 0, 1) := by decide +kernel
theorem dX2_init_5 : decode cX2_init 5 = .ok (.iload_n 1, 1) := by decide +kernel
theorem dX2_init_6 : decode cX2_init 6 = .ok (.putfield 7, 3) := by decide +kernel
theorem dX2_init_9 : decode cX2_init 9 = .ok (.aload_n 0, 1) := by decide +kernel
theorem dX2_init_10 : decode cX2_init 10 = .ok (.aload_n 2, 1) := by decide +kernel
theorem dX2_init_11 : decode cX2_init 11 = .ok (.putfield 13, 3) := by decide +kernel
theorem dX2_init_14 : decode cX2_init 14 = .ok (.return_, 1) := by decide +kernel
theorem dX3_init_0 : decode cX3_init 0 = .ok (.aload_n 0, 1) := by decide +kernel
theorem dX3_init_1 : decode cX3_init 1 = .ok (.invokespecial 1, 3) := by decide +kernel
theorem dX3_init_4 : decode cX3_init 4 = .ok (.aload_n 0, 1) := by decide +kernel
theorem dX3_init_5 : decode cX3_init 5 = .ok (.bipush 12, 2) := by decide +kernel
theorem dX3_init_7 : decode cX3_init 7 = .ok (.anewarray 9, 3) := by decide +kernel
theorem dX3_init_10 : decode cX3_init 10 = .ok (.putfield 11, 3) := by decide +kernel
theorem dX3_init_13 : decode cX3_init 13 = .ok (.aload_n 0, 1) := by decide +kernel
theorem dX3_init_14 : decode cX3_init 14 = .ok (.sipush 200, 3) := by decide +kernel
theorem dX3_init_17 : decode cX3_init 17 = .ok (.anewarray 15, 3) := by decide +kernel
theorem dX3_init_20 : decode cX3_init 20 = .ok (.putfield 17, 3) := by decide +kernel
theorem dX3_init_23 : decode cX3_init 23 = .ok (.aload_n 0, 1) := by decide +kernel
theorem dX3_init_24 : decode cX3_init 24 = .ok (.sipush 512, 3) := by decide +kernel
theorem dX3_init_27 : decode cX3_init 27 = .ok (.anewarray 21, 3) := by decide +kernel
theorem dX3_init_30 : decode cX3_init 30 = .ok (.putfield 23, 3) := by decide +kernel
theorem dX3_init_33 : decode cX3_init 33 = .ok (.return_, 1) := by decide +kernel
theorem dX3_tell_0 : decode cX3_tell 0 = .ok (.aload_n 0, 1) := by decide +kernel
theorem dX3_tell_1 : decode cX3_tell 1 = .ok (.iload_n 1, 1) := by decide +kernel
theorem dX3_tell_2 : decode cX3_tell 2 = .ok (.invokevirtual 27, 3) := by decide +kernel
theorem dX3_tell_5 : decode cX3_tell 5 = .ok (.astore 5, 2) := by decide +kernel
theorem dX3_tell_7 : decode cX3_tell 7 = .ok (.iload_n 2, 1) := by decide +kernel
theorem dX3_tell_8 : decode cX3_tell 8 = .ok (.iconst 1, 1) := by decide +kernel
theorem dX3_tell_9 : decode cX3_tell 9 = .ok (.if_icmp .lt 35, 3) := by decide +kernel
theorem dX3_tell_12 : decode cX3_tell 12 = .ok (.iload_n 2, 1) := by decide +kernel
theorem dX3_tell_13 : decode cX3_tell 13 = .ok (.sipush 9999, 3) := by decide +kernel
theorem dX3_tell_16 : decode cX3_tell 16 = .ok (.if_icmp .gt 28, 3) := by decide +kernel
theorem dX3_tell_19 : decode cX3_tell 19 = .ok (.iload_n 3, 1) := by decide +kernel
theorem dX3_tell_20 : decode cX3_tell 20 = .ok (.ifCond .lt 24, 3) := by decide +kernel
theorem dX3_tell_23 : decode cX3_tell 23 = .ok (.iload_n 3, 1) := by decide +kernel
theorem dX3_tell_24 : decode cX3_tell 24 = .ok (.sipush 999, 3) := by decide +kernel
theorem dX3_tell_27 : decode cX3_tell 27 = .ok (.if_icmp .gt 17, 3) := by decide +kernel
theorem dX3_tell_30 : decode cX3_tell 30 = .ok (.iload 4, 2) := by decide +kernel
theorem dX3_tell_32 : decode cX3_tell 32 = .ok (.iconst 1, 1) := by decide +kernel
theorem dX3_tell_33 : decode cX3_tell 33 = .ok (.if_icmp .lt 11, 3) := by decide +kernel
theorem dX3_tell_36 : decode cX3_tell 36 = .ok (.iload 4, 2) := by decide +kernel
theorem dX3_tell_38 : decode cX3_tell 38 = .ok (.sipush 999, 3) := by decide +kernel
theorem dX3_tell_41 : decode cX3_tell 41 = .ok (.if_icmp .le 13, 3) := by decide +kernel
theorem dX3_tell_44 : decode cX3_tell 44 = .ok (.new 31, 3) := by decide +kernel
theorem dX3_tell_47 : decode cX3_tell 47 = .ok (.dup, 1) := by decide +kernel
theorem dX3_tell_48 : decode cX3_tell 48 = .ok (.ldc 33, 2) := by decide +kernel
theorem dX3_tell_50 : decode cX3_tell 50 = .ok (.invokespecial 35, 3) := by decide +kernel
theorem dX3_tell_53 : decode cX3_tell 53 = .ok (.athrow, 1) := by decide +kernel
theorem dX3_tell_54 : decode cX3_tell 54 = .ok (.aload_n 0, 1) := by decide +kernel
theorem dX3_tell_55 : decode cX3_tell 55 = .ok (.getfield 38, 3) := by decide +kernel
theorem dX3_tell_58 : decode cX3_tell 58 = .ok (.istore 6, 2) := by decide +kernel
theorem dX3_tell_60 : decode cX3_tell 60 = .ok (.iload 6, 2) := by decide +kernel
theorem dX3_tell_62 : decode cX3_tell 62 = .ok (.ifCond .lt 13, 3) := by decide +kernel
theorem dX3_tell_65 : decode cX3_tell 65 = .ok (.iload 6, 2) := by decide +kernel
theorem dX3_tell_67 : decode cX3_tell 67 = .ok (.aload_n 0, 1) := by decide +kernel
theorem dX3_tell_68 : decode cX3_tell 68 = .ok (.getfield 11, 3) := by decide +kernel
theorem dX3_tell_71 : decode cX3_tell 71 = .ok (.arraylength, 1) := by decide +kernel
theorem dX3_tell_72 : decode cX3_tell 72 = .ok (.if_icmp .lt 13, 3) := by decide +kernel
theorem dX3_tell_75 : decode cX3_tell 75 = .ok (.new 42, 3) := by decide +kernel
theorem dX3_tell_78 : decode cX3_tell 78 = .ok (.dup, 1) := by decide +kernel
theorem dX3_tell_79 : decode cX3_tell 79 = .ok (.ldc 44, 2) := by decide +kernel
theorem dX3_tell_81 : decode cX3_tell 81 = .ok (.invokespecial 46, 3) := by decide +kernel
theorem dX3_tell_84 : decode cX3_tell 84 = .ok (.athrow, 1) := by decide +kernel
theorem dX3_tell_85 : decode cX3_tell 85 = .ok (.new 9, 3) := by decide +kernel
theorem dX3_tell_88 : decode cX3_tell 88 = .ok (.dup, 1) := by decide +kernel
theorem dX3_tell_89 : decode cX3_tell 89 = .ok (.iload 6, 2) := by decide +kernel
theorem dX3_tell_91 : decode cX3_tell 91 = .ok (.iload_n 2, 1) := by decide +kernel
theorem dX3_tell_92 : decode cX3_tell 92 = .ok (.iload_n 3, 1) := by decide +kernel
theorem dX3_tell_93 : decode cX3_tell 93 = .ok (.iload 4, 2) := by decide +kernel
theorem dX3_tell_95 : decode cX3_tell 95 = .ok (.invokespecial 47, 3) := by decide +kernel
theorem dX3_tell_98 : decode cX3_tell 98 = .ok (.astore 7, 2) := by decide +kernel
theorem dX3_tell_100 : decode cX3_tell 100 = .ok (.aload 7, 2) := by decide +kernel
theorem dX3_tell_102 : decode cX3_tell 102 = .ok (.aload 5, 2) := by decide +kernel
theorem dX3_tell_104 : decode cX3_tell 104 = .ok (.putfield 50, 3) := by decide +kernel
theorem dX3_tell_107 : decode cX3_tell 107 = .ok (.aload_n 0, 1) := by decide +kernel
theorem dX3_tell_108 : decode cX3_tell 108 = .ok (.getfield 11, 3) := by decide +kernel
theorem dX3_tell_111 : decode cX3_tell 111 = .ok (.iload 6, 2) := by decide +kernel
theorem dX3_tell_113 : decode cX3_tell 113 = .ok (.aload 7, 2) := by decide +kernel
theorem dX3_tell_115 : decode cX3_tell 115 = .ok (.aastore, 1) := by decide +kernel
theorem dX3_tell_116 : decode cX3_tell 116 = .ok (.aload_n 0, 1) := by decide +kernel
theorem dX3_tell_117 : decode cX3_tell 117 = .ok (.iload 6, 2) := by decide +kernel
theorem dX3_tell_119 : decode cX3_tell 119 = .ok (.iconst 1, 1) := by decide +kernel
theorem dX3_tell_120 : decode cX3_tell 120 = .ok (.iadd, 1) := by decide +kernel
theorem dX3_tell_121 : decode cX3_tell 121 = .ok (.putfield 38, 3) := by decide +kernel
theorem dX3_tell_124 : decode cX3_tell 124 = .ok (.iload 6, 2) := by decide +kernel
theorem dX3_tell_126 : decode cX3_tell 126 = .ok (.ireturn, 1) := by decide +kernel
theorem dX3_refer_0 : decode cX3_refer 0 = .ok (.aload_n 0, 1) := by decide +kernel
theorem dX3_refer_1 : decode cX3_refer 1 = .ok (.iload_n 1, 1) := by decide +kernel
theorem dX3_refer_2 : decode cX3_refer 2 = .ok (.invokevirtual 54, 3) := by decide +kernel
theorem dX3_refer_5 : decode cX3_refer 5 = .ok (.astore_n 3, 1) := by decide +kernel
theorem dX3_refer_6 : decode cX3_refer 6 = .ok (.aload_n 0, 1) := by decide +kernel
theorem dX3_refer_7 : decode cX3_refer 7 = .ok (.iload_n 2, 1) := by decide +kernel
theorem dX3_refer_8 : decode cX3_refer 8 = .ok (.invokevirtual 27, 3) := by decide +kernel
theorem dX3_refer_11 : decode cX3_refer 11 = .ok (.astore 4, 2) := by decide +kernel
theorem dX3_refer_13 : decode cX3_refer 13 = .ok (.aload_n 3, 1) := by decide +kernel
theorem dX3_refer_14 : decode cX3_refer 14 = .ok (.aload 4, 2) := by decide +kernel
theorem dX3_refer_16 : decode cX3_refer 16 = .ok (.invokestatic 57, 3) := by decide +kernel
theorem dX3_refer_19 : decode cX3_refer 19 = .ok (.ifCond .eq 13, 3) := by decide +kernel
theorem dX3_refer_22 : decode cX3_refer 22 = .ok (.new 42, 3) := by decide +kernel
theorem dX3_refer_25 : decode cX3_refer 25 = .ok (.dup, 1) := by decide +kernel
theorem dX3_refer_26 : decode cX3_refer 26 = .ok (.ldc 61, 2) := by decide +kernel
theorem dX3_refer_28 : decode cX3_refer 28 = .ok (.invokespecial 46, 3) := by decide +kernel
theorem dX3_refer_31 : decode cX3_refer 31 = .ok (.athrow, 1) := by decide +kernel
theorem dX3_refer_32 : decode cX3_refer 32 = .ok (.aload_n 3, 1) := by decide +kernel
theorem dX3_refer_33 : decode cX3_refer 33 = .ok (.getfield 50, 3) := by decide +kernel
theorem dX3_refer_36 : decode cX3_refer 36 = .ok (.invokestatic 63, 3) := by decide +kernel
theorem dX3_refer_39 : decode cX3_refer 39 = .ok (.istore 5, 2) := by decide +kernel
theorem dX3_refer_41 : decode cX3_refer 41 = .ok (.aload_n 3, 1) := by decide +kernel
theorem dX3_refer_42 : decode cX3_refer 42 = .ok (.aload 4, 2) := by decide +kernel
theorem dX3_refer_44 : decode cX3_refer 44 = .ok (.putfield 50, 3) := by decide +kernel
theorem dX3_refer_47 : decode cX3_refer 47 = .ok (.iload 5, 2) := by decide +kernel
theorem dX3_refer_49 : decode cX3_refer 49 = .ok (.ireturn, 1) := by decide +kernel
theorem dX3_pass_0 : decode cX3_pass 0 = .ok (.iload_n 1, 1) := by decide +kernel
theorem dX3_pass_1 : decode cX3_pass 1 = .ok (.iconst 1, 1) := by decide +kernel
theorem dX3_pass_2 : decode cX3_pass 2 = .ok (.if_icmp .lt 10, 3) := by decide +kernel
theorem dX3_pass_5 : decode cX3_pass 5 = .ok (.iload_n 1, 1) := by decide +kernel
theorem dX3_pass_6 : decode cX3_pass 6 = .ok (.sipush 999, 3) := by decide +kernel
theorem dX3_pass_9 : decode cX3_pass 9 = .ok (.if_icmp .le 13, 3) := by decide +kernel
theorem dX3_pass_12 : decode cX3_pass 12 = .ok (.new 31, 3) := by decide +kernel
theorem dX3_pass_15 : decode cX3_pass 15 = .ok (.dup, 1) := by decide +kernel
theorem dX3_pass_16 : decode cX3_pass 16 = .ok (.ldc 67, 2) := by decide +kernel
theorem dX3_pass_18 : decode cX3_pass 18 = .ok (.invokespecial 35, 3) := by decide +kernel
theorem dX3_pass_21 : decode cX3_pass 21 = .ok (.athrow, 1) := by decide +kernel
theorem dX3_pass_22 : decode cX3_pass 22 = .ok (.aload_n 0, 1) := by decide +kernel
theorem dX3_pass_23 : decode cX3_pass 23 = .ok (.dup, 1) := by decide +kernel
theorem dX3_pass_24 : decode cX3_pass 24 = .ok (.getfield 69, 3) := by decide +kernel
theorem dX3_pass_27 : decode cX3_pass 27 = .ok (.iload_n 1, 1) := by decide +kernel
theorem dX3_pass_28 : decode cX3_pass 28 = .ok (.iadd, 1) := by decide +kernel
theorem dX3_pass_29 : decode cX3_pass 29 = .ok (.putfield 69, 3) := by decide +kernel
theorem dX3_pass_32 : decode cX3_pass 32 = .ok (.aload_n 0, 1) := by decide +kernel
theorem dX3_pass_33 : decode cX3_pass 33 = .ok (.getfield 69, 3) := by decide +kernel
theorem dX3_pass_36 : decode cX3_pass 36 = .ok (.ireturn, 1) := by decide +kernel
theorem dX3_today_0 : decode cX3_today 0 = .ok (.aload_n 0, 1) := by decide +kernel
theorem dX3_today_1 : decode cX3_today 1 = .ok (.getfield 69, 3) := by decide +kernel
theorem dX3_today_4 : decode cX3_today 4 = .ok (.ireturn, 1) := by decide +kernel
theorem dX3_instruments_0 : decode cX3_instruments 0 = .ok (.aload_n 0, 1) := by decide +kernel
theorem dX3_instruments_1 : decode cX3_instruments 1 = .ok (.getfield 38, 3) := by decide +kernel
theorem dX3_instruments_4 : decode cX3_instruments 4 = .ok (.ireturn, 1) := by decide +kernel
theorem dX3_known_0 : decode cX3_known 0 = .ok (.iload_n 1, 1) := by decide +kernel
theorem dX3_known_1 : decode cX3_known 1 = .ok (.ifCond .lt 12, 3) := by decide +kernel
theorem dX3_known_4 : decode cX3_known 4 = .ok (.iload_n 1, 1) := by decide +kernel
theorem dX3_known_5 : decode cX3_known 5 = .ok (.aload_n 0, 1) := by decide +kernel
theorem dX3_known_6 : decode cX3_known 6 = .ok (.getfield 11, 3) := by decide +kernel
theorem dX3_known_9 : decode cX3_known 9 = .ok (.arraylength, 1) := by decide +kernel
theorem dX3_known_10 : decode cX3_known 10 = .ok (.if_icmp .lt 13, 3) := by decide +kernel
theorem dX3_known_13 : decode cX3_known 13 = .ok (.new 72, 3) := by decide +kernel
theorem dX3_known_16 : decode cX3_known 16 = .ok (.dup, 1) := by decide +kernel
theorem dX3_known_17 : decode cX3_known 17 = .ok (.ldc 74, 2) := by decide +kernel
theorem dX3_known_19 : decode cX3_known 19 = .ok (.invokespecial 76, 3) := by decide +kernel
theorem dX3_known_22 : decode cX3_known 22 = .ok (.athrow, 1) := by decide +kernel
theorem dX3_known_23 : decode cX3_known 23 = .ok (.aload_n 0, 1) := by decide +kernel
theorem dX3_known_24 : decode cX3_known 24 = .ok (.getfield 11, 3) := by decide +kernel
theorem dX3_known_27 : decode cX3_known 27 = .ok (.iload_n 1, 1) := by decide +kernel
theorem dX3_known_28 : decode cX3_known 28 = .ok (.aaload, 1) := by decide +kernel
theorem dX3_known_29 : decode cX3_known 29 = .ok (.astore_n 2, 1) := by decide +kernel
theorem dX3_known_30 : decode cX3_known 30 = .ok (.aload_n 2, 1) := by decide +kernel
theorem dX3_known_31 : decode cX3_known 31 = .ok (.ifnonnull 13, 3) := by decide +kernel
theorem dX3_known_34 : decode cX3_known 34 = .ok (.new 72, 3) := by decide +kernel
theorem dX3_known_37 : decode cX3_known 37 = .ok (.dup, 1) := by decide +kernel
theorem dX3_known_38 : decode cX3_known 38 = .ok (.ldc 74, 2) := by decide +kernel
theorem dX3_known_40 : decode cX3_known 40 = .ok (.invokespecial 76, 3) := by decide +kernel
theorem dX3_known_43 : decode cX3_known 43 = .ok (.athrow, 1) := by decide +kernel
theorem dX3_known_44 : decode cX3_known 44 = .ok (.aload_n 2, 1) := by decide +kernel
theorem dX3_known_45 : decode cX3_known 45 = .ok (.areturn, 1) := by decide +kernel
theorem dX3_knownOrNone_0 : decode cX3_knownOrNone 0 = .ok (.iload_n 1, 1) := by decide +kernel
theorem dX3_knownOrNone_1 : decode cX3_knownOrNone 1 = .ok (.iconst (-1), 1) := by decide +kernel
theorem dX3_knownOrNone_2 : decode cX3_knownOrNone 2 = .ok (.if_icmp .ne 7, 3) := by decide +kernel
theorem dX3_knownOrNone_5 : decode cX3_knownOrNone 5 = .ok (.aconst_null, 1) := by decide +kernel
theorem dX3_knownOrNone_6 : decode cX3_knownOrNone 6 = .ok (.goto 8, 3) := by decide +kernel
theorem dX3_knownOrNone_9 : decode cX3_knownOrNone 9 = .ok (.aload_n 0, 1) := by decide +kernel
theorem dX3_knownOrNone_10 : decode cX3_knownOrNone 10 = .ok (.iload_n 1, 1) := by decide +kernel
theorem dX3_knownOrNone_11 : decode cX3_knownOrNone 11 = .ok (.invokevirtual 54, 3) := by decide +kernel
theorem dX3_knownOrNone_14 : decode cX3_knownOrNone 14 = .ok (.areturn, 1) := by decide +kernel
theorem dX3_numberOf_0 : decode cX3_numberOf 0 = .ok (.aload_n 0, 1) := by decide +kernel
theorem dX3_numberOf_1 : decode cX3_numberOf 1 = .ok (.ifnonnull 7, 3) := by decide +kernel
theorem dX3_numberOf_4 : decode cX3_numberOf 4 = .ok (.iconst (-1), 1) := by decide +kernel
theorem dX3_numberOf_5 : decode cX3_numberOf 5 = .ok (.goto 7, 3) := by decide +kernel
theorem dX3_numberOf_8 : decode cX3_numberOf 8 = .ok (.aload_n 0, 1) := by decide +kernel
theorem dX3_numberOf_9 : decode cX3_numberOf 9 = .ok (.getfield 77, 3) := by decide +kernel
theorem dX3_numberOf_12 : decode cX3_numberOf 12 = .ok (.ireturn, 1) := by decide +kernel
theorem dX3_isInChain_0 : decode cX3_isInChain 0 = .ok (.aload_n 1, 1) := by decide +kernel
theorem dX3_isInChain_1 : decode cX3_isInChain 1 = .ok (.astore_n 2, 1) := by decide +kernel
theorem dX3_isInChain_2 : decode cX3_isInChain 2 = .ok (.aload_n 2, 1) := by decide +kernel
theorem dX3_isInChain_3 : decode cX3_isInChain 3 = .ok (.ifnull 18, 3) := by decide +kernel
theorem dX3_isInChain_6 : decode cX3_isInChain 6 = .ok (.aload_n 2, 1) := by decide +kernel
theorem dX3_isInChain_7 : decode cX3_isInChain 7 = .ok (.aload_n 0, 1) := by decide +kernel
theorem dX3_isInChain_8 : decode cX3_isInChain 8 = .ok (.if_acmp .ne 5, 3) := by decide +kernel
theorem dX3_isInChain_11 : decode cX3_isInChain 11 = .ok (.iconst 1, 1) := by decide +kernel
theorem dX3_isInChain_12 : decode cX3_isInChain 12 = .ok (.ireturn, 1) := by decide +kernel
theorem dX3_isInChain_13 : decode cX3_isInChain 13 = .ok (.aload_n 2, 1) := by decide +kernel
theorem dX3_isInChain_14 : decode cX3_isInChain 14 = .ok (.getfield 50, 3) := by decide +kernel
theorem dX3_isInChain_17 : decode cX3_isInChain 17 = .ok (.astore_n 2, 1) := by decide +kernel
theorem dX3_isInChain_18 : decode cX3_isInChain 18 = .ok (.goto (-16), 3) := by decide +kernel
theorem dX3_isInChain_21 : decode cX3_isInChain 21 = .ok (.iconst 0, 1) := by decide +kernel
theorem dX3_isInChain_22 : decode cX3_isInChain 22 = .ok (.ireturn, 1) := by decide +kernel
theorem dX3_calibrate_0 : decode cX3_calibrate 0 = .ok (.aload_n 0, 1) := by decide +kernel
theorem dX3_calibrate_1 : decode cX3_calibrate 1 = .ok (.iload_n 1, 1) := by decide +kernel
theorem dX3_calibrate_2 : decode cX3_calibrate 2 = .ok (.invokevirtual 54, 3) := by decide +kernel
theorem dX3_calibrate_5 : decode cX3_calibrate 5 = .ok (.astore 4, 2) := by decide +kernel
theorem dX3_calibrate_7 : decode cX3_calibrate 7 = .ok (.iload_n 2, 1) := by decide +kernel
theorem dX3_calibrate_8 : decode cX3_calibrate 8 = .ok (.invokestatic 80, 3) := by decide +kernel
theorem dX3_calibrate_11 : decode cX3_calibrate 11 = .ok (.ifCond .ne 10, 3) := by decide +kernel
theorem dX3_calibrate_14 : decode cX3_calibrate 14 = .ok (.iload_n 3, 1) := by decide +kernel
theorem dX3_calibrate_15 : decode cX3_calibrate 15 = .ok (.invokestatic 80, 3) := by decide +kernel
theorem dX3_calibrate_18 : decode cX3_calibrate 18 = .ok (.ifCond .eq 13, 3) := by decide +kernel
theorem dX3_calibrate_21 : decode cX3_calibrate 21 = .ok (.new 31, 3) := by decide +kernel
theorem dX3_calibrate_24 : decode cX3_calibrate 24 = .ok (.dup, 1) := by decide +kernel
theorem dX3_calibrate_25 : decode cX3_calibrate 25 = .ok (.ldc 84, 2) := by decide +kernel
theorem dX3_calibrate_27 : decode cX3_calibrate 27 = .ok (.invokespecial 35, 3) := by decide +kernel
theorem dX3_calibrate_30 : decode cX3_calibrate 30 = .ok (.athrow, 1) := by decide +kernel
theorem dX3_calibrate_31 : decode cX3_calibrate 31 = .ok (.aload_n 0, 1) := by decide +kernel
theorem dX3_calibrate_32 : decode cX3_calibrate 32 = .ok (.aload 4, 2) := by decide +kernel
theorem dX3_calibrate_34 : decode cX3_calibrate 34 = .ok (.getfield 50, 3) := by decide +kernel
theorem dX3_calibrate_37 : decode cX3_calibrate 37 = .ok (.invokevirtual 86, 3) := by decide +kernel
theorem dX3_calibrate_40 : decode cX3_calibrate 40 = .ok (.ifnull 13, 3) := by decide +kernel
theorem dX3_calibrate_43 : decode cX3_calibrate 43 = .ok (.new 42, 3) := by decide +kernel
theorem dX3_calibrate_46 : decode cX3_calibrate 46 = .ok (.dup, 1) := by decide +kernel
theorem dX3_calibrate_47 : decode cX3_calibrate 47 = .ok (.ldc 90, 2) := by decide +kernel
theorem dX3_calibrate_49 : decode cX3_calibrate 49 = .ok (.invokespecial 46, 3) := by decide +kernel
theorem dX3_calibrate_52 : decode cX3_calibrate 52 = .ok (.athrow, 1) := by decide +kernel
theorem dX3_calibrate_53 : decode cX3_calibrate 53 = .ok (.aload_n 0, 1) := by decide +kernel
theorem dX3_calibrate_54 : decode cX3_calibrate 54 = .ok (.getfield 92, 3) := by decide +kernel
theorem dX3_calibrate_57 : decode cX3_calibrate 57 = .ok (.istore 5, 2) := by decide +kernel
theorem dX3_calibrate_59 : decode cX3_calibrate 59 = .ok (.iload 5, 2) := by decide +kernel
theorem dX3_calibrate_61 : decode cX3_calibrate 61 = .ok (.ifCond .lt 13, 3) := by decide +kernel
theorem dX3_calibrate_64 : decode cX3_calibrate 64 = .ok (.iload 5, 2) := by decide +kernel
theorem dX3_calibrate_66 : decode cX3_calibrate 66 = .ok (.aload_n 0, 1) := by decide +kernel
theorem dX3_calibrate_67 : decode cX3_calibrate 67 = .ok (.getfield 23, 3) := by decide +kernel
theorem dX3_calibrate_70 : decode cX3_calibrate 70 = .ok (.arraylength, 1) := by decide +kernel
theorem dX3_calibrate_71 : decode cX3_calibrate 71 = .ok (.if_icmp .lt 5, 3) := by decide +kernel
theorem dX3_calibrate_74 : decode cX3_calibrate 74 = .ok (.iconst 0, 1) := by decide +kernel
theorem dX3_calibrate_75 : decode cX3_calibrate 75 = .ok (.ireturn, 1) := by decide +kernel
theorem dX3_calibrate_76 : decode cX3_calibrate 76 = .ok (.aload 4, 2) := by decide +kernel
theorem dX3_calibrate_78 : decode cX3_calibrate 78 = .ok (.getfield 50, 3) := by decide +kernel
theorem dX3_calibrate_81 : decode cX3_calibrate 81 = .ok (.ifnonnull 7, 3) := by decide +kernel
theorem dX3_calibrate_84 : decode cX3_calibrate 84 = .ok (.aconst_null, 1) := by decide +kernel
theorem dX3_calibrate_85 : decode cX3_calibrate 85 = .ok (.goto 11, 3) := by decide +kernel
theorem dX3_calibrate_88 : decode cX3_calibrate 88 = .ok (.aload 4, 2) := by decide +kernel
theorem dX3_calibrate_90 : decode cX3_calibrate 90 = .ok (.getfield 50, 3) := by decide +kernel
theorem dX3_calibrate_93 : decode cX3_calibrate 93 = .ok (.getfield 95, 3) := by decide +kernel
theorem dX3_calibrate_96 : decode cX3_calibrate 96 = .ok (.astore 6, 2) := by decide +kernel
theorem dX3_calibrate_98 : decode cX3_calibrate 98 = .ok (.new 21, 3) := by decide +kernel
theorem dX3_calibrate_101 : decode cX3_calibrate 101 = .ok (.dup, 1) := by decide +kernel
theorem dX3_calibrate_102 : decode cX3_calibrate 102 = .ok (.aload_n 0, 1) := by decide +kernel
theorem dX3_calibrate_103 : decode cX3_calibrate 103 = .ok (.getfield 99, 3) := by decide +kernel
theorem dX3_calibrate_106 : decode cX3_calibrate 106 = .ok (.aload_n 0, 1) := by decide +kernel
theorem dX3_calibrate_107 : decode cX3_calibrate 107 = .ok (.getfield 69, 3) := by decide +kernel
theorem dX3_calibrate_110 : decode cX3_calibrate 110 = .ok (.iload_n 3, 1) := by decide +kernel
theorem dX3_calibrate_111 : decode cX3_calibrate 111 = .ok (.aload 4, 2) := by decide +kernel
theorem dX3_calibrate_113 : decode cX3_calibrate 113 = .ok (.getfield 95, 3) := by decide +kernel
theorem dX3_calibrate_116 : decode cX3_calibrate 116 = .ok (.aload 6, 2) := by decide +kernel
theorem dX3_calibrate_118 : decode cX3_calibrate 118 = .ok (.invokespecial 102, 3) := by decide +kernel
theorem dX3_calibrate_121 : decode cX3_calibrate 121 = .ok (.astore 7, 2) := by decide +kernel
theorem dX3_calibrate_123 : decode cX3_calibrate 123 = .ok (.aload 4, 2) := by decide +kernel
theorem dX3_calibrate_125 : decode cX3_calibrate 125 = .ok (.getfield 95, 3) := by decide +kernel
theorem dX3_calibrate_128 : decode cX3_calibrate 128 = .ok (.ifnonnull 7, 3) := by decide +kernel
theorem dX3_calibrate_131 : decode cX3_calibrate 131 = .ok (.iconst 0, 1) := by decide +kernel
theorem dX3_calibrate_132 : decode cX3_calibrate 132 = .ok (.goto 17, 3) := by decide +kernel
theorem dX3_calibrate_135 : decode cX3_calibrate 135 = .ok (.aload_n 0, 1) := by decide +kernel
theorem dX3_calibrate_136 : decode cX3_calibrate 136 = .ok (.aload 4, 2) := by decide +kernel
theorem dX3_calibrate_138 : decode cX3_calibrate 138 = .ok (.aload 4, 2) := by decide +kernel
theorem dX3_calibrate_140 : decode cX3_calibrate 140 = .ok (.getfield 95, 3) := by decide +kernel
theorem dX3_calibrate_143 : decode cX3_calibrate 143 = .ok (.aload 7, 2) := by decide +kernel
theorem dX3_calibrate_145 : decode cX3_calibrate 145 = .ok (.iload_n 2, 1) := by decide +kernel
theorem dX3_calibrate_146 : decode cX3_calibrate 146 = .ok (.invokevirtual 105, 3) := by decide +kernel
theorem dX3_calibrate_149 : decode cX3_calibrate 149 = .ok (.istore 8, 2) := by decide +kernel
theorem dX3_calibrate_151 : decode cX3_calibrate 151 = .ok (.aload 4, 2) := by decide +kernel
theorem dX3_calibrate_153 : decode cX3_calibrate 153 = .ok (.aload 7, 2) := by decide +kernel
theorem dX3_calibrate_155 : decode cX3_calibrate 155 = .ok (.putfield 95, 3) := by decide +kernel
theorem dX3_calibrate_158 : decode cX3_calibrate 158 = .ok (.aload 4, 2) := by decide +kernel
theorem dX3_calibrate_160 : decode cX3_calibrate 160 = .ok (.invokestatic 109, 3) := by decide +kernel
theorem dX3_calibrate_163 : decode cX3_calibrate 163 = .ok (.aload_n 0, 1) := by decide +kernel
theorem dX3_calibrate_164 : decode cX3_calibrate 164 = .ok (.getfield 23, 3) := by decide +kernel
theorem dX3_calibrate_167 : decode cX3_calibrate 167 = .ok (.iload 5, 2) := by decide +kernel
theorem dX3_calibrate_169 : decode cX3_calibrate 169 = .ok (.aload 7, 2) := by decide +kernel
theorem dX3_calibrate_171 : decode cX3_calibrate 171 = .ok (.aastore, 1) := by decide +kernel
theorem dX3_calibrate_172 : decode cX3_calibrate 172 = .ok (.aload_n 0, 1) := by decide +kernel
theorem dX3_calibrate_173 : decode cX3_calibrate 173 = .ok (.iload 5, 2) := by decide +kernel
theorem dX3_calibrate_175 : decode cX3_calibrate 175 = .ok (.iconst 1, 1) := by decide +kernel
theorem dX3_calibrate_176 : decode cX3_calibrate 176 = .ok (.iadd, 1) := by decide +kernel
theorem dX3_calibrate_177 : decode cX3_calibrate 177 = .ok (.putfield 92, 3) := by decide +kernel
theorem dX3_calibrate_180 : decode cX3_calibrate 180 = .ok (.aload_n 0, 1) := by decide +kernel
theorem dX3_calibrate_181 : decode cX3_calibrate 181 = .ok (.dup, 1) := by decide +kernel
theorem dX3_calibrate_182 : decode cX3_calibrate 182 = .ok (.getfield 99, 3) := by decide +kernel
theorem dX3_calibrate_185 : decode cX3_calibrate 185 = .ok (.iconst 1, 1) := by decide +kernel
theorem dX3_calibrate_186 : decode cX3_calibrate 186 = .ok (.iadd, 1) := by decide +kernel
theorem dX3_calibrate_187 : decode cX3_calibrate 187 = .ok (.putfield 99, 3) := by decide +kernel
theorem dX3_calibrate_190 : decode cX3_calibrate 190 = .ok (.iload 8, 2) := by decide +kernel
theorem dX3_calibrate_192 : decode cX3_calibrate 192 = .ok (.ireturn, 1) := by decide +kernel
theorem dX3_measure_0 : decode cX3_measure 0 = .ok (.aload_n 0, 1) := by decide +kernel
theorem dX3_measure_1 : decode cX3_measure 1 = .ok (.iload_n 1, 1) := by decide +kernel
theorem dX3_measure_2 : decode cX3_measure 2 = .ok (.invokevirtual 54, 3) := by decide +kernel
theorem dX3_measure_5 : decode cX3_measure 5 = .ok (.astore_n 2, 1) := by decide +kernel
theorem dX3_measure_6 : decode cX3_measure 6 = .ok (.aload_n 0, 1) := by decide +kernel
theorem dX3_measure_7 : decode cX3_measure 7 = .ok (.getfield 113, 3) := by decide +kernel
theorem dX3_measure_10 : decode cX3_measure 10 = .ok (.istore_n 3, 1) := by decide +kernel
theorem dX3_measure_11 : decode cX3_measure 11 = .ok (.aload_n 0, 1) := by decide +kernel
theorem dX3_measure_12 : decode cX3_measure 12 = .ok (.aload_n 2, 1) := by decide +kernel
theorem dX3_measure_13 : decode cX3_measure 13 = .ok (.invokevirtual 86, 3) := by decide +kernel
theorem dX3_measure_16 : decode cX3_measure 16 = .ok (.ifnonnull 16, 3) := by decide +kernel
theorem dX3_measure_19 : decode cX3_measure 19 = .ok (.iload_n 3, 1) := by decide +kernel
theorem dX3_measure_20 : decode cX3_measure 20 = .ok (.ifCond .lt 12, 3) := by decide +kernel
theorem dX3_measure_23 : decode cX3_measure 23 = .ok (.iload_n 3, 1) := by decide +kernel
theorem dX3_measure_24 : decode cX3_measure 24 = .ok (.aload_n 0, 1) := by decide +kernel
theorem dX3_measure_25 : decode cX3_measure 25 = .ok (.getfield 17, 3) := by decide +kernel
theorem dX3_measure_28 : decode cX3_measure 28 = .ok (.arraylength, 1) := by decide +kernel
theorem dX3_measure_29 : decode cX3_measure 29 = .ok (.if_icmp .lt 13, 3) := by decide +kernel
theorem dX3_measure_32 : decode cX3_measure 32 = .ok (.new 42, 3) := by decide +kernel
theorem dX3_measure_35 : decode cX3_measure 35 = .ok (.dup, 1) := by decide +kernel
theorem dX3_measure_36 : decode cX3_measure 36 = .ok (.ldc 116, 2) := by decide +kernel
theorem dX3_measure_38 : decode cX3_measure 38 = .ok (.invokespecial 46, 3) := by decide +kernel
theorem dX3_measure_41 : decode cX3_measure 41 = .ok (.athrow, 1) := by decide +kernel
theorem dX3_measure_42 : decode cX3_measure 42 = .ok (.aload_n 0, 1) := by decide +kernel
theorem dX3_measure_43 : decode cX3_measure 43 = .ok (.getfield 17, 3) := by decide +kernel
theorem dX3_measure_46 : decode cX3_measure 46 = .ok (.iload_n 3, 1) := by decide +kernel
theorem dX3_measure_47 : decode cX3_measure 47 = .ok (.new 15, 3) := by decide +kernel
theorem dX3_measure_50 : decode cX3_measure 50 = .ok (.dup, 1) := by decide +kernel
theorem dX3_measure_51 : decode cX3_measure 51 = .ok (.aload_n 0, 1) := by decide +kernel
theorem dX3_measure_52 : decode cX3_measure 52 = .ok (.getfield 99, 3) := by decide +kernel
theorem dX3_measure_55 : decode cX3_measure 55 = .ok (.aload_n 2, 1) := by decide +kernel
theorem dX3_measure_56 : decode cX3_measure 56 = .ok (.getfield 95, 3) := by decide +kernel
theorem dX3_measure_59 : decode cX3_measure 59 = .ok (.invokespecial 118, 3) := by decide +kernel
theorem dX3_measure_62 : decode cX3_measure 62 = .ok (.aastore, 1) := by decide +kernel
theorem dX3_measure_63 : decode cX3_measure 63 = .ok (.aload_n 0, 1) := by decide +kernel
theorem dX3_measure_64 : decode cX3_measure 64 = .ok (.iload_n 3, 1) := by decide +kernel
theorem dX3_measure_65 : decode cX3_measure 65 = .ok (.iconst 1, 1) := by decide +kernel
theorem dX3_measure_66 : decode cX3_measure 66 = .ok (.iadd, 1) := by decide +kernel
theorem dX3_measure_67 : decode cX3_measure 67 = .ok (.putfield 113, 3) := by decide +kernel
theorem dX3_measure_70 : decode cX3_measure 70 = .ok (.aload_n 0, 1) := by decide +kernel
theorem dX3_measure_71 : decode cX3_measure 71 = .ok (.dup, 1) := by decide +kernel
theorem dX3_measure_72 : decode cX3_measure 72 = .ok (.getfield 99, 3) := by decide +kernel
theorem dX3_measure_75 : decode cX3_measure 75 = .ok (.iconst 1, 1) := by decide +kernel
theorem dX3_measure_76 : decode cX3_measure 76 = .ok (.iadd, 1) := by decide +kernel
theorem dX3_measure_77 : decode cX3_measure 77 = .ok (.putfield 99, 3) := by decide +kernel
theorem dX3_measure_80 : decode cX3_measure 80 = .ok (.iload_n 3, 1) := by decide +kernel
theorem dX3_measure_81 : decode cX3_measure 81 = .ok (.ireturn, 1) := by decide +kernel
theorem dX3_isNoError_0 : decode cX3_isNoError 0 = .ok (.iload_n 0, 1) := by decide +kernel
theorem dX3_isNoError_1 : decode cX3_isNoError 1 = .ok (.ldc 121, 2) := by decide +kernel
theorem dX3_isNoError_3 : decode cX3_isNoError 3 = .ok (.if_icmp .lt 9, 3) := by decide +kernel
theorem dX3_isNoError_6 : decode cX3_isNoError 6 = .ok (.iload_n 0, 1) := by decide +kernel
theorem dX3_isNoError_7 : decode cX3_isNoError 7 = .ok (.ldc 122, 2) := by decide +kernel
theorem dX3_isNoError_9 : decode cX3_isNoError 9 = .ok (.if_icmp .le 7, 3) := by decide +kernel
theorem dX3_isNoError_12 : decode cX3_isNoError 12 = .ok (.iconst 1, 1) := by decide +kernel
theorem dX3_isNoError_13 : decode cX3_isNoError 13 = .ok (.goto 4, 3) := by decide +kernel
theorem dX3_isNoError_16 : decode cX3_isNoError 16 = .ok (.iconst 0, 1) := by decide +kernel
theorem dX3_isNoError_17 : decode cX3_isNoError 17 = .ok (.ireturn, 1) := by decide +kernel
theorem dX3_settle_0 : decode cX3_settle 0 = .ok (.iload 4, 2) := by decide +kernel
theorem dX3_settle_2 : decode cX3_settle 2 = .ok (.invokestatic 123, 3) := by decide +kernel
theorem dX3_settle_5 : decode cX3_settle 5 = .ok (.istore 5, 2) := by decide +kernel
theorem dX3_settle_7 : decode cX3_settle 7 = .ok (.iconst 0, 1) := by decide +kernel
theorem dX3_settle_8 : decode cX3_settle 8 = .ok (.istore 6, 2) := by decide +kernel
theorem dX3_settle_10 : decode cX3_settle 10 = .ok (.iload 5, 2) := by decide +kernel
theorem dX3_settle_12 : decode cX3_settle 12 = .ok (.aload_n 1, 1) := by decide +kernel
theorem dX3_settle_13 : decode cX3_settle 13 = .ok (.getfield 129, 3) := by decide +kernel
theorem dX3_settle_16 : decode cX3_settle 16 = .ok (.if_icmp .le 25, 3) := by decide +kernel
theorem dX3_settle_19 : decode cX3_settle 19 = .ok (.aload_n 3, 1) := by decide +kernel
theorem dX3_settle_20 : decode cX3_settle 20 = .ok (.iconst 1, 1) := by decide +kernel
theorem dX3_settle_21 : decode cX3_settle 21 = .ok (.putfield 132, 3) := by decide +kernel
theorem dX3_settle_24 : decode cX3_settle 24 = .ok (.aload_n 1, 1) := by decide +kernel
theorem dX3_settle_25 : decode cX3_settle 25 = .ok (.dup, 1) := by decide +kernel
theorem dX3_settle_26 : decode cX3_settle 26 = .ok (.getfield 136, 3) := by decide +kernel
theorem dX3_settle_29 : decode cX3_settle 29 = .ok (.iconst 1, 1) := by decide +kernel
theorem dX3_settle_30 : decode cX3_settle 30 = .ok (.iadd, 1) := by decide +kernel
theorem dX3_settle_31 : decode cX3_settle 31 = .ok (.putfield 136, 3) := by decide +kernel
theorem dX3_settle_34 : decode cX3_settle 34 = .ok (.aload_n 0, 1) := by decide +kernel
theorem dX3_settle_35 : decode cX3_settle 35 = .ok (.aload_n 2, 1) := by decide +kernel
theorem dX3_settle_36 : decode cX3_settle 36 = .ok (.invokevirtual 138, 3) := by decide +kernel
theorem dX3_settle_39 : decode cX3_settle 39 = .ok (.istore 6, 2) := by decide +kernel
theorem dX3_settle_41 : decode cX3_settle 41 = .ok (.aload_n 1, 1) := by decide +kernel
theorem dX3_settle_42 : decode cX3_settle 42 = .ok (.aload_n 1, 1) := by decide +kernel
theorem dX3_settle_43 : decode cX3_settle 43 = .ok (.iload 5, 2) := by decide +kernel
theorem dX3_settle_45 : decode cX3_settle 45 = .ok (.invokestatic 142, 3) := by decide +kernel
theorem dX3_settle_48 : decode cX3_settle 48 = .ok (.putfield 146, 3) := by decide +kernel
theorem dX3_settle_51 : decode cX3_settle 51 = .ok (.aload_n 3, 1) := by decide +kernel
theorem dX3_settle_52 : decode cX3_settle 52 = .ok (.getfield 149, 3) := by decide +kernel
theorem dX3_settle_55 : decode cX3_settle 55 = .ok (.aload_n 2, 1) := by decide +kernel
theorem dX3_settle_56 : decode cX3_settle 56 = .ok (.getfield 149, 3) := by decide +kernel
theorem dX3_settle_59 : decode cX3_settle 59 = .ok (.if_icmp .le 27, 3) := by decide +kernel
theorem dX3_settle_62 : decode cX3_settle 62 = .ok (.aload_n 3, 1) := by decide +kernel
theorem dX3_settle_63 : decode cX3_settle 63 = .ok (.aload_n 3, 1) := by decide +kernel
theorem dX3_settle_64 : decode cX3_settle 64 = .ok (.getfield 149, 3) := by decide +kernel
theorem dX3_settle_67 : decode cX3_settle 67 = .ok (.aload_n 2, 1) := by decide +kernel
theorem dX3_settle_68 : decode cX3_settle 68 = .ok (.getfield 149, 3) := by decide +kernel
theorem dX3_settle_71 : decode cX3_settle 71 = .ok (.isub, 1) := by decide +kernel
theorem dX3_settle_72 : decode cX3_settle 72 = .ok (.putfield 152, 3) := by decide +kernel
theorem dX3_settle_75 : decode cX3_settle 75 = .ok (.aload_n 3, 1) := by decide +kernel
theorem dX3_settle_76 : decode cX3_settle 76 = .ok (.iload 4, 2) := by decide +kernel
theorem dX3_settle_78 : decode cX3_settle 78 = .ok (.aload_n 2, 1) := by decide +kernel
theorem dX3_settle_79 : decode cX3_settle 79 = .ok (.getfield 155, 3) := by decide +kernel
theorem dX3_settle_82 : decode cX3_settle 82 = .ok (.isub, 1) := by decide +kernel
theorem dX3_settle_83 : decode cX3_settle 83 = .ok (.putfield 158, 3) := by decide +kernel
theorem dX3_settle_86 : decode cX3_settle 86 = .ok (.aload_n 2, 1) := by decide +kernel
theorem dX3_settle_87 : decode cX3_settle 87 = .ok (.aload_n 3, 1) := by decide +kernel
theorem dX3_settle_88 : decode cX3_settle 88 = .ok (.getfield 161, 3) := by decide +kernel
theorem dX3_settle_91 : decode cX3_settle 91 = .ok (.putfield 162, 3) := by decide +kernel
theorem dX3_settle_94 : decode cX3_settle 94 = .ok (.iload 6, 2) := by decide +kernel
theorem dX3_settle_96 : decode cX3_settle 96 = .ok (.ireturn, 1) := by decide +kernel
theorem dX3_nextInterval_0 : decode cX3_nextInterval 0 = .ok (.iload_n 1, 1) := by decide +kernel
theorem dX3_nextInterval_1 : decode cX3_nextInterval 1 = .ok (.aload_n 0, 1) := by decide +kernel
theorem dX3_nextInterval_2 : decode cX3_nextInterval 2 = .ok (.getfield 129, 3) := by decide +kernel
theorem dX3_nextInterval_5 : decode cX3_nextInterval 5 = .ok (.if_icmp .le 14, 3) := by decide +kernel
theorem dX3_nextInterval_8 : decode cX3_nextInterval 8 = .ok (.iconst 1, 1) := by decide +kernel
theorem dX3_nextInterval_9 : decode cX3_nextInterval 9 = .ok (.aload_n 0, 1) := by decide +kernel
theorem dX3_nextInterval_10 : decode cX3_nextInterval 10 = .ok (.getfield 146, 3) := by decide +kernel
theorem dX3_nextInterval_13 : decode cX3_nextInterval 13 = .ok (.iconst 2, 1) := by decide +kernel
theorem dX3_nextInterval_14 : decode cX3_nextInterval 14 = .ok (.idiv, 1) := by decide +kernel
theorem dX3_nextInterval_15 : decode cX3_nextInterval 15 = .ok (.invokestatic 165, 3) := by decide +kernel
theorem dX3_nextInterval_18 : decode cX3_nextInterval 18 = .ok (.ireturn, 1) := by decide +kernel
theorem dX3_nextInterval_19 : decode cX3_nextInterval 19 = .ok (.iconst 2, 1) := by decide +kernel
theorem dX3_nextInterval_20 : decode cX3_nextInterval 20 = .ok (.iload_n 1, 1) := by decide +kernel
theorem dX3_nextInterval_21 : decode cX3_nextInterval 21 = .ok (.imul, 1) := by decide +kernel
theorem dX3_nextInterval_22 : decode cX3_nextInterval 22 = .ok (.aload_n 0, 1) := by decide +kernel
theorem dX3_nextInterval_23 : decode cX3_nextInterval 23 = .ok (.getfield 129, 3) := by decide +kernel
theorem dX3_nextInterval_26 : decode cX3_nextInterval 26 = .ok (.if_icmp .gt 21, 3) := by decide +kernel
theorem dX3_nextInterval_29 : decode cX3_nextInterval 29 = .ok (.sipush 999, 3) := by decide +kernel
theorem dX3_nextInterval_32 : decode cX3_nextInterval 32 = .ok (.aload_n 0, 1) := by decide +kernel
theorem dX3_nextInterval_33 : decode cX3_nextInterval 33 = .ok (.getfield 146, 3) := by decide +kernel
theorem dX3_nextInterval_36 : decode cX3_nextInterval 36 = .ok (.aload_n 0, 1) := by decide +kernel
theorem dX3_nextInterval_37 : decode cX3_nextInterval 37 = .ok (.getfield 146, 3) := by decide +kernel
theorem dX3_nextInterval_40 : decode cX3_nextInterval 40 = .ok (.iconst 4, 1) := by decide +kernel
theorem dX3_nextInterval_41 : decode cX3_nextInterval 41 = .ok (.idiv, 1) := by decide +kernel
theorem dX3_nextInterval_42 : decode cX3_nextInterval 42 = .ok (.iadd, 1) := by decide +kernel
theorem dX3_nextInterval_43 : decode cX3_nextInterval 43 = .ok (.invokestatic 169, 3) := by decide +kernel
theorem dX3_nextInterval_46 : decode cX3_nextInterval 46 = .ok (.ireturn, 1) := by decide +kernel
theorem dX3_nextInterval_47 : decode cX3_nextInterval 47 = .ok (.aload_n 0, 1) := by decide +kernel
theorem dX3_nextInterval_48 : decode cX3_nextInterval 48 = .ok (.getfield 146, 3) := by decide +kernel
theorem dX3_nextInterval_51 : decode cX3_nextInterval 51 = .ok (.ireturn, 1) := by decide +kernel
theorem dX3_sumPoints_0 : decode cX3_sumPoints 0 = .ok (.aload_n 0, 1) := by decide +kernel
theorem dX3_sumPoints_1 : decode cX3_sumPoints 1 = .ok (.lconst 0, 1) := by decide +kernel
theorem dX3_sumPoints_2 : decode cX3_sumPoints 2 = .ok (.putfield 172, 3) := by decide +kernel
theorem dX3_sumPoints_5 : decode cX3_sumPoints 5 = .ok (.aload_n 0, 1) := by decide +kernel
theorem dX3_sumPoints_6 : decode cX3_sumPoints 6 = .ok (.lconst 0, 1) := by decide +kernel
theorem dX3_sumPoints_7 : decode cX3_sumPoints 7 = .ok (.putfield 176, 3) := by decide +kernel
theorem dX3_sumPoints_10 : decode cX3_sumPoints 10 = .ok (.iconst 0, 1) := by decide +kernel
theorem dX3_sumPoints_11 : decode cX3_sumPoints 11 = .ok (.istore_n 1, 1) := by decide +kernel
theorem dX3_sumPoints_12 : decode cX3_sumPoints 12 = .ok (.aload_n 0, 1) := by decide +kernel
theorem dX3_sumPoints_13 : decode cX3_sumPoints 13 = .ok (.getfield 95, 3) := by decide +kernel
theorem dX3_sumPoints_16 : decode cX3_sumPoints 16 = .ok (.astore_n 2, 1) := by decide +kernel
theorem dX3_sumPoints_17 : decode cX3_sumPoints 17 = .ok (.aload_n 2, 1) := by decide +kernel
theorem dX3_sumPoints_18 : decode cX3_sumPoints 18 = .ok (.ifnull 67, 3) := by decide +kernel
theorem dX3_sumPoints_21 : decode cX3_sumPoints 21 = .ok (.iload_n 1, 1) := by decide +kernel
theorem dX3_sumPoints_22 : decode cX3_sumPoints 22 = .ok (.bipush 8, 2) := by decide +kernel
theorem dX3_sumPoints_24 : decode cX3_sumPoints 24 = .ok (.if_icmp .ge 61, 3) := by decide +kernel
theorem dX3_sumPoints_27 : decode cX3_sumPoints 27 = .ok (.aload_n 2, 1) := by decide +kernel
theorem dX3_sumPoints_28 : decode cX3_sumPoints 28 = .ok (.getfield 152, 3) := by decide +kernel
theorem dX3_sumPoints_31 : decode cX3_sumPoints 31 = .ok (.ifCond .le 46, 3) := by decide +kernel
theorem dX3_sumPoints_34 : decode cX3_sumPoints 34 = .ok (.iinc 1 1, 3) := by decide +kernel
theorem dX3_sumPoints_37 : decode cX3_sumPoints 37 = .ok (.aload_n 0, 1) := by decide +kernel
theorem dX3_sumPoints_38 : decode cX3_sumPoints 38 = .ok (.dup, 1) := by decide +kernel
theorem dX3_sumPoints_39 : decode cX3_sumPoints 39 = .ok (.getfield 172, 3) := by decide +kernel
theorem dX3_sumPoints_42 : decode cX3_sumPoints 42 = .ok (.aload_n 2, 1) := by decide +kernel
theorem dX3_sumPoints_43 : decode cX3_sumPoints 43 = .ok (.getfield 152, 3) := by decide +kernel
theorem dX3_sumPoints_46 : decode cX3_sumPoints 46 = .ok (.i2l, 1) := by decide +kernel
theorem dX3_sumPoints_47 : decode cX3_sumPoints 47 = .ok (.aload_n 2, 1) := by decide +kernel
theorem dX3_sumPoints_48 : decode cX3_sumPoints 48 = .ok (.getfield 158, 3) := by decide +kernel
theorem dX3_sumPoints_51 : decode cX3_sumPoints 51 = .ok (.i2l, 1) := by decide +kernel
theorem dX3_sumPoints_52 : decode cX3_sumPoints 52 = .ok (.lmul, 1) := by decide +kernel
theorem dX3_sumPoints_53 : decode cX3_sumPoints 53 = .ok (.ladd, 1) := by decide +kernel
theorem dX3_sumPoints_54 : decode cX3_sumPoints 54 = .ok (.putfield 172, 3) := by decide +kernel
theorem dX3_sumPoints_57 : decode cX3_sumPoints 57 = .ok (.aload_n 0, 1) := by decide +kernel
theorem dX3_sumPoints_58 : decode cX3_sumPoints 58 = .ok (.dup, 1) := by decide +kernel
theorem dX3_sumPoints_59 : decode cX3_sumPoints 59 = .ok (.getfield 176, 3) := by decide +kernel
theorem dX3_sumPoints_62 : decode cX3_sumPoints 62 = .ok (.aload_n 2, 1) := by decide +kernel
theorem dX3_sumPoints_63 : decode cX3_sumPoints 63 = .ok (.getfield 152, 3) := by decide +kernel
theorem dX3_sumPoints_66 : decode cX3_sumPoints 66 = .ok (.i2l, 1) := by decide +kernel
theorem dX3_sumPoints_67 : decode cX3_sumPoints 67 = .ok (.aload_n 2, 1) := by decide +kernel
theorem dX3_sumPoints_68 : decode cX3_sumPoints 68 = .ok (.getfield 152, 3) := by decide +kernel
theorem dX3_sumPoints_71 : decode cX3_sumPoints 71 = .ok (.i2l, 1) := by decide +kernel
theorem dX3_sumPoints_72 : decode cX3_sumPoints 72 = .ok (.lmul, 1) := by decide +kernel
theorem dX3_sumPoints_73 : decode cX3_sumPoints 73 = .ok (.ladd, 1) := by decide +kernel
theorem dX3_sumPoints_74 : decode cX3_sumPoints 74 = .ok (.putfield 176, 3) := by decide +kernel
theorem dX3_sumPoints_77 : decode cX3_sumPoints 77 = .ok (.aload_n 2, 1) := by decide +kernel
theorem dX3_sumPoints_78 : decode cX3_sumPoints 78 = .ok (.getfield 179, 3) := by decide +kernel
theorem dX3_sumPoints_81 : decode cX3_sumPoints 81 = .ok (.astore_n 2, 1) := by decide +kernel
theorem dX3_sumPoints_82 : decode cX3_sumPoints 82 = .ok (.goto (-65), 3) := by decide +kernel
theorem dX3_sumPoints_85 : decode cX3_sumPoints 85 = .ok (.return_, 1) := by decide +kernel
theorem dX3_intervalOf_0 : decode cX3_intervalOf 0 = .ok (.aload_n 0, 1) := by decide +kernel
theorem dX3_intervalOf_1 : decode cX3_intervalOf 1 = .ok (.iload_n 1, 1) := by decide +kernel
theorem dX3_intervalOf_2 : decode cX3_intervalOf 2 = .ok (.invokevirtual 54, 3) := by decide +kernel
theorem dX3_intervalOf_5 : decode cX3_intervalOf 5 = .ok (.getfield 146, 3) := by decide +kernel
theorem dX3_intervalOf_8 : decode cX3_intervalOf 8 = .ok (.ireturn, 1) := by decide +kernel
theorem dX3_dueOf_0 : decode cX3_dueOf 0 = .ok (.aload_n 0, 1) := by decide +kernel
theorem dX3_dueOf_1 : decode cX3_dueOf 1 = .ok (.iload_n 1, 1) := by decide +kernel
theorem dX3_dueOf_2 : decode cX3_dueOf 2 = .ok (.invokevirtual 54, 3) := by decide +kernel
theorem dX3_dueOf_5 : decode cX3_dueOf 5 = .ok (.astore_n 2, 1) := by decide +kernel
theorem dX3_dueOf_6 : decode cX3_dueOf 6 = .ok (.aload_n 2, 1) := by decide +kernel
theorem dX3_dueOf_7 : decode cX3_dueOf 7 = .ok (.getfield 95, 3) := by decide +kernel
theorem dX3_dueOf_10 : decode cX3_dueOf 10 = .ok (.ifnonnull 7, 3) := by decide +kernel
theorem dX3_dueOf_13 : decode cX3_dueOf 13 = .ok (.iconst (-1), 1) := by decide +kernel
theorem dX3_dueOf_14 : decode cX3_dueOf 14 = .ok (.goto 11, 3) := by decide +kernel
theorem dX3_dueOf_17 : decode cX3_dueOf 17 = .ok (.aload_n 2, 1) := by decide +kernel
theorem dX3_dueOf_18 : decode cX3_dueOf 18 = .ok (.aload_n 2, 1) := by decide +kernel
theorem dX3_dueOf_19 : decode cX3_dueOf 19 = .ok (.getfield 95, 3) := by decide +kernel
theorem dX3_dueOf_22 : decode cX3_dueOf 22 = .ok (.invokestatic 182, 3) := by decide +kernel
theorem dX3_dueOf_25 : decode cX3_dueOf 25 = .ok (.ireturn, 1) := by decide +kernel
theorem dX3_isSuspect_0 : decode cX3_isSuspect 0 = .ok (.aload_n 0, 1) := by decide +kernel
theorem dX3_isSuspect_1 : decode cX3_isSuspect 1 = .ok (.iload_n 1, 1) := by decide +kernel
theorem dX3_isSuspect_2 : decode cX3_isSuspect 2 = .ok (.invokevirtual 54, 3) := by decide +kernel
theorem dX3_isSuspect_5 : decode cX3_isSuspect 5 = .ok (.astore_n 2, 1) := by decide +kernel
theorem dX3_isSuspect_6 : decode cX3_isSuspect 6 = .ok (.aload_n 2, 1) := by decide +kernel
theorem dX3_isSuspect_7 : decode cX3_isSuspect 7 = .ok (.getfield 95, 3) := by decide +kernel
theorem dX3_isSuspect_10 : decode cX3_isSuspect 10 = .ok (.ifnull 17, 3) := by decide +kernel
theorem dX3_isSuspect_13 : decode cX3_isSuspect 13 = .ok (.aload_n 2, 1) := by decide +kernel
theorem dX3_isSuspect_14 : decode cX3_isSuspect 14 = .ok (.getfield 95, 3) := by decide +kernel
theorem dX3_isSuspect_17 : decode cX3_isSuspect 17 = .ok (.getfield 186, 3) := by decide +kernel
theorem dX3_isSuspect_20 : decode cX3_isSuspect 20 = .ok (.ifCond .eq 7, 3) := by decide +kernel
theorem dX3_isSuspect_23 : decode cX3_isSuspect 23 = .ok (.iconst 1, 1) := by decide +kernel
theorem dX3_isSuspect_24 : decode cX3_isSuspect 24 = .ok (.goto 4, 3) := by decide +kernel
theorem dX3_isSuspect_27 : decode cX3_isSuspect 27 = .ok (.iconst 0, 1) := by decide +kernel
theorem dX3_isSuspect_28 : decode cX3_isSuspect 28 = .ok (.ireturn, 1) := by decide +kernel
theorem dX3_distrusted_0 : decode cX3_distrusted 0 = .ok (.aload_n 0, 1) := by decide +kernel
theorem dX3_distrusted_1 : decode cX3_distrusted 1 = .ok (.aload_n 0, 1) := by decide +kernel
theorem dX3_distrusted_2 : decode cX3_distrusted 2 = .ok (.iload_n 1, 1) := by decide +kernel
theorem dX3_distrusted_3 : decode cX3_distrusted 3 = .ok (.invokevirtual 54, 3) := by decide +kernel
theorem dX3_distrusted_6 : decode cX3_distrusted 6 = .ok (.invokevirtual 86, 3) := by decide +kernel
theorem dX3_distrusted_9 : decode cX3_distrusted 9 = .ok (.invokestatic 63, 3) := by decide +kernel
theorem dX3_distrusted_12 : decode cX3_distrusted 12 = .ok (.ireturn, 1) := by decide +kernel
theorem dX3_chain_0 : decode cX3_chain 0 = .ok (.iconst 0, 1) := by decide +kernel
theorem dX3_chain_1 : decode cX3_chain 1 = .ok (.istore_n 2, 1) := by decide +kernel
theorem dX3_chain_2 : decode cX3_chain 2 = .ok (.aload_n 0, 1) := by decide +kernel
theorem dX3_chain_3 : decode cX3_chain 3 = .ok (.iload_n 1, 1) := by decide +kernel
theorem dX3_chain_4 : decode cX3_chain 4 = .ok (.invokevirtual 54, 3) := by decide +kernel
theorem dX3_chain_7 : decode cX3_chain 7 = .ok (.astore_n 3, 1) := by decide +kernel
theorem dX3_chain_8 : decode cX3_chain 8 = .ok (.aload_n 3, 1) := by decide +kernel
theorem dX3_chain_9 : decode cX3_chain 9 = .ok (.ifnull 14, 3) := by decide +kernel
theorem dX3_chain_12 : decode cX3_chain 12 = .ok (.iinc 2 1, 3) := by decide +kernel
theorem dX3_chain_15 : decode cX3_chain 15 = .ok (.aload_n 3, 1) := by decide +kernel
theorem dX3_chain_16 : decode cX3_chain 16 = .ok (.getfield 50, 3) := by decide +kernel
theorem dX3_chain_19 : decode cX3_chain 19 = .ok (.astore_n 3, 1) := by decide +kernel
theorem dX3_chain_20 : decode cX3_chain 20 = .ok (.goto (-12), 3) := by decide +kernel
theorem dX3_chain_23 : decode cX3_chain 23 = .ok (.iload_n 2, 1) := by decide +kernel
theorem dX3_chain_24 : decode cX3_chain 24 = .ok (.ireturn, 1) := by decide +kernel
theorem dX3_failures_0 : decode cX3_failures 0 = .ok (.aload_n 0, 1) := by decide +kernel
theorem dX3_failures_1 : decode cX3_failures 1 = .ok (.iload_n 1, 1) := by decide +kernel
theorem dX3_failures_2 : decode cX3_failures 2 = .ok (.invokevirtual 54, 3) := by decide +kernel
theorem dX3_failures_5 : decode cX3_failures 5 = .ok (.getfield 136, 3) := by decide +kernel
theorem dX3_failures_8 : decode cX3_failures 8 = .ok (.ireturn, 1) := by decide +kernel
theorem dX3_dueDay_0 : decode cX3_dueDay 0 = .ok (.aload_n 1, 1) := by decide +kernel
theorem dX3_dueDay_1 : decode cX3_dueDay 1 = .ok (.getfield 149, 3) := by decide +kernel
theorem dX3_dueDay_4 : decode cX3_dueDay 4 = .ok (.aload_n 0, 1) := by decide +kernel
theorem dX3_dueDay_5 : decode cX3_dueDay 5 = .ok (.getfield 146, 3) := by decide +kernel
theorem dX3_dueDay_8 : decode cX3_dueDay 8 = .ok (.iadd, 1) := by decide +kernel
theorem dX3_dueDay_9 : decode cX3_dueDay 9 = .ok (.ireturn, 1) := by decide +kernel
theorem dX3_isInForce_0 : decode cX3_isInForce 0 = .ok (.aload_n 1, 1) := by decide +kernel
theorem dX3_isInForce_1 : decode cX3_isInForce 1 = .ok (.getfield 95, 3) := by decide +kernel
theorem dX3_isInForce_4 : decode cX3_isInForce 4 = .ok (.ifnull 32, 3) := by decide +kernel
theorem dX3_isInForce_7 : decode cX3_isInForce 7 = .ok (.aload_n 0, 1) := by decide +kernel
theorem dX3_isInForce_8 : decode cX3_isInForce 8 = .ok (.getfield 69, 3) := by decide +kernel
theorem dX3_isInForce_11 : decode cX3_isInForce 11 = .ok (.aload_n 1, 1) := by decide +kernel
theorem dX3_isInForce_12 : decode cX3_isInForce 12 = .ok (.aload_n 1, 1) := by decide +kernel
theorem dX3_isInForce_13 : decode cX3_isInForce 13 = .ok (.getfield 95, 3) := by decide +kernel
theorem dX3_isInForce_16 : decode cX3_isInForce 16 = .ok (.invokestatic 182, 3) := by decide +kernel
theorem dX3_isInForce_19 : decode cX3_isInForce 19 = .ok (.if_icmp .gt 17, 3) := by decide +kernel
theorem dX3_isInForce_22 : decode cX3_isInForce 22 = .ok (.aload_n 1, 1) := by decide +kernel
theorem dX3_isInForce_23 : decode cX3_isInForce 23 = .ok (.getfield 95, 3) := by decide +kernel
theorem dX3_isInForce_26 : decode cX3_isInForce 26 = .ok (.getfield 186, 3) := by decide +kernel
theorem dX3_isInForce_29 : decode cX3_isInForce 29 = .ok (.ifCond .ne 7, 3) := by decide +kernel
theorem dX3_isInForce_32 : decode cX3_isInForce 32 = .ok (.iconst 1, 1) := by decide +kernel
theorem dX3_isInForce_33 : decode cX3_isInForce 33 = .ok (.goto 4, 3) := by decide +kernel
theorem dX3_isInForce_36 : decode cX3_isInForce 36 = .ok (.iconst 0, 1) := by decide +kernel
theorem dX3_isInForce_37 : decode cX3_isInForce 37 = .ok (.ireturn, 1) := by decide +kernel
theorem dX3_firstOutOfForce_0 : decode cX3_firstOutOfForce 0 = .ok (.aload_n 1, 1) := by decide +kernel
theorem dX3_firstOutOfForce_1 : decode cX3_firstOutOfForce 1 = .ok (.astore_n 2, 1) := by decide +kernel
theorem dX3_firstOutOfForce_2 : decode cX3_firstOutOfForce 2 = .ok (.aload_n 2, 1) := by decide +kernel
theorem dX3_firstOutOfForce_3 : decode cX3_firstOutOfForce 3 = .ok (.ifnull 21, 3) := by decide +kernel
theorem dX3_firstOutOfForce_6 : decode cX3_firstOutOfForce 6 = .ok (.aload_n 0, 1) := by decide +kernel
theorem dX3_firstOutOfForce_7 : decode cX3_firstOutOfForce 7 = .ok (.aload_n 2, 1) := by decide +kernel
theorem dX3_firstOutOfForce_8 : decode cX3_firstOutOfForce 8 = .ok (.invokevirtual 189, 3) := by decide +kernel
theorem dX3_firstOutOfForce_11 : decode cX3_firstOutOfForce 11 = .ok (.ifCond .ne 5, 3) := by decide +kernel
theorem dX3_firstOutOfForce_14 : decode cX3_firstOutOfForce 14 = .ok (.aload_n 2, 1) := by decide +kernel
theorem dX3_firstOutOfForce_15 : decode cX3_firstOutOfForce 15 = .ok (.areturn, 1) := by decide +kernel
theorem dX3_firstOutOfForce_16 : decode cX3_firstOutOfForce 16 = .ok (.aload_n 2, 1) := by decide +kernel
theorem dX3_firstOutOfForce_17 : decode cX3_firstOutOfForce 17 = .ok (.getfield 50, 3) := by decide +kernel
theorem dX3_firstOutOfForce_20 : decode cX3_firstOutOfForce 20 = .ok (.astore_n 2, 1) := by decide +kernel
theorem dX3_firstOutOfForce_21 : decode cX3_firstOutOfForce 21 = .ok (.goto (-19), 3) := by decide +kernel
theorem dX3_firstOutOfForce_24 : decode cX3_firstOutOfForce 24 = .ok (.aconst_null, 1) := by decide +kernel
theorem dX3_firstOutOfForce_25 : decode cX3_firstOutOfForce 25 = .ok (.areturn, 1) := by decide +kernel
theorem dX3_slope_0 : decode cX3_slope 0 = .ok (.aload_n 0, 1) := by decide +kernel
theorem dX3_slope_1 : decode cX3_slope 1 = .ok (.iload_n 1, 1) := by decide +kernel
theorem dX3_slope_2 : decode cX3_slope 2 = .ok (.invokevirtual 54, 3) := by decide +kernel
theorem dX3_slope_5 : decode cX3_slope 5 = .ok (.astore_n 2, 1) := by decide +kernel
theorem dX3_slope_6 : decode cX3_slope 6 = .ok (.aload_n 2, 1) := by decide +kernel
theorem dX3_slope_7 : decode cX3_slope 7 = .ok (.getfield 176, 3) := by decide +kernel
theorem dX3_slope_10 : decode cX3_slope 10 = .ok (.lconst 0, 1) := by decide +kernel
theorem dX3_slope_11 : decode cX3_slope 11 = .ok (.lcmp, 1) := by decide +kernel
theorem dX3_slope_12 : decode cX3_slope 12 = .ok (.ifCond .gt 5, 3) := by decide +kernel
theorem dX3_slope_15 : decode cX3_slope 15 = .ok (.dconst 0, 1) := by decide +kernel
theorem dX3_slope_16 : decode cX3_slope 16 = .ok (.dreturn, 1) := by decide +kernel
theorem dX3_slope_17 : decode cX3_slope 17 = .ok (.aload_n 2, 1) := by decide +kernel
theorem dX3_slope_18 : decode cX3_slope 18 = .ok (.getfield 172, 3) := by decide +kernel
theorem dX3_slope_21 : decode cX3_slope 21 = .ok (.l2d, 1) := by decide +kernel
theorem dX3_slope_22 : decode cX3_slope 22 = .ok (.aload_n 2, 1) := by decide +kernel
theorem dX3_slope_23 : decode cX3_slope 23 = .ok (.getfield 176, 3) := by decide +kernel
theorem dX3_slope_26 : decode cX3_slope 26 = .ok (.l2d, 1) := by decide +kernel
theorem dX3_slope_27 : decode cX3_slope 27 = .ok (.ddiv, 1) := by decide +kernel
theorem dX3_slope_28 : decode cX3_slope 28 = .ok (.dreturn, 1) := by decide +kernel
theorem dX3_expected_0 : decode cX3_expected 0 = .ok (.aload_n 0, 1) := by decide +kernel
theorem dX3_expected_1 : decode cX3_expected 1 = .ok (.iload_n 1, 1) := by decide +kernel
theorem dX3_expected_2 : decode cX3_expected 2 = .ok (.invokevirtual 54, 3) := by decide +kernel
theorem dX3_expected_5 : decode cX3_expected 5 = .ok (.astore_n 3, 1) := by decide +kernel
theorem dX3_expected_6 : decode cX3_expected 6 = .ok (.iload_n 2, 1) := by decide +kernel
theorem dX3_expected_7 : decode cX3_expected 7 = .ok (.ifCond .lt 10, 3) := by decide +kernel
theorem dX3_expected_10 : decode cX3_expected 10 = .ok (.iload_n 2, 1) := by decide +kernel
theorem dX3_expected_11 : decode cX3_expected 11 = .ok (.sipush 9999, 3) := by decide +kernel
theorem dX3_expected_14 : decode cX3_expected 14 = .ok (.if_icmp .le 13, 3) := by decide +kernel
theorem dX3_expected_17 : decode cX3_expected 17 = .ok (.new 31, 3) := by decide +kernel
theorem dX3_expected_20 : decode cX3_expected 20 = .ok (.dup, 1) := by decide +kernel
theorem dX3_expected_21 : decode cX3_expected 21 = .ok (.ldc 67, 2) := by decide +kernel
theorem dX3_expected_23 : decode cX3_expected 23 = .ok (.invokespecial 35, 3) := by decide +kernel
theorem dX3_expected_26 : decode cX3_expected 26 = .ok (.athrow, 1) := by decide +kernel
theorem dX3_expected_27 : decode cX3_expected 27 = .ok (.aload_n 3, 1) := by decide +kernel
theorem dX3_expected_28 : decode cX3_expected 28 = .ok (.getfield 95, 3) := by decide +kernel
theorem dX3_expected_31 : decode cX3_expected 31 = .ok (.ifnonnull 13, 3) := by decide +kernel
theorem dX3_expected_34 : decode cX3_expected 34 = .ok (.new 42, 3) := by decide +kernel
theorem dX3_expected_37 : decode cX3_expected 37 = .ok (.dup, 1) := by decide +kernel
theorem dX3_expected_38 : decode cX3_expected 38 = .ok (.ldc 193, 2) := by decide +kernel
theorem dX3_expected_40 : decode cX3_expected 40 = .ok (.invokespecial 46, 3) := by decide +kernel
theorem dX3_expected_43 : decode cX3_expected 43 = .ok (.athrow, 1) := by decide +kernel
theorem dX3_expected_44 : decode cX3_expected 44 = .ok (.aload_n 3, 1) := by decide +kernel
theorem dX3_expected_45 : decode cX3_expected 45 = .ok (.aload_n 3, 1) := by decide +kernel
theorem dX3_expected_46 : decode cX3_expected 46 = .ok (.getfield 95, 3) := by decide +kernel
theorem dX3_expected_49 : decode cX3_expected 49 = .ok (.iload_n 2, 1) := by decide +kernel
theorem dX3_expected_50 : decode cX3_expected 50 = .ok (.invokestatic 195, 3) := by decide +kernel
theorem dX3_expected_53 : decode cX3_expected 53 = .ok (.lreturn, 1) := by decide +kernel
theorem dX3_driftsOut_0 : decode cX3_driftsOut 0 = .ok (.aload_n 0, 1) := by decide +kernel
theorem dX3_driftsOut_1 : decode cX3_driftsOut 1 = .ok (.iload_n 1, 1) := by decide +kernel
theorem dX3_driftsOut_2 : decode cX3_driftsOut 2 = .ok (.invokevirtual 54, 3) := by decide +kernel
theorem dX3_driftsOut_5 : decode cX3_driftsOut 5 = .ok (.astore_n 2, 1) := by decide +kernel
theorem dX3_driftsOut_6 : decode cX3_driftsOut 6 = .ok (.aload_n 2, 1) := by decide +kernel
theorem dX3_driftsOut_7 : decode cX3_driftsOut 7 = .ok (.getfield 95, 3) := by decide +kernel
theorem dX3_driftsOut_10 : decode cX3_driftsOut 10 = .ok (.astore_n 3, 1) := by decide +kernel
theorem dX3_driftsOut_11 : decode cX3_driftsOut 11 = .ok (.aload_n 3, 1) := by decide +kernel
theorem dX3_driftsOut_12 : decode cX3_driftsOut 12 = .ok (.ifnonnull 5, 3) := by decide +kernel
theorem dX3_driftsOut_15 : decode cX3_driftsOut 15 = .ok (.iconst (-1), 1) := by decide +kernel
theorem dX3_driftsOut_16 : decode cX3_driftsOut 16 = .ok (.ireturn, 1) := by decide +kernel
theorem dX3_driftsOut_17 : decode cX3_driftsOut 17 = .ok (.aload_n 2, 1) := by decide +kernel
theorem dX3_driftsOut_18 : decode cX3_driftsOut 18 = .ok (.aload_n 3, 1) := by decide +kernel
theorem dX3_driftsOut_19 : decode cX3_driftsOut 19 = .ok (.iconst 0, 1) := by decide +kernel
theorem dX3_driftsOut_20 : decode cX3_driftsOut 20 = .ok (.invokestatic 199, 3) := by decide +kernel
theorem dX3_driftsOut_23 : decode cX3_driftsOut 23 = .ok (.ifCond .eq 5, 3) := by decide +kernel
theorem dX3_driftsOut_26 : decode cX3_driftsOut 26 = .ok (.iconst 0, 1) := by decide +kernel
theorem dX3_driftsOut_27 : decode cX3_driftsOut 27 = .ok (.ireturn, 1) := by decide +kernel
theorem dX3_driftsOut_28 : decode cX3_driftsOut 28 = .ok (.iconst 0, 1) := by decide +kernel
theorem dX3_driftsOut_29 : decode cX3_driftsOut 29 = .ok (.istore 4, 2) := by decide +kernel
theorem dX3_driftsOut_31 : decode cX3_driftsOut 31 = .ok (.sipush 8192, 3) := by decide +kernel
theorem dX3_driftsOut_34 : decode cX3_driftsOut 34 = .ok (.istore 5, 2) := by decide +kernel
theorem dX3_driftsOut_36 : decode cX3_driftsOut 36 = .ok (.iload 5, 2) := by decide +kernel
theorem dX3_driftsOut_38 : decode cX3_driftsOut 38 = .ok (.ifCond .le 43, 3) := by decide +kernel
theorem dX3_driftsOut_41 : decode cX3_driftsOut 41 = .ok (.iload 4, 2) := by decide +kernel
theorem dX3_driftsOut_43 : decode cX3_driftsOut 43 = .ok (.iload 5, 2) := by decide +kernel
theorem dX3_driftsOut_45 : decode cX3_driftsOut 45 = .ok (.iadd, 1) := by decide +kernel
theorem dX3_driftsOut_46 : decode cX3_driftsOut 46 = .ok (.sipush 9999, 3) := by decide +kernel
theorem dX3_driftsOut_49 : decode cX3_driftsOut 49 = .ok (.if_icmp .gt 23, 3) := by decide +kernel
theorem dX3_driftsOut_52 : decode cX3_driftsOut 52 = .ok (.aload_n 2, 1) := by decide +kernel
theorem dX3_driftsOut_53 : decode cX3_driftsOut 53 = .ok (.aload_n 3, 1) := by decide +kernel
theorem dX3_driftsOut_54 : decode cX3_driftsOut 54 = .ok (.iload 4, 2) := by decide +kernel
theorem dX3_driftsOut_56 : decode cX3_driftsOut 56 = .ok (.iload 5, 2) := by decide +kernel
theorem dX3_driftsOut_58 : decode cX3_driftsOut 58 = .ok (.iadd, 1) := by decide +kernel
theorem dX3_driftsOut_59 : decode cX3_driftsOut 59 = .ok (.invokestatic 199, 3) := by decide +kernel
theorem dX3_driftsOut_62 : decode cX3_driftsOut 62 = .ok (.ifCond .ne 10, 3) := by decide +kernel
theorem dX3_driftsOut_65 : decode cX3_driftsOut 65 = .ok (.iload 4, 2) := by decide +kernel
theorem dX3_driftsOut_67 : decode cX3_driftsOut 67 = .ok (.iload 5, 2) := by decide +kernel
theorem dX3_driftsOut_69 : decode cX3_driftsOut 69 = .ok (.iadd, 1) := by decide +kernel
theorem dX3_driftsOut_70 : decode cX3_driftsOut 70 = .ok (.istore 4, 2) := by decide +kernel
theorem dX3_driftsOut_72 : decode cX3_driftsOut 72 = .ok (.iload 5, 2) := by decide +kernel
theorem dX3_driftsOut_74 : decode cX3_driftsOut 74 = .ok (.iconst 2, 1) := by decide +kernel
theorem dX3_driftsOut_75 : decode cX3_driftsOut 75 = .ok (.idiv, 1) := by decide +kernel
theorem dX3_driftsOut_76 : decode cX3_driftsOut 76 = .ok (.istore 5, 2) := by decide +kernel
theorem dX3_driftsOut_78 : decode cX3_driftsOut 78 = .ok (.goto (-42), 3) := by decide +kernel
theorem dX3_driftsOut_81 : decode cX3_driftsOut 81 = .ok (.iload 4, 2) := by decide +kernel
theorem dX3_driftsOut_83 : decode cX3_driftsOut 83 = .ok (.sipush 9999, 3) := by decide +kernel
theorem dX3_driftsOut_86 : decode cX3_driftsOut 86 = .ok (.if_icmp .ne 7, 3) := by decide +kernel
theorem dX3_driftsOut_89 : decode cX3_driftsOut 89 = .ok (.iconst (-1), 1) := by decide +kernel
theorem dX3_driftsOut_90 : decode cX3_driftsOut 90 = .ok (.goto 7, 3) := by decide +kernel
theorem dX3_driftsOut_93 : decode cX3_driftsOut 93 = .ok (.iload 4, 2) := by decide +kernel
theorem dX3_driftsOut_95 : decode cX3_driftsOut 95 = .ok (.iconst 1, 1) := by decide +kernel
theorem dX3_driftsOut_96 : decode cX3_driftsOut 96 = .ok (.iadd, 1) := by decide +kernel
theorem dX3_driftsOut_97 : decode cX3_driftsOut 97 = .ok (.ireturn, 1) := by decide +kernel
theorem dX3_uncertainty_0 : decode cX3_uncertainty 0 = .ok (.aload_n 0, 1) := by decide +kernel
theorem dX3_uncertainty_1 : decode cX3_uncertainty 1 = .ok (.iload_n 1, 1) := by decide +kernel
theorem dX3_uncertainty_2 : decode cX3_uncertainty 2 = .ok (.invokevirtual 54, 3) := by decide +kernel
theorem dX3_uncertainty_5 : decode cX3_uncertainty 5 = .ok (.iconst 0, 1) := by decide +kernel
theorem dX3_uncertainty_6 : decode cX3_uncertainty 6 = .ok (.invokestatic 203, 3) := by decide +kernel
theorem dX3_uncertainty_9 : decode cX3_uncertainty 9 = .ok (.ireturn, 1) := by decide +kernel
theorem dX3_limit_0 : decode cX3_limit 0 = .ok (.aload_n 0, 1) := by decide +kernel
theorem dX3_limit_1 : decode cX3_limit 1 = .ok (.iload_n 1, 1) := by decide +kernel
theorem dX3_limit_2 : decode cX3_limit 2 = .ok (.invokevirtual 54, 3) := by decide +kernel
theorem dX3_limit_5 : decode cX3_limit 5 = .ok (.astore_n 2, 1) := by decide +kernel
theorem dX3_limit_6 : decode cX3_limit 6 = .ok (.iconst 0, 1) := by decide +kernel
theorem dX3_limit_7 : decode cX3_limit 7 = .ok (.aload_n 2, 1) := by decide +kernel
theorem dX3_limit_8 : decode cX3_limit 8 = .ok (.getfield 129, 3) := by decide +kernel
theorem dX3_limit_11 : decode cX3_limit 11 = .ok (.aload_n 2, 1) := by decide +kernel
theorem dX3_limit_12 : decode cX3_limit 12 = .ok (.iconst 0, 1) := by decide +kernel
theorem dX3_limit_13 : decode cX3_limit 13 = .ok (.invokestatic 203, 3) := by decide +kernel
theorem dX3_limit_16 : decode cX3_limit 16 = .ok (.isub, 1) := by decide +kernel
theorem dX3_limit_17 : decode cX3_limit 17 = .ok (.invokestatic 165, 3) := by decide +kernel
theorem dX3_limit_20 : decode cX3_limit 20 = .ok (.ireturn, 1) := by decide +kernel
theorem dX3_errorAfter_0 : decode cX3_errorAfter 0 = .ok (.aload_n 0, 1) := by decide +kernel
theorem dX3_errorAfter_1 : decode cX3_errorAfter 1 = .ok (.getfield 176, 3) := by decide +kernel
theorem dX3_errorAfter_4 : decode cX3_errorAfter 4 = .ok (.lconst 0, 1) := by decide +kernel
theorem dX3_errorAfter_5 : decode cX3_errorAfter 5 = .ok (.lcmp, 1) := by decide +kernel
theorem dX3_errorAfter_6 : decode cX3_errorAfter 6 = .ok (.ifCond .gt 9, 3) := by decide +kernel
theorem dX3_errorAfter_9 : decode cX3_errorAfter 9 = .ok (.aload_n 1, 1) := by decide +kernel
theorem dX3_errorAfter_10 : decode cX3_errorAfter 10 = .ok (.getfield 155, 3) := by decide +kernel
theorem dX3_errorAfter_13 : decode cX3_errorAfter 13 = .ok (.i2l, 1) := by decide +kernel
theorem dX3_errorAfter_14 : decode cX3_errorAfter 14 = .ok (.lreturn, 1) := by decide +kernel
theorem dX3_errorAfter_15 : decode cX3_errorAfter 15 = .ok (.aload_n 1, 1) := by decide +kernel
theorem dX3_errorAfter_16 : decode cX3_errorAfter 16 = .ok (.getfield 155, 3) := by decide +kernel
theorem dX3_errorAfter_19 : decode cX3_errorAfter 19 = .ok (.i2l, 1) := by decide +kernel
theorem dX3_errorAfter_20 : decode cX3_errorAfter 20 = .ok (.aload_n 0, 1) := by decide +kernel
theorem dX3_errorAfter_21 : decode cX3_errorAfter 21 = .ok (.getfield 172, 3) := by decide +kernel
theorem dX3_errorAfter_24 : decode cX3_errorAfter 24 = .ok (.iload_n 2, 1) := by decide +kernel
theorem dX3_errorAfter_25 : decode cX3_errorAfter 25 = .ok (.i2l, 1) := by decide +kernel
theorem dX3_errorAfter_26 : decode cX3_errorAfter 26 = .ok (.lmul, 1) := by decide +kernel
theorem dX3_errorAfter_27 : decode cX3_errorAfter 27 = .ok (.aload_n 0, 1) := by decide +kernel
theorem dX3_errorAfter_28 : decode cX3_errorAfter 28 = .ok (.getfield 176, 3) := by decide +kernel
theorem dX3_errorAfter_31 : decode cX3_errorAfter 31 = .ok (.invokestatic 206, 3) := by decide +kernel
theorem dX3_errorAfter_34 : decode cX3_errorAfter 34 = .ok (.ladd, 1) := by decide +kernel
theorem dX3_errorAfter_35 : decode cX3_errorAfter 35 = .ok (.lreturn, 1) := by decide +kernel
theorem dX3_isOutAfter_0 : decode cX3_isOutAfter 0 = .ok (.aload_n 0, 1) := by decide +kernel
theorem dX3_isOutAfter_1 : decode cX3_isOutAfter 1 = .ok (.aload_n 1, 1) := by decide +kernel
theorem dX3_isOutAfter_2 : decode cX3_isOutAfter 2 = .ok (.iload_n 2, 1) := by decide +kernel
theorem dX3_isOutAfter_3 : decode cX3_isOutAfter 3 = .ok (.invokestatic 195, 3) := by decide +kernel
theorem dX3_isOutAfter_6 : decode cX3_isOutAfter 6 = .ok (.invokestatic 210, 3) := by decide +kernel
theorem dX3_isOutAfter_9 : decode cX3_isOutAfter 9 = .ok (.aload_n 0, 1) := by decide +kernel
theorem dX3_isOutAfter_10 : decode cX3_isOutAfter 10 = .ok (.getfield 129, 3) := by decide +kernel
theorem dX3_isOutAfter_13 : decode cX3_isOutAfter 13 = .ok (.i2l, 1) := by decide +kernel
theorem dX3_isOutAfter_14 : decode cX3_isOutAfter 14 = .ok (.lcmp, 1) := by decide +kernel
theorem dX3_isOutAfter_15 : decode cX3_isOutAfter 15 = .ok (.ifCond .le 7, 3) := by decide +kernel
theorem dX3_isOutAfter_18 : decode cX3_isOutAfter 18 = .ok (.iconst 1, 1) := by decide +kernel
theorem dX3_isOutAfter_19 : decode cX3_isOutAfter 19 = .ok (.goto 4, 3) := by decide +kernel
theorem dX3_isOutAfter_22 : decode cX3_isOutAfter 22 = .ok (.iconst 0, 1) := by decide +kernel
theorem dX3_isOutAfter_23 : decode cX3_isOutAfter 23 = .ok (.ireturn, 1) := by decide +kernel
theorem dX3_uncertaintyWithChain_0 : decode cX3_uncertaintyWithChain 0 = .ok (.aload_n 0, 1) := by decide +kernel
theorem dX3_uncertaintyWithChain_1 : decode cX3_uncertaintyWithChain 1 = .ok (.ifnull 9, 3) := by decide +kernel
theorem dX3_uncertaintyWithChain_4 : decode cX3_uncertaintyWithChain 4 = .ok (.iload_n 1, 1) := by decide +kernel
theorem dX3_uncertaintyWithChain_5 : decode cX3_uncertaintyWithChain 5 = .ok (.bipush 12, 2) := by decide +kernel
theorem dX3_uncertaintyWithChain_7 : decode cX3_uncertaintyWithChain 7 = .ok (.if_icmp .lt 5, 3) := by decide +kernel
theorem dX3_uncertaintyWithChain_10 : decode cX3_uncertaintyWithChain 10 = .ok (.iconst 0, 1) := by decide +kernel
theorem dX3_uncertaintyWithChain_11 : decode cX3_uncertaintyWithChain 11 = .ok (.ireturn, 1) := by decide +kernel
theorem dX3_uncertaintyWithChain_12 : decode cX3_uncertaintyWithChain 12 = .ok (.aload_n 0, 1) := by decide +kernel
theorem dX3_uncertaintyWithChain_13 : decode cX3_uncertaintyWithChain 13 = .ok (.getfield 50, 3) := by decide +kernel
theorem dX3_uncertaintyWithChain_16 : decode cX3_uncertaintyWithChain 16 = .ok (.iload_n 1, 1) := by decide +kernel
theorem dX3_uncertaintyWithChain_17 : decode cX3_uncertaintyWithChain 17 = .ok (.iconst 1, 1) := by decide +kernel
theorem dX3_uncertaintyWithChain_18 : decode cX3_uncertaintyWithChain 18 = .ok (.iadd, 1) := by decide +kernel
theorem dX3_uncertaintyWithChain_19 : decode cX3_uncertaintyWithChain 19 = .ok (.invokestatic 203, 3) := by decide +kernel
theorem dX3_uncertaintyWithChain_22 : decode cX3_uncertaintyWithChain 22 = .ok (.istore_n 2, 1) := by decide +kernel
theorem dX3_uncertaintyWithChain_23 : decode cX3_uncertaintyWithChain 23 = .ok (.aload_n 0, 1) := by decide +kernel
theorem dX3_uncertaintyWithChain_24 : decode cX3_uncertaintyWithChain 24 = .ok (.getfield 213, 3) := by decide +kernel
theorem dX3_uncertaintyWithChain_27 : decode cX3_uncertaintyWithChain 27 = .ok (.aload_n 0, 1) := by decide +kernel
theorem dX3_uncertaintyWithChain_28 : decode cX3_uncertaintyWithChain 28 = .ok (.getfield 213, 3) := by decide +kernel
theorem dX3_uncertaintyWithChain_31 : decode cX3_uncertaintyWithChain 31 = .ok (.imul, 1) := by decide +kernel
theorem dX3_uncertaintyWithChain_32 : decode cX3_uncertaintyWithChain 32 = .ok (.iload_n 2, 1) := by decide +kernel
theorem dX3_uncertaintyWithChain_33 : decode cX3_uncertaintyWithChain 33 = .ok (.iload_n 2, 1) := by decide +kernel
theorem dX3_uncertaintyWithChain_34 : decode cX3_uncertaintyWithChain 34 = .ok (.imul, 1) := by decide +kernel
theorem dX3_uncertaintyWithChain_35 : decode cX3_uncertaintyWithChain 35 = .ok (.iadd, 1) := by decide +kernel
theorem dX3_uncertaintyWithChain_36 : decode cX3_uncertaintyWithChain 36 = .ok (.invokestatic 216, 3) := by decide +kernel
theorem dX3_uncertaintyWithChain_39 : decode cX3_uncertaintyWithChain 39 = .ok (.ireturn, 1) := by decide +kernel
theorem dX3_leastRoot_0 : decode cX3_leastRoot 0 = .ok (.iload_n 0, 1) := by decide +kernel
theorem dX3_leastRoot_1 : decode cX3_leastRoot 1 = .ok (.ifCond .gt 5, 3) := by decide +kernel
theorem dX3_leastRoot_4 : decode cX3_leastRoot 4 = .ok (.iconst 0, 1) := by decide +kernel
theorem dX3_leastRoot_5 : decode cX3_leastRoot 5 = .ok (.ireturn, 1) := by decide +kernel
theorem dX3_leastRoot_6 : decode cX3_leastRoot 6 = .ok (.iconst 0, 1) := by decide +kernel
theorem dX3_leastRoot_7 : decode cX3_leastRoot 7 = .ok (.istore_n 1, 1) := by decide +kernel
theorem dX3_leastRoot_8 : decode cX3_leastRoot 8 = .ok (.sipush 8192, 3) := by decide +kernel
theorem dX3_leastRoot_11 : decode cX3_leastRoot 11 = .ok (.istore_n 2, 1) := by decide +kernel
theorem dX3_leastRoot_12 : decode cX3_leastRoot 12 = .ok (.iload_n 2, 1) := by decide +kernel
theorem dX3_leastRoot_13 : decode cX3_leastRoot 13 = .ok (.ifCond .le 25, 3) := by decide +kernel
theorem dX3_leastRoot_16 : decode cX3_leastRoot 16 = .ok (.iload_n 1, 1) := by decide +kernel
theorem dX3_leastRoot_17 : decode cX3_leastRoot 17 = .ok (.iload_n 2, 1) := by decide +kernel
theorem dX3_leastRoot_18 : decode cX3_leastRoot 18 = .ok (.iadd, 1) := by decide +kernel
theorem dX3_leastRoot_19 : decode cX3_leastRoot 19 = .ok (.iload_n 1, 1) := by decide +kernel
theorem dX3_leastRoot_20 : decode cX3_leastRoot 20 = .ok (.iload_n 2, 1) := by decide +kernel
theorem dX3_leastRoot_21 : decode cX3_leastRoot 21 = .ok (.iadd, 1) := by decide +kernel
theorem dX3_leastRoot_22 : decode cX3_leastRoot 22 = .ok (.imul, 1) := by decide +kernel
theorem dX3_leastRoot_23 : decode cX3_leastRoot 23 = .ok (.iload_n 0, 1) := by decide +kernel
theorem dX3_leastRoot_24 : decode cX3_leastRoot 24 = .ok (.if_icmp .ge 7, 3) := by decide +kernel
theorem dX3_leastRoot_27 : decode cX3_leastRoot 27 = .ok (.iload_n 1, 1) := by decide +kernel
theorem dX3_leastRoot_28 : decode cX3_leastRoot 28 = .ok (.iload_n 2, 1) := by decide +kernel
theorem dX3_leastRoot_29 : decode cX3_leastRoot 29 = .ok (.iadd, 1) := by decide +kernel
theorem dX3_leastRoot_30 : decode cX3_leastRoot 30 = .ok (.istore_n 1, 1) := by decide +kernel
theorem dX3_leastRoot_31 : decode cX3_leastRoot 31 = .ok (.iload_n 2, 1) := by decide +kernel
theorem dX3_leastRoot_32 : decode cX3_leastRoot 32 = .ok (.iconst 2, 1) := by decide +kernel
theorem dX3_leastRoot_33 : decode cX3_leastRoot 33 = .ok (.idiv, 1) := by decide +kernel
theorem dX3_leastRoot_34 : decode cX3_leastRoot 34 = .ok (.istore_n 2, 1) := by decide +kernel
theorem dX3_leastRoot_35 : decode cX3_leastRoot 35 = .ok (.goto (-23), 3) := by decide +kernel
theorem dX3_leastRoot_38 : decode cX3_leastRoot 38 = .ok (.iload_n 1, 1) := by decide +kernel
theorem dX3_leastRoot_39 : decode cX3_leastRoot 39 = .ok (.iconst 1, 1) := by decide +kernel
theorem dX3_leastRoot_40 : decode cX3_leastRoot 40 = .ok (.iadd, 1) := by decide +kernel
theorem dX3_leastRoot_41 : decode cX3_leastRoot 41 = .ok (.ireturn, 1) := by decide +kernel
theorem dX3_measurements_0 : decode cX3_measurements 0 = .ok (.aload_n 0, 1) := by decide +kernel
theorem dX3_measurements_1 : decode cX3_measurements 1 = .ok (.getfield 113, 3) := by decide +kernel
theorem dX3_measurements_4 : decode cX3_measurements 4 = .ok (.ireturn, 1) := by decide +kernel
theorem dX3_isCalledBack_0 : decode cX3_isCalledBack 0 = .ok (.iload_n 1, 1) := by decide +kernel
theorem dX3_isCalledBack_1 : decode cX3_isCalledBack 1 = .ok (.ifCond .lt 12, 3) := by decide +kernel
theorem dX3_isCalledBack_4 : decode cX3_isCalledBack 4 = .ok (.iload_n 1, 1) := by decide +kernel
theorem dX3_isCalledBack_5 : decode cX3_isCalledBack 5 = .ok (.aload_n 0, 1) := by decide +kernel
theorem dX3_isCalledBack_6 : decode cX3_isCalledBack 6 = .ok (.getfield 17, 3) := by decide +kernel
theorem dX3_isCalledBack_9 : decode cX3_isCalledBack 9 = .ok (.arraylength, 1) := by decide +kernel
theorem dX3_isCalledBack_10 : decode cX3_isCalledBack 10 = .ok (.if_icmp .lt 13, 3) := by decide +kernel
theorem dX3_isCalledBack_13 : decode cX3_isCalledBack 13 = .ok (.new 72, 3) := by decide +kernel
theorem dX3_isCalledBack_16 : decode cX3_isCalledBack 16 = .ok (.dup, 1) := by decide +kernel
theorem dX3_isCalledBack_17 : decode cX3_isCalledBack 17 = .ok (.ldc 219, 2) := by decide +kernel
theorem dX3_isCalledBack_19 : decode cX3_isCalledBack 19 = .ok (.invokespecial 76, 3) := by decide +kernel
theorem dX3_isCalledBack_22 : decode cX3_isCalledBack 22 = .ok (.athrow, 1) := by decide +kernel
theorem dX3_isCalledBack_23 : decode cX3_isCalledBack 23 = .ok (.aload_n 0, 1) := by decide +kernel
theorem dX3_isCalledBack_24 : decode cX3_isCalledBack 24 = .ok (.getfield 17, 3) := by decide +kernel
theorem dX3_isCalledBack_27 : decode cX3_isCalledBack 27 = .ok (.iload_n 1, 1) := by decide +kernel
theorem dX3_isCalledBack_28 : decode cX3_isCalledBack 28 = .ok (.aaload, 1) := by decide +kernel
theorem dX3_isCalledBack_29 : decode cX3_isCalledBack 29 = .ok (.astore_n 2, 1) := by decide +kernel
theorem dX3_isCalledBack_30 : decode cX3_isCalledBack 30 = .ok (.aload_n 2, 1) := by decide +kernel
theorem dX3_isCalledBack_31 : decode cX3_isCalledBack 31 = .ok (.ifnonnull 13, 3) := by decide +kernel
theorem dX3_isCalledBack_34 : decode cX3_isCalledBack 34 = .ok (.new 72, 3) := by decide +kernel
theorem dX3_isCalledBack_37 : decode cX3_isCalledBack 37 = .ok (.dup, 1) := by decide +kernel
theorem dX3_isCalledBack_38 : decode cX3_isCalledBack 38 = .ok (.ldc 219, 2) := by decide +kernel
theorem dX3_isCalledBack_40 : decode cX3_isCalledBack 40 = .ok (.invokespecial 76, 3) := by decide +kernel
theorem dX3_isCalledBack_43 : decode cX3_isCalledBack 43 = .ok (.athrow, 1) := by decide +kernel
theorem dX3_isCalledBack_44 : decode cX3_isCalledBack 44 = .ok (.aload_n 2, 1) := by decide +kernel
theorem dX3_isCalledBack_45 : decode cX3_isCalledBack 45 = .ok (.getfield 221, 3) := by decide +kernel
theorem dX3_isCalledBack_48 : decode cX3_isCalledBack 48 = .ok (.ireturn, 1) := by decide +kernel
theorem dX3_calledBack_0 : decode cX3_calledBack 0 = .ok (.aload_n 0, 1) := by decide +kernel
theorem dX3_calledBack_1 : decode cX3_calledBack 1 = .ok (.getfield 224, 3) := by decide +kernel
theorem dX3_calledBack_4 : decode cX3_calledBack 4 = .ok (.ireturn, 1) := by decide +kernel
theorem dX3_calledBackByLog_0 : decode cX3_calledBackByLog 0 = .ok (.iconst 0, 1) := by decide +kernel
theorem dX3_calledBackByLog_1 : decode cX3_calledBackByLog 1 = .ok (.istore_n 1, 1) := by decide +kernel
theorem dX3_calledBackByLog_2 : decode cX3_calledBackByLog 2 = .ok (.iconst 0, 1) := by decide +kernel
theorem dX3_calledBackByLog_3 : decode cX3_calledBackByLog 3 = .ok (.istore_n 2, 1) := by decide +kernel
theorem dX3_calledBackByLog_4 : decode cX3_calledBackByLog 4 = .ok (.iload_n 2, 1) := by decide +kernel
theorem dX3_calledBackByLog_5 : decode cX3_calledBackByLog 5 = .ok (.aload_n 0, 1) := by decide +kernel
theorem dX3_calledBackByLog_6 : decode cX3_calledBackByLog 6 = .ok (.getfield 113, 3) := by decide +kernel
theorem dX3_calledBackByLog_9 : decode cX3_calledBackByLog 9 = .ok (.if_icmp .ge 43, 3) := by decide +kernel
theorem dX3_calledBackByLog_12 : decode cX3_calledBackByLog 12 = .ok (.iload_n 2, 1) := by decide +kernel
theorem dX3_calledBackByLog_13 : decode cX3_calledBackByLog 13 = .ok (.aload_n 0, 1) := by decide +kernel
theorem dX3_calledBackByLog_14 : decode cX3_calledBackByLog 14 = .ok (.getfield 17, 3) := by decide +kernel
theorem dX3_calledBackByLog_17 : decode cX3_calledBackByLog 17 = .ok (.arraylength, 1) := by decide +kernel
theorem dX3_calledBackByLog_18 : decode cX3_calledBackByLog 18 = .ok (.if_icmp .ge 34, 3) := by decide +kernel
theorem dX3_calledBackByLog_21 : decode cX3_calledBackByLog 21 = .ok (.aload_n 0, 1) := by decide +kernel
theorem dX3_calledBackByLog_22 : decode cX3_calledBackByLog 22 = .ok (.getfield 17, 3) := by decide +kernel
theorem dX3_calledBackByLog_25 : decode cX3_calledBackByLog 25 = .ok (.iload_n 2, 1) := by decide +kernel
theorem dX3_calledBackByLog_26 : decode cX3_calledBackByLog 26 = .ok (.aaload, 1) := by decide +kernel
theorem dX3_calledBackByLog_27 : decode cX3_calledBackByLog 27 = .ok (.ifnull 19, 3) := by decide +kernel
theorem dX3_calledBackByLog_30 : decode cX3_calledBackByLog 30 = .ok (.aload_n 0, 1) := by decide +kernel
theorem dX3_calledBackByLog_31 : decode cX3_calledBackByLog 31 = .ok (.aload_n 0, 1) := by decide +kernel
theorem dX3_calledBackByLog_32 : decode cX3_calledBackByLog 32 = .ok (.getfield 17, 3) := by decide +kernel
theorem dX3_calledBackByLog_35 : decode cX3_calledBackByLog 35 = .ok (.iload_n 2, 1) := by decide +kernel
theorem dX3_calledBackByLog_36 : decode cX3_calledBackByLog 36 = .ok (.aaload, 1) := by decide +kernel
theorem dX3_calledBackByLog_37 : decode cX3_calledBackByLog 37 = .ok (.invokevirtual 227, 3) := by decide +kernel
theorem dX3_calledBackByLog_40 : decode cX3_calledBackByLog 40 = .ok (.ifCond .eq 6, 3) := by decide +kernel
theorem dX3_calledBackByLog_43 : decode cX3_calledBackByLog 43 = .ok (.iinc 1 1, 3) := by decide +kernel
theorem dX3_calledBackByLog_46 : decode cX3_calledBackByLog 46 = .ok (.iinc 2 1, 3) := by decide +kernel
theorem dX3_calledBackByLog_49 : decode cX3_calledBackByLog 49 = .ok (.goto (-45), 3) := by decide +kernel
theorem dX3_calledBackByLog_52 : decode cX3_calledBackByLog 52 = .ok (.iload_n 1, 1) := by decide +kernel
theorem dX3_calledBackByLog_53 : decode cX3_calledBackByLog 53 = .ok (.ireturn, 1) := by decide +kernel
theorem dX3_atStake_0 : decode cX3_atStake 0 = .ok (.aload_n 0, 1) := by decide +kernel
theorem dX3_atStake_1 : decode cX3_atStake 1 = .ok (.iload_n 1, 1) := by decide +kernel
theorem dX3_atStake_2 : decode cX3_atStake 2 = .ok (.invokevirtual 54, 3) := by decide +kernel
theorem dX3_atStake_5 : decode cX3_atStake 5 = .ok (.astore_n 2, 1) := by decide +kernel
theorem dX3_atStake_6 : decode cX3_atStake 6 = .ok (.aload_n 2, 1) := by decide +kernel
theorem dX3_atStake_7 : decode cX3_atStake 7 = .ok (.getfield 95, 3) := by decide +kernel
theorem dX3_atStake_10 : decode cX3_atStake 10 = .ok (.ifnonnull 7, 3) := by decide +kernel
theorem dX3_atStake_13 : decode cX3_atStake 13 = .ok (.iconst 0, 1) := by decide +kernel
theorem dX3_atStake_14 : decode cX3_atStake 14 = .ok (.goto 11, 3) := by decide +kernel
theorem dX3_atStake_17 : decode cX3_atStake 17 = .ok (.aload_n 0, 1) := by decide +kernel
theorem dX3_atStake_18 : decode cX3_atStake 18 = .ok (.aload_n 2, 1) := by decide +kernel
theorem dX3_atStake_19 : decode cX3_atStake 19 = .ok (.getfield 95, 3) := by decide +kernel
theorem dX3_atStake_22 : decode cX3_atStake 22 = .ok (.invokevirtual 231, 3) := by decide +kernel
theorem dX3_atStake_25 : decode cX3_atStake 25 = .ok (.ireturn, 1) := by decide +kernel
theorem dX3_restsOn_0 : decode cX3_restsOn 0 = .ok (.aload_n 0, 1) := by decide +kernel
theorem dX3_restsOn_1 : decode cX3_restsOn 1 = .ok (.astore_n 3, 1) := by decide +kernel
theorem dX3_restsOn_2 : decode cX3_restsOn 2 = .ok (.aload_n 3, 1) := by decide +kernel
theorem dX3_restsOn_3 : decode cX3_restsOn 3 = .ok (.ifnull 28, 3) := by decide +kernel
theorem dX3_restsOn_6 : decode cX3_restsOn 6 = .ok (.aload_n 3, 1) := by decide +kernel
theorem dX3_restsOn_7 : decode cX3_restsOn 7 = .ok (.aload_n 1, 1) := by decide +kernel
theorem dX3_restsOn_8 : decode cX3_restsOn 8 = .ok (.if_acmp .ne 5, 3) := by decide +kernel
theorem dX3_restsOn_11 : decode cX3_restsOn 11 = .ok (.iconst 1, 1) := by decide +kernel
theorem dX3_restsOn_12 : decode cX3_restsOn 12 = .ok (.ireturn, 1) := by decide +kernel
theorem dX3_restsOn_13 : decode cX3_restsOn 13 = .ok (.aload_n 3, 1) := by decide +kernel
theorem dX3_restsOn_14 : decode cX3_restsOn 14 = .ok (.getfield 162, 3) := by decide +kernel
theorem dX3_restsOn_17 : decode cX3_restsOn 17 = .ok (.iload_n 2, 1) := by decide +kernel
theorem dX3_restsOn_18 : decode cX3_restsOn 18 = .ok (.if_icmp .ge 5, 3) := by decide +kernel
theorem dX3_restsOn_21 : decode cX3_restsOn 21 = .ok (.iconst 0, 1) := by decide +kernel
theorem dX3_restsOn_22 : decode cX3_restsOn 22 = .ok (.ireturn, 1) := by decide +kernel
theorem dX3_restsOn_23 : decode cX3_restsOn 23 = .ok (.aload_n 3, 1) := by decide +kernel
theorem dX3_restsOn_24 : decode cX3_restsOn 24 = .ok (.getfield 234, 3) := by decide +kernel
theorem dX3_restsOn_27 : decode cX3_restsOn 27 = .ok (.astore_n 3, 1) := by decide +kernel
theorem dX3_restsOn_28 : decode cX3_restsOn 28 = .ok (.goto (-26), 3) := by decide +kernel
theorem dX3_restsOn_31 : decode cX3_restsOn 31 = .ok (.iconst 0, 1) := by decide +kernel
theorem dX3_restsOn_32 : decode cX3_restsOn 32 = .ok (.ireturn, 1) := by decide +kernel
theorem dX3_isAtStake_0 : decode cX3_isAtStake 0 = .ok (.aload_n 1, 1) := by decide +kernel
theorem dX3_isAtStake_1 : decode cX3_isAtStake 1 = .ok (.ifnull 29, 3) := by decide +kernel
theorem dX3_isAtStake_4 : decode cX3_isAtStake 4 = .ok (.aload_n 1, 1) := by decide +kernel
theorem dX3_isAtStake_5 : decode cX3_isAtStake 5 = .ok (.getfield 221, 3) := by decide +kernel
theorem dX3_isAtStake_8 : decode cX3_isAtStake 8 = .ok (.ifCond .ne 22, 3) := by decide +kernel
theorem dX3_isAtStake_11 : decode cX3_isAtStake 11 = .ok (.aload_n 1, 1) := by decide +kernel
theorem dX3_isAtStake_12 : decode cX3_isAtStake 12 = .ok (.getfield 237, 3) := by decide +kernel
theorem dX3_isAtStake_15 : decode cX3_isAtStake 15 = .ok (.aload_n 2, 1) := by decide +kernel
theorem dX3_isAtStake_16 : decode cX3_isAtStake 16 = .ok (.aload_n 0, 1) := by decide +kernel
theorem dX3_isAtStake_17 : decode cX3_isAtStake 17 = .ok (.getfield 99, 3) := by decide +kernel
theorem dX3_isAtStake_20 : decode cX3_isAtStake 20 = .ok (.invokestatic 238, 3) := by decide +kernel
theorem dX3_isAtStake_23 : decode cX3_isAtStake 23 = .ok (.ifCond .eq 7, 3) := by decide +kernel
theorem dX3_isAtStake_26 : decode cX3_isAtStake 26 = .ok (.iconst 1, 1) := by decide +kernel
theorem dX3_isAtStake_27 : decode cX3_isAtStake 27 = .ok (.goto 4, 3) := by decide +kernel
theorem dX3_isAtStake_30 : decode cX3_isAtStake 30 = .ok (.iconst 0, 1) := by decide +kernel
theorem dX3_isAtStake_31 : decode cX3_isAtStake 31 = .ok (.ireturn, 1) := by decide +kernel
theorem dX3_countAtStake_0 : decode cX3_countAtStake 0 = .ok (.iconst 0, 1) := by decide +kernel
theorem dX3_countAtStake_1 : decode cX3_countAtStake 1 = .ok (.istore_n 2, 1) := by decide +kernel
theorem dX3_countAtStake_2 : decode cX3_countAtStake 2 = .ok (.iconst 0, 1) := by decide +kernel
theorem dX3_countAtStake_3 : decode cX3_countAtStake 3 = .ok (.istore_n 3, 1) := by decide +kernel
theorem dX3_countAtStake_4 : decode cX3_countAtStake 4 = .ok (.iload_n 3, 1) := by decide +kernel
theorem dX3_countAtStake_5 : decode cX3_countAtStake 5 = .ok (.aload_n 0, 1) := by decide +kernel
theorem dX3_countAtStake_6 : decode cX3_countAtStake 6 = .ok (.getfield 113, 3) := by decide +kernel
theorem dX3_countAtStake_9 : decode cX3_countAtStake 9 = .ok (.if_icmp .ge 35, 3) := by decide +kernel
theorem dX3_countAtStake_12 : decode cX3_countAtStake 12 = .ok (.iload_n 3, 1) := by decide +kernel
theorem dX3_countAtStake_13 : decode cX3_countAtStake 13 = .ok (.aload_n 0, 1) := by decide +kernel
theorem dX3_countAtStake_14 : decode cX3_countAtStake 14 = .ok (.getfield 17, 3) := by decide +kernel
theorem dX3_countAtStake_17 : decode cX3_countAtStake 17 = .ok (.arraylength, 1) := by decide +kernel
theorem dX3_countAtStake_18 : decode cX3_countAtStake 18 = .ok (.if_icmp .ge 26, 3) := by decide +kernel
theorem dX3_countAtStake_21 : decode cX3_countAtStake 21 = .ok (.aload_n 0, 1) := by decide +kernel
theorem dX3_countAtStake_22 : decode cX3_countAtStake 22 = .ok (.aload_n 0, 1) := by decide +kernel
theorem dX3_countAtStake_23 : decode cX3_countAtStake 23 = .ok (.getfield 17, 3) := by decide +kernel
theorem dX3_countAtStake_26 : decode cX3_countAtStake 26 = .ok (.iload_n 3, 1) := by decide +kernel
theorem dX3_countAtStake_27 : decode cX3_countAtStake 27 = .ok (.aaload, 1) := by decide +kernel
theorem dX3_countAtStake_28 : decode cX3_countAtStake 28 = .ok (.aload_n 1, 1) := by decide +kernel
theorem dX3_countAtStake_29 : decode cX3_countAtStake 29 = .ok (.invokevirtual 242, 3) := by decide +kernel
theorem dX3_countAtStake_32 : decode cX3_countAtStake 32 = .ok (.ifCond .eq 6, 3) := by decide +kernel
theorem dX3_countAtStake_35 : decode cX3_countAtStake 35 = .ok (.iinc 2 1, 3) := by decide +kernel
theorem dX3_countAtStake_38 : decode cX3_countAtStake 38 = .ok (.iinc 3 1, 3) := by decide +kernel
theorem dX3_countAtStake_41 : decode cX3_countAtStake 41 = .ok (.goto (-37), 3) := by decide +kernel
theorem dX3_countAtStake_44 : decode cX3_countAtStake 44 = .ok (.iload_n 2, 1) := by decide +kernel
theorem dX3_countAtStake_45 : decode cX3_countAtStake 45 = .ok (.ireturn, 1) := by decide +kernel
theorem dX3_callBack_0 : decode cX3_callBack 0 = .ok (.iconst 0, 1) := by decide +kernel
theorem dX3_callBack_1 : decode cX3_callBack 1 = .ok (.istore_n 2, 1) := by decide +kernel
theorem dX3_callBack_2 : decode cX3_callBack 2 = .ok (.iconst 0, 1) := by decide +kernel
theorem dX3_callBack_3 : decode cX3_callBack 3 = .ok (.istore_n 3, 1) := by decide +kernel
theorem dX3_callBack_4 : decode cX3_callBack 4 = .ok (.iload_n 3, 1) := by decide +kernel
theorem dX3_callBack_5 : decode cX3_callBack 5 = .ok (.aload_n 0, 1) := by decide +kernel
theorem dX3_callBack_6 : decode cX3_callBack 6 = .ok (.getfield 113, 3) := by decide +kernel
theorem dX3_callBack_9 : decode cX3_callBack 9 = .ok (.if_icmp .ge 50, 3) := by decide +kernel
theorem dX3_callBack_12 : decode cX3_callBack 12 = .ok (.iload_n 3, 1) := by decide +kernel
theorem dX3_callBack_13 : decode cX3_callBack 13 = .ok (.aload_n 0, 1) := by decide +kernel
theorem dX3_callBack_14 : decode cX3_callBack 14 = .ok (.getfield 17, 3) := by decide +kernel
theorem dX3_callBack_17 : decode cX3_callBack 17 = .ok (.arraylength, 1) := by decide +kernel
theorem dX3_callBack_18 : decode cX3_callBack 18 = .ok (.if_icmp .ge 41, 3) := by decide +kernel
theorem dX3_callBack_21 : decode cX3_callBack 21 = .ok (.aload_n 0, 1) := by decide +kernel
theorem dX3_callBack_22 : decode cX3_callBack 22 = .ok (.getfield 17, 3) := by decide +kernel
theorem dX3_callBack_25 : decode cX3_callBack 25 = .ok (.iload_n 3, 1) := by decide +kernel
theorem dX3_callBack_26 : decode cX3_callBack 26 = .ok (.aaload, 1) := by decide +kernel
theorem dX3_callBack_27 : decode cX3_callBack 27 = .ok (.astore 4, 2) := by decide +kernel
theorem dX3_callBack_29 : decode cX3_callBack 29 = .ok (.aload 4, 2) := by decide +kernel
theorem dX3_callBack_31 : decode cX3_callBack 31 = .ok (.ifnull 22, 3) := by decide +kernel
theorem dX3_callBack_34 : decode cX3_callBack 34 = .ok (.aload_n 0, 1) := by decide +kernel
theorem dX3_callBack_35 : decode cX3_callBack 35 = .ok (.aload 4, 2) := by decide +kernel
theorem dX3_callBack_37 : decode cX3_callBack 37 = .ok (.aload_n 1, 1) := by decide +kernel
theorem dX3_callBack_38 : decode cX3_callBack 38 = .ok (.invokevirtual 242, 3) := by decide +kernel
theorem dX3_callBack_41 : decode cX3_callBack 41 = .ok (.ifCond .eq 12, 3) := by decide +kernel
theorem dX3_callBack_44 : decode cX3_callBack 44 = .ok (.aload 4, 2) := by decide +kernel
theorem dX3_callBack_46 : decode cX3_callBack 46 = .ok (.iconst 1, 1) := by decide +kernel
theorem dX3_callBack_47 : decode cX3_callBack 47 = .ok (.putfield 221, 3) := by decide +kernel
theorem dX3_callBack_50 : decode cX3_callBack 50 = .ok (.iinc 2 1, 3) := by decide +kernel
theorem dX3_callBack_53 : decode cX3_callBack 53 = .ok (.iinc 3 1, 3) := by decide +kernel
theorem dX3_callBack_56 : decode cX3_callBack 56 = .ok (.goto (-52), 3) := by decide +kernel
theorem dX3_callBack_59 : decode cX3_callBack 59 = .ok (.aload_n 0, 1) := by decide +kernel
theorem dX3_callBack_60 : decode cX3_callBack 60 = .ok (.dup, 1) := by decide +kernel
theorem dX3_callBack_61 : decode cX3_callBack 61 = .ok (.getfield 224, 3) := by decide +kernel
theorem dX3_callBack_64 : decode cX3_callBack 64 = .ok (.iload_n 2, 1) := by decide +kernel
theorem dX3_callBack_65 : decode cX3_callBack 65 = .ok (.iadd, 1) := by decide +kernel
theorem dX3_callBack_66 : decode cX3_callBack 66 = .ok (.putfield 224, 3) := by decide +kernel
theorem dX3_callBack_69 : decode cX3_callBack 69 = .ok (.aload_n 0, 1) := by decide +kernel
theorem dX3_callBack_70 : decode cX3_callBack 70 = .ok (.getfield 11, 3) := by decide +kernel
theorem dX3_callBack_73 : decode cX3_callBack 73 = .ok (.astore_n 3, 1) := by decide +kernel
theorem dX3_callBack_74 : decode cX3_callBack 74 = .ok (.aload_n 3, 1) := by decide +kernel
theorem dX3_callBack_75 : decode cX3_callBack 75 = .ok (.arraylength, 1) := by decide +kernel
theorem dX3_callBack_76 : decode cX3_callBack 76 = .ok (.istore 4, 2) := by decide +kernel
theorem dX3_callBack_78 : decode cX3_callBack 78 = .ok (.iconst 0, 1) := by decide +kernel
theorem dX3_callBack_79 : decode cX3_callBack 79 = .ok (.istore 5, 2) := by decide +kernel
theorem dX3_callBack_81 : decode cX3_callBack 81 = .ok (.iload 5, 2) := by decide +kernel
theorem dX3_callBack_83 : decode cX3_callBack 83 = .ok (.iload 4, 2) := by decide +kernel
theorem dX3_callBack_85 : decode cX3_callBack 85 = .ok (.if_icmp .ge 56, 3) := by decide +kernel
theorem dX3_callBack_88 : decode cX3_callBack 88 = .ok (.aload_n 3, 1) := by decide +kernel
theorem dX3_callBack_89 : decode cX3_callBack 89 = .ok (.iload 5, 2) := by decide +kernel
theorem dX3_callBack_91 : decode cX3_callBack 91 = .ok (.aaload, 1) := by decide +kernel
theorem dX3_callBack_92 : decode cX3_callBack 92 = .ok (.astore 6, 2) := by decide +kernel
theorem dX3_callBack_94 : decode cX3_callBack 94 = .ok (.aload 6, 2) := by decide +kernel
theorem dX3_callBack_96 : decode cX3_callBack 96 = .ok (.ifnull 39, 3) := by decide +kernel
theorem dX3_callBack_99 : decode cX3_callBack 99 = .ok (.aload 6, 2) := by decide +kernel
theorem dX3_callBack_101 : decode cX3_callBack 101 = .ok (.getfield 95, 3) := by decide +kernel
theorem dX3_callBack_104 : decode cX3_callBack 104 = .ok (.ifnull 31, 3) := by decide +kernel
theorem dX3_callBack_107 : decode cX3_callBack 107 = .ok (.aload 6, 2) := by decide +kernel
theorem dX3_callBack_109 : decode cX3_callBack 109 = .ok (.getfield 95, 3) := by decide +kernel
theorem dX3_callBack_112 : decode cX3_callBack 112 = .ok (.getfield 234, 3) := by decide +kernel
theorem dX3_callBack_115 : decode cX3_callBack 115 = .ok (.aload_n 1, 1) := by decide +kernel
theorem dX3_callBack_116 : decode cX3_callBack 116 = .ok (.aload_n 0, 1) := by decide +kernel
theorem dX3_callBack_117 : decode cX3_callBack 117 = .ok (.getfield 99, 3) := by decide +kernel
theorem dX3_callBack_120 : decode cX3_callBack 120 = .ok (.invokestatic 238, 3) := by decide +kernel
theorem dX3_callBack_123 : decode cX3_callBack 123 = .ok (.ifCond .eq 12, 3) := by decide +kernel
theorem dX3_callBack_126 : decode cX3_callBack 126 = .ok (.aload 6, 2) := by decide +kernel
theorem dX3_callBack_128 : decode cX3_callBack 128 = .ok (.getfield 95, 3) := by decide +kernel
theorem dX3_callBack_131 : decode cX3_callBack 131 = .ok (.iconst 1, 1) := by decide +kernel
theorem dX3_callBack_132 : decode cX3_callBack 132 = .ok (.putfield 186, 3) := by decide +kernel
theorem dX3_callBack_135 : decode cX3_callBack 135 = .ok (.iinc 5 1, 3) := by decide +kernel
theorem dX3_callBack_138 : decode cX3_callBack 138 = .ok (.goto (-57), 3) := by decide +kernel
theorem dX3_callBack_141 : decode cX3_callBack 141 = .ok (.iload_n 2, 1) := by decide +kernel
theorem dX3_callBack_142 : decode cX3_callBack 142 = .ok (.ireturn, 1) := by decide +kernel
theorem dX3_logRecalls_0 : decode cX3_logRecalls 0 = .ok (.iconst 0, 1) := by decide +kernel
theorem dX3_logRecalls_1 : decode cX3_logRecalls 1 = .ok (.istore_n 2, 1) := by decide +kernel
theorem dX3_logRecalls_2 : decode cX3_logRecalls 2 = .ok (.iload_n 2, 1) := by decide +kernel
theorem dX3_logRecalls_3 : decode cX3_logRecalls 3 = .ok (.aload_n 0, 1) := by decide +kernel
theorem dX3_logRecalls_4 : decode cX3_logRecalls 4 = .ok (.getfield 92, 3) := by decide +kernel
theorem dX3_logRecalls_7 : decode cX3_logRecalls 7 = .ok (.if_icmp .ge 67, 3) := by decide +kernel
theorem dX3_logRecalls_10 : decode cX3_logRecalls 10 = .ok (.iload_n 2, 1) := by decide +kernel
theorem dX3_logRecalls_11 : decode cX3_logRecalls 11 = .ok (.aload_n 0, 1) := by decide +kernel
theorem dX3_logRecalls_12 : decode cX3_logRecalls 12 = .ok (.getfield 23, 3) := by decide +kernel
theorem dX3_logRecalls_15 : decode cX3_logRecalls 15 = .ok (.arraylength, 1) := by decide +kernel
theorem dX3_logRecalls_16 : decode cX3_logRecalls 16 = .ok (.if_icmp .ge 58, 3) := by decide +kernel
theorem dX3_logRecalls_19 : decode cX3_logRecalls 19 = .ok (.aload_n 0, 1) := by decide +kernel
theorem dX3_logRecalls_20 : decode cX3_logRecalls 20 = .ok (.getfield 23, 3) := by decide +kernel
theorem dX3_logRecalls_23 : decode cX3_logRecalls 23 = .ok (.iload_n 2, 1) := by decide +kernel
theorem dX3_logRecalls_24 : decode cX3_logRecalls 24 = .ok (.aaload, 1) := by decide +kernel
theorem dX3_logRecalls_25 : decode cX3_logRecalls 25 = .ok (.astore_n 3, 1) := by decide +kernel
theorem dX3_logRecalls_26 : decode cX3_logRecalls 26 = .ok (.aload_n 3, 1) := by decide +kernel
theorem dX3_logRecalls_27 : decode cX3_logRecalls 27 = .ok (.ifnull 41, 3) := by decide +kernel
theorem dX3_logRecalls_30 : decode cX3_logRecalls 30 = .ok (.aload_n 3, 1) := by decide +kernel
theorem dX3_logRecalls_31 : decode cX3_logRecalls 31 = .ok (.getfield 132, 3) := by decide +kernel
theorem dX3_logRecalls_34 : decode cX3_logRecalls 34 = .ok (.ifCond .eq 34, 3) := by decide +kernel
theorem dX3_logRecalls_37 : decode cX3_logRecalls 37 = .ok (.aload_n 3, 1) := by decide +kernel
theorem dX3_logRecalls_38 : decode cX3_logRecalls 38 = .ok (.getfield 161, 3) := by decide +kernel
theorem dX3_logRecalls_41 : decode cX3_logRecalls 41 = .ok (.aload_n 1, 1) := by decide +kernel
theorem dX3_logRecalls_42 : decode cX3_logRecalls 42 = .ok (.getfield 246, 3) := by decide +kernel
theorem dX3_logRecalls_45 : decode cX3_logRecalls 45 = .ok (.if_icmp .le 23, 3) := by decide +kernel
theorem dX3_logRecalls_48 : decode cX3_logRecalls 48 = .ok (.aload_n 1, 1) := by decide +kernel
theorem dX3_logRecalls_49 : decode cX3_logRecalls 49 = .ok (.getfield 237, 3) := by decide +kernel
theorem dX3_logRecalls_52 : decode cX3_logRecalls 52 = .ok (.aload_n 3, 1) := by decide +kernel
theorem dX3_logRecalls_53 : decode cX3_logRecalls 53 = .ok (.getfield 179, 3) := by decide +kernel
theorem dX3_logRecalls_56 : decode cX3_logRecalls 56 = .ok (.aload_n 3, 1) := by decide +kernel
theorem dX3_logRecalls_57 : decode cX3_logRecalls 57 = .ok (.getfield 161, 3) := by decide +kernel
theorem dX3_logRecalls_60 : decode cX3_logRecalls 60 = .ok (.invokestatic 238, 3) := by decide +kernel
theorem dX3_logRecalls_63 : decode cX3_logRecalls 63 = .ok (.ifCond .eq 5, 3) := by decide +kernel
theorem dX3_logRecalls_66 : decode cX3_logRecalls 66 = .ok (.iconst 1, 1) := by decide +kernel
theorem dX3_logRecalls_67 : decode cX3_logRecalls 67 = .ok (.ireturn, 1) := by decide +kernel
theorem dX3_logRecalls_68 : decode cX3_logRecalls 68 = .ok (.iinc 2 1, 3) := by decide +kernel
theorem dX3_logRecalls_71 : decode cX3_logRecalls 71 = .ok (.goto (-69), 3) := by decide +kernel
theorem dX3_logRecalls_74 : decode cX3_logRecalls 74 = .ok (.iconst 0, 1) := by decide +kernel
theorem dX3_logRecalls_75 : decode cX3_logRecalls 75 = .ok (.ireturn, 1) := by decide +kernel
theorem dX3_benchDay_0 : decode cX3_benchDay 0 = .ok (.aload_n 0, 1) := by decide +kernel
theorem dX3_benchDay_1 : decode cX3_benchDay 1 = .ok (.iload_n 1, 1) := by decide +kernel
theorem dX3_benchDay_2 : decode cX3_benchDay 2 = .ok (.invokevirtual 54, 3) := by decide +kernel
theorem dX3_benchDay_5 : decode cX3_benchDay 5 = .ok (.astore_n 3, 1) := by decide +kernel
theorem dX3_benchDay_6 : decode cX3_benchDay 6 = .ok (.iload_n 2, 1) := by decide +kernel
theorem dX3_benchDay_7 : decode cX3_benchDay 7 = .ok (.iconst 1, 1) := by decide +kernel
theorem dX3_benchDay_8 : decode cX3_benchDay 8 = .ok (.if_icmp .lt 9, 3) := by decide +kernel
theorem dX3_benchDay_11 : decode cX3_benchDay 11 = .ok (.iload_n 2, 1) := by decide +kernel
theorem dX3_benchDay_12 : decode cX3_benchDay 12 = .ok (.bipush 12, 2) := by decide +kernel
theorem dX3_benchDay_14 : decode cX3_benchDay 14 = .ok (.if_icmp .le 13, 3) := by decide +kernel
theorem dX3_benchDay_17 : decode cX3_benchDay 17 = .ok (.new 31, 3) := by decide +kernel
theorem dX3_benchDay_20 : decode cX3_benchDay 20 = .ok (.dup, 1) := by decide +kernel
theorem dX3_benchDay_21 : decode cX3_benchDay 21 = .ok (.ldc 247, 2) := by decide +kernel
theorem dX3_benchDay_23 : decode cX3_benchDay 23 = .ok (.invokespecial 35, 3) := by decide +kernel
theorem dX3_benchDay_26 : decode cX3_benchDay 26 = .ok (.athrow, 1) := by decide +kernel
theorem dX3_benchDay_27 : decode cX3_benchDay 27 = .ok (.aload_n 3, 1) := by decide +kernel
theorem dX3_benchDay_28 : decode cX3_benchDay 28 = .ok (.getfield 95, 3) := by decide +kernel
theorem dX3_benchDay_31 : decode cX3_benchDay 31 = .ok (.ifnonnull 7, 3) := by decide +kernel
theorem dX3_benchDay_34 : decode cX3_benchDay 34 = .ok (.iconst (-1), 1) := by decide +kernel
theorem dX3_benchDay_35 : decode cX3_benchDay 35 = .ok (.goto 19, 3) := by decide +kernel
theorem dX3_benchDay_38 : decode cX3_benchDay 38 = .ok (.aload_n 0, 1) := by decide +kernel
theorem dX3_benchDay_39 : decode cX3_benchDay 39 = .ok (.getfield 69, 3) := by decide +kernel
theorem dX3_benchDay_42 : decode cX3_benchDay 42 = .ok (.aload_n 0, 1) := by decide +kernel
theorem dX3_benchDay_43 : decode cX3_benchDay 43 = .ok (.aload_n 3, 1) := by decide +kernel
theorem dX3_benchDay_44 : decode cX3_benchDay 44 = .ok (.aload_n 3, 1) := by decide +kernel
theorem dX3_benchDay_45 : decode cX3_benchDay 45 = .ok (.getfield 95, 3) := by decide +kernel
theorem dX3_benchDay_48 : decode cX3_benchDay 48 = .ok (.invokevirtual 249, 3) := by decide +kernel
theorem dX3_benchDay_51 : decode cX3_benchDay 51 = .ok (.iload_n 2, 1) := by decide +kernel
theorem dX3_benchDay_52 : decode cX3_benchDay 52 = .ok (.idiv, 1) := by decide +kernel
theorem dX3_benchDay_53 : decode cX3_benchDay 53 = .ok (.iadd, 1) := by decide +kernel
theorem dX3_benchDay_54 : decode cX3_benchDay 54 = .ok (.ireturn, 1) := by decide +kernel
theorem dX3_late_0 : decode cX3_late 0 = .ok (.iload_n 1, 1) := by decide +kernel
theorem dX3_late_1 : decode cX3_late 1 = .ok (.iconst 1, 1) := by decide +kernel
theorem dX3_late_2 : decode cX3_late 2 = .ok (.if_icmp .lt 9, 3) := by decide +kernel
theorem dX3_late_5 : decode cX3_late 5 = .ok (.iload_n 1, 1) := by decide +kernel
theorem dX3_late_6 : decode cX3_late 6 = .ok (.bipush 12, 2) := by decide +kernel
theorem dX3_late_8 : decode cX3_late 8 = .ok (.if_icmp .le 13, 3) := by decide +kernel
theorem dX3_late_11 : decode cX3_late 11 = .ok (.new 31, 3) := by decide +kernel
theorem dX3_late_14 : decode cX3_late 14 = .ok (.dup, 1) := by decide +kernel
theorem dX3_late_15 : decode cX3_late 15 = .ok (.ldc 247, 2) := by decide +kernel
theorem dX3_late_17 : decode cX3_late 17 = .ok (.invokespecial 35, 3) := by decide +kernel
theorem dX3_late_20 : decode cX3_late 20 = .ok (.athrow, 1) := by decide +kernel
theorem dX3_late_21 : decode cX3_late 21 = .ok (.iconst 0, 1) := by decide +kernel
theorem dX3_late_22 : decode cX3_late 22 = .ok (.istore_n 2, 1) := by decide +kernel
theorem dX3_late_23 : decode cX3_late 23 = .ok (.aload_n 0, 1) := by decide +kernel
theorem dX3_late_24 : decode cX3_late 24 = .ok (.getfield 11, 3) := by decide +kernel
theorem dX3_late_27 : decode cX3_late 27 = .ok (.astore_n 3, 1) := by decide +kernel
theorem dX3_late_28 : decode cX3_late 28 = .ok (.aload_n 3, 1) := by decide +kernel
theorem dX3_late_29 : decode cX3_late 29 = .ok (.arraylength, 1) := by decide +kernel
theorem dX3_late_30 : decode cX3_late 30 = .ok (.istore 4, 2) := by decide +kernel
theorem dX3_late_32 : decode cX3_late 32 = .ok (.iconst 0, 1) := by decide +kernel
theorem dX3_late_33 : decode cX3_late 33 = .ok (.istore 5, 2) := by decide +kernel
theorem dX3_late_35 : decode cX3_late 35 = .ok (.iload 5, 2) := by decide +kernel
theorem dX3_late_37 : decode cX3_late 37 = .ok (.iload 4, 2) := by decide +kernel
theorem dX3_late_39 : decode cX3_late 39 = .ok (.if_icmp .ge 62, 3) := by decide +kernel
theorem dX3_late_42 : decode cX3_late 42 = .ok (.aload_n 3, 1) := by decide +kernel
theorem dX3_late_43 : decode cX3_late 43 = .ok (.iload 5, 2) := by decide +kernel
theorem dX3_late_45 : decode cX3_late 45 = .ok (.aaload, 1) := by decide +kernel
theorem dX3_late_46 : decode cX3_late 46 = .ok (.astore 6, 2) := by decide +kernel
theorem dX3_late_48 : decode cX3_late 48 = .ok (.aload 6, 2) := by decide +kernel
theorem dX3_late_50 : decode cX3_late 50 = .ok (.ifnull 45, 3) := by decide +kernel
theorem dX3_late_53 : decode cX3_late 53 = .ok (.aload 6, 2) := by decide +kernel
theorem dX3_late_55 : decode cX3_late 55 = .ok (.getfield 95, 3) := by decide +kernel
theorem dX3_late_58 : decode cX3_late 58 = .ok (.ifnull 37, 3) := by decide +kernel
theorem dX3_late_61 : decode cX3_late 61 = .ok (.aload_n 0, 1) := by decide +kernel
theorem dX3_late_62 : decode cX3_late 62 = .ok (.getfield 69, 3) := by decide +kernel
theorem dX3_late_65 : decode cX3_late 65 = .ok (.aload_n 0, 1) := by decide +kernel
theorem dX3_late_66 : decode cX3_late 66 = .ok (.aload 6, 2) := by decide +kernel
theorem dX3_late_68 : decode cX3_late 68 = .ok (.aload 6, 2) := by decide +kernel
theorem dX3_late_70 : decode cX3_late 70 = .ok (.getfield 95, 3) := by decide +kernel
theorem dX3_late_73 : decode cX3_late 73 = .ok (.invokevirtual 249, 3) := by decide +kernel
theorem dX3_late_76 : decode cX3_late 76 = .ok (.iload_n 1, 1) := by decide +kernel
theorem dX3_late_77 : decode cX3_late 77 = .ok (.idiv, 1) := by decide +kernel
theorem dX3_late_78 : decode cX3_late 78 = .ok (.iadd, 1) := by decide +kernel
theorem dX3_late_79 : decode cX3_late 79 = .ok (.aload 6, 2) := by decide +kernel
theorem dX3_late_81 : decode cX3_late 81 = .ok (.aload 6, 2) := by decide +kernel
theorem dX3_late_83 : decode cX3_late 83 = .ok (.getfield 95, 3) := by decide +kernel
theorem dX3_late_86 : decode cX3_late 86 = .ok (.invokestatic 182, 3) := by decide +kernel
theorem dX3_late_89 : decode cX3_late 89 = .ok (.if_icmp .le 6, 3) := by decide +kernel
theorem dX3_late_92 : decode cX3_late 92 = .ok (.iinc 2 1, 3) := by decide +kernel
theorem dX3_late_95 : decode cX3_late 95 = .ok (.iinc 5 1, 3) := by decide +kernel
theorem dX3_late_98 : decode cX3_late 98 = .ok (.goto (-63), 3) := by decide +kernel
theorem dX3_late_101 : decode cX3_late 101 = .ok (.iload_n 2, 1) := by decide +kernel
theorem dX3_late_102 : decode cX3_late 102 = .ok (.ireturn, 1) := by decide +kernel
theorem dX3_countAhead_0 : decode cX3_countAhead 0 = .ok (.aload_n 1, 1) := by decide +kernel
theorem dX3_countAhead_1 : decode cX3_countAhead 1 = .ok (.aload_n 2, 1) := by decide +kernel
theorem dX3_countAhead_2 : decode cX3_countAhead 2 = .ok (.invokestatic 182, 3) := by decide +kernel
theorem dX3_countAhead_5 : decode cX3_countAhead 5 = .ok (.istore_n 3, 1) := by decide +kernel
theorem dX3_countAhead_6 : decode cX3_countAhead 6 = .ok (.iconst 0, 1) := by decide +kernel
theorem dX3_countAhead_7 : decode cX3_countAhead 7 = .ok (.istore 4, 2) := by decide +kernel
theorem dX3_countAhead_9 : decode cX3_countAhead 9 = .ok (.aload_n 0, 1) := by decide +kernel
theorem dX3_countAhead_10 : decode cX3_countAhead 10 = .ok (.getfield 11, 3) := by decide +kernel
theorem dX3_countAhead_13 : decode cX3_countAhead 13 = .ok (.astore 5, 2) := by decide +kernel
theorem dX3_countAhead_15 : decode cX3_countAhead 15 = .ok (.aload 5, 2) := by decide +kernel
theorem dX3_countAhead_17 : decode cX3_countAhead 17 = .ok (.arraylength, 1) := by decide +kernel
theorem dX3_countAhead_18 : decode cX3_countAhead 18 = .ok (.istore 6, 2) := by decide +kernel
theorem dX3_countAhead_20 : decode cX3_countAhead 20 = .ok (.iconst 0, 1) := by decide +kernel
theorem dX3_countAhead_21 : decode cX3_countAhead 21 = .ok (.istore 7, 2) := by decide +kernel
theorem dX3_countAhead_23 : decode cX3_countAhead 23 = .ok (.iload 7, 2) := by decide +kernel
theorem dX3_countAhead_25 : decode cX3_countAhead 25 = .ok (.iload 6, 2) := by decide +kernel
theorem dX3_countAhead_27 : decode cX3_countAhead 27 = .ok (.if_icmp .ge 68, 3) := by decide +kernel
theorem dX3_countAhead_30 : decode cX3_countAhead 30 = .ok (.aload 5, 2) := by decide +kernel
theorem dX3_countAhead_32 : decode cX3_countAhead 32 = .ok (.iload 7, 2) := by decide +kernel
theorem dX3_countAhead_34 : decode cX3_countAhead 34 = .ok (.aaload, 1) := by decide +kernel
theorem dX3_countAhead_35 : decode cX3_countAhead 35 = .ok (.astore 8, 2) := by decide +kernel
theorem dX3_countAhead_37 : decode cX3_countAhead 37 = .ok (.aload 8, 2) := by decide +kernel
theorem dX3_countAhead_39 : decode cX3_countAhead 39 = .ok (.ifnull 50, 3) := by decide +kernel
theorem dX3_countAhead_42 : decode cX3_countAhead 42 = .ok (.aload 8, 2) := by decide +kernel
theorem dX3_countAhead_44 : decode cX3_countAhead 44 = .ok (.getfield 95, 3) := by decide +kernel
theorem dX3_countAhead_47 : decode cX3_countAhead 47 = .ok (.ifnull 42, 3) := by decide +kernel
theorem dX3_countAhead_50 : decode cX3_countAhead 50 = .ok (.aload 8, 2) := by decide +kernel
theorem dX3_countAhead_52 : decode cX3_countAhead 52 = .ok (.aload 8, 2) := by decide +kernel
theorem dX3_countAhead_54 : decode cX3_countAhead 54 = .ok (.getfield 95, 3) := by decide +kernel
theorem dX3_countAhead_57 : decode cX3_countAhead 57 = .ok (.invokestatic 182, 3) := by decide +kernel
theorem dX3_countAhead_60 : decode cX3_countAhead 60 = .ok (.istore 9, 2) := by decide +kernel
theorem dX3_countAhead_62 : decode cX3_countAhead 62 = .ok (.iload 9, 2) := by decide +kernel
theorem dX3_countAhead_64 : decode cX3_countAhead 64 = .ok (.iload_n 3, 1) := by decide +kernel
theorem dX3_countAhead_65 : decode cX3_countAhead 65 = .ok (.if_icmp .lt 21, 3) := by decide +kernel
theorem dX3_countAhead_68 : decode cX3_countAhead 68 = .ok (.iload 9, 2) := by decide +kernel
theorem dX3_countAhead_70 : decode cX3_countAhead 70 = .ok (.iload_n 3, 1) := by decide +kernel
theorem dX3_countAhead_71 : decode cX3_countAhead 71 = .ok (.if_icmp .ne 18, 3) := by decide +kernel
theorem dX3_countAhead_74 : decode cX3_countAhead 74 = .ok (.aload 8, 2) := by decide +kernel
theorem dX3_countAhead_76 : decode cX3_countAhead 76 = .ok (.getfield 77, 3) := by decide +kernel
theorem dX3_countAhead_79 : decode cX3_countAhead 79 = .ok (.aload_n 1, 1) := by decide +kernel
theorem dX3_countAhead_80 : decode cX3_countAhead 80 = .ok (.getfield 77, 3) := by decide +kernel
theorem dX3_countAhead_83 : decode cX3_countAhead 83 = .ok (.if_icmp .ge 6, 3) := by decide +kernel
theorem dX3_countAhead_86 : decode cX3_countAhead 86 = .ok (.iinc 4 1, 3) := by decide +kernel
theorem dX3_countAhead_89 : decode cX3_countAhead 89 = .ok (.iinc 7 1, 3) := by decide +kernel
theorem dX3_countAhead_92 : decode cX3_countAhead 92 = .ok (.goto (-69), 3) := by decide +kernel
theorem dX3_countAhead_95 : decode cX3_countAhead 95 = .ok (.iload 4, 2) := by decide +kernel
theorem dX3_countAhead_97 : decode cX3_countAhead 97 = .ok (.ireturn, 1) := by decide +kernel
theorem dJ9_floorDiv_f86c9_0 : decode cJ9_floorDiv_f86c9 0 = .ok (.lload_n 0, 1) := by decide +kernel
theorem dJ9_floorDiv_f86c9_1 : decode cJ9_floorDiv_f86c9 1 = .ok (.lload_n 2, 1) := by decide +kernel
theorem dJ9_floorDiv_f86c9_2 : decode cJ9_floorDiv_f86c9 2 = .ok (.ldiv, 1) := by decide +kernel
theorem dJ9_floorDiv_f86c9_3 : decode cJ9_floorDiv_f86c9 3 = .ok (.lstore 4, 2) := by decide +kernel
theorem dJ9_floorDiv_f86c9_5 : decode cJ9_floorDiv_f86c9 5 = .ok (.lload_n 0, 1) := by decide +kernel
theorem dJ9_floorDiv_f86c9_6 : decode cJ9_floorDiv_f86c9 6 = .ok (.lload_n 2, 1) := by decide +kernel
theorem dJ9_floorDiv_f86c9_7 : decode cJ9_floorDiv_f86c9 7 = .ok (.lxor, 1) := by decide +kernel
theorem dJ9_floorDiv_f86c9_8 : decode cJ9_floorDiv_f86c9 8 = .ok (.lconst 0, 1) := by decide +kernel
theorem dJ9_floorDiv_f86c9_9 : decode cJ9_floorDiv_f86c9 9 = .ok (.lcmp, 1) := by decide +kernel
theorem dJ9_floorDiv_f86c9_10 : decode cJ9_floorDiv_f86c9 10 = .ok (.ifCond .ge 17, 3) := by decide +kernel
theorem dJ9_floorDiv_f86c9_13 : decode cJ9_floorDiv_f86c9 13 = .ok (.lload 4, 2) := by decide +kernel
theorem dJ9_floorDiv_f86c9_15 : decode cJ9_floorDiv_f86c9 15 = .ok (.lload_n 2, 1) := by decide +kernel
theorem dJ9_floorDiv_f86c9_16 : decode cJ9_floorDiv_f86c9 16 = .ok (.lmul, 1) := by decide +kernel
theorem dJ9_floorDiv_f86c9_17 : decode cJ9_floorDiv_f86c9 17 = .ok (.lload_n 0, 1) := by decide +kernel
theorem dJ9_floorDiv_f86c9_18 : decode cJ9_floorDiv_f86c9 18 = .ok (.lcmp, 1) := by decide +kernel
theorem dJ9_floorDiv_f86c9_19 : decode cJ9_floorDiv_f86c9 19 = .ok (.ifCond .eq 8, 3) := by decide +kernel
theorem dJ9_floorDiv_f86c9_22 : decode cJ9_floorDiv_f86c9 22 = .ok (.lload 4, 2) := by decide +kernel
theorem dJ9_floorDiv_f86c9_24 : decode cJ9_floorDiv_f86c9 24 = .ok (.lconst 1, 1) := by decide +kernel
theorem dJ9_floorDiv_f86c9_25 : decode cJ9_floorDiv_f86c9 25 = .ok (.lsub, 1) := by decide +kernel
theorem dJ9_floorDiv_f86c9_26 : decode cJ9_floorDiv_f86c9 26 = .ok (.lreturn, 1) := by decide +kernel
theorem dJ9_floorDiv_f86c9_27 : decode cJ9_floorDiv_f86c9 27 = .ok (.lload 4, 2) := by decide +kernel
theorem dJ9_floorDiv_f86c9_29 : decode cJ9_floorDiv_f86c9 29 = .ok (.lreturn, 1) := by decide +kernel
theorem dJ9_abs_0f7a4_0 : decode cJ9_abs_0f7a4 0 = .ok (.iload_n 0, 1) := by decide +kernel
theorem dJ9_abs_0f7a4_1 : decode cJ9_abs_0f7a4 1 = .ok (.ifCond .ge 8, 3) := by decide +kernel
theorem dJ9_abs_0f7a4_4 : decode cJ9_abs_0f7a4 4 = .ok (.iload_n 0, 1) := by decide +kernel
theorem dJ9_abs_0f7a4_5 : decode cJ9_abs_0f7a4 5 = .ok (.ineg, 1) := by decide +kernel
theorem dJ9_abs_0f7a4_6 : decode cJ9_abs_0f7a4 6 = .ok (.goto 4, 3) := by decide +kernel
theorem dJ9_abs_0f7a4_9 : decode cJ9_abs_0f7a4 9 = .ok (.iload_n 0, 1) := by decide +kernel
theorem dJ9_abs_0f7a4_10 : decode cJ9_abs_0f7a4 10 = .ok (.ireturn, 1) := by decide +kernel
theorem dJ9_abs_067f4_0 : decode cJ9_abs_067f4 0 = .ok (.lload_n 0, 1) := by decide +kernel
theorem dJ9_abs_067f4_1 : decode cJ9_abs_067f4 1 = .ok (.lconst 0, 1) := by decide +kernel
theorem dJ9_abs_067f4_2 : decode cJ9_abs_067f4 2 = .ok (.lcmp, 1) := by decide +kernel
theorem dJ9_abs_067f4_3 : decode cJ9_abs_067f4 3 = .ok (.ifCond .ge 8, 3) := by decide +kernel
theorem dJ9_abs_067f4_6 : decode cJ9_abs_067f4 6 = .ok (.lload_n 0, 1) := by decide +kernel
theorem dJ9_abs_067f4_7 : decode cJ9_abs_067f4 7 = .ok (.lneg, 1) := by decide +kernel
theorem dJ9_abs_067f4_8 : decode cJ9_abs_067f4 8 = .ok (.goto 4, 3) := by decide +kernel
theorem dJ9_abs_067f4_11 : decode cJ9_abs_067f4 11 = .ok (.lload_n 0, 1) := by decide +kernel
theorem dJ9_abs_067f4_12 : decode cJ9_abs_067f4 12 = .ok (.lreturn, 1) := by decide +kernel
theorem dJ9_max_7cf53_0 : decode cJ9_max_7cf53 0 = .ok (.iload_n 0, 1) := by decide +kernel
theorem dJ9_max_7cf53_1 : decode cJ9_max_7cf53 1 = .ok (.iload_n 1, 1) := by decide +kernel
theorem dJ9_max_7cf53_2 : decode cJ9_max_7cf53 2 = .ok (.if_icmp .lt 7, 3) := by decide +kernel
theorem dJ9_max_7cf53_5 : decode cJ9_max_7cf53 5 = .ok (.iload_n 0, 1) := by decide +kernel
theorem dJ9_max_7cf53_6 : decode cJ9_max_7cf53 6 = .ok (.goto 4, 3) := by decide +kernel
theorem dJ9_max_7cf53_9 : decode cJ9_max_7cf53 9 = .ok (.iload_n 1, 1) := by decide +kernel
theorem dJ9_max_7cf53_10 : decode cJ9_max_7cf53 10 = .ok (.ireturn, 1) := by decide +kernel
theorem dJ9_min_7cf53_0 : decode cJ9_min_7cf53 0 = .ok (.iload_n 0, 1) := by decide +kernel
theorem dJ9_min_7cf53_1 : decode cJ9_min_7cf53 1 = .ok (.iload_n 1, 1) := by decide +kernel
theorem dJ9_min_7cf53_2 : decode cJ9_min_7cf53 2 = .ok (.if_icmp .gt 7, 3) := by decide +kernel
theorem dJ9_min_7cf53_5 : decode cJ9_min_7cf53 5 = .ok (.iload_n 0, 1) := by decide +kernel
theorem dJ9_min_7cf53_6 : decode cJ9_min_7cf53 6 = .ok (.goto 4, 3) := by decide +kernel
theorem dJ9_min_7cf53_9 : decode cJ9_min_7cf53 9 = .ok (.iload_n 1, 1) := by decide +kernel
theorem dJ9_min_7cf53_10 : decode cJ9_min_7cf53 10 = .ok (.ireturn, 1) := by decide +kernel
theorem dL_draw_0 : decode cL_draw 0 = .ok (.iload_n 1, 1) := by decide +kernel
theorem dL_draw_1 : decode cL_draw 1 = .ok (.aload_n 0, 1) := by decide +kernel
theorem dL_draw_2 : decode cL_draw 2 = .ok (.arraylength, 1) := by decide +kernel
theorem dL_draw_3 : decode cL_draw 3 = .ok (.if_icmp .ge 12, 3) := by decide +kernel
theorem dL_draw_6 : decode cL_draw 6 = .ok (.aload_n 0, 1) := by decide +kernel
theorem dL_draw_7 : decode cL_draw 7 = .ok (.iload_n 1, 1) := by decide +kernel
theorem dL_draw_8 : decode cL_draw 8 = .ok (.iaload, 1) := by decide +kernel
theorem dL_draw_9 : decode cL_draw 9 = .ok (.ldc 7, 2) := by decide +kernel
theorem dL_draw_11 : decode cL_draw 11 = .ok (.iand, 1) := by decide +kernel
theorem dL_draw_12 : decode cL_draw 12 = .ok (.goto 12, 3) := by decide +kernel
theorem dL_draw_15 : decode cL_draw 15 = .ok (.ldc 8, 2) := by decide +kernel
theorem dL_draw_17 : decode cL_draw 17 = .ok (.iload_n 1, 1) := by decide +kernel
theorem dL_draw_18 : decode cL_draw 18 = .ok (.iconst 2, 1) := by decide +kernel
theorem dL_draw_19 : decode cL_draw 19 = .ok (.iadd, 1) := by decide +kernel
theorem dL_draw_20 : decode cL_draw 20 = .ok (.imul, 1) := by decide +kernel
theorem dL_draw_21 : decode cL_draw 21 = .ok (.ldc 9, 2) := by decide +kernel
theorem dL_draw_23 : decode cL_draw 23 = .ok (.irem, 1) := by decide +kernel
theorem dL_draw_24 : decode cL_draw 24 = .ok (.ireturn, 1) := by decide +kernel
theorem dL_step_0 : decode cL_step 0 = .ok (.aload_n 1, 1) := by decide +kernel
theorem dL_step_1 : decode cL_step 1 = .ok (.bipush 36, 2) := by decide +kernel
theorem dL_step_3 : decode cL_step 3 = .ok (.iaload, 1) := by decide +kernel
theorem dL_step_4 : decode cL_step 4 = .ok (.istore 5, 2) := by decide +kernel
theorem dL_step_6 : decode cL_step 6 = .ok (.iload 5, 2) := by decide +kernel
theorem dL_step_8 : decode cL_step 8 = .ok (.ifCond .eq 17, 3) := by decide +kernel
theorem dL_step_11 : decode cL_step 11 = .ok (.iload_n 2, 1) := by decide +kernel
theorem dL_step_12 : decode cL_step 12 = .ok (.bipush 11, 2) := by decide +kernel
theorem dL_step_14 : decode cL_step 14 = .ok (.irem, 1) := by decide +kernel
theorem dL_step_15 : decode cL_step 15 = .ok (.ifCond .ne 202, 3) := by decide +kernel
theorem dL_step_18 : decode cL_step 18 = .ok (.iload 5, 2) := by decide +kernel
theorem dL_step_20 : decode cL_step 20 = .ok (.bipush 12, 2) := by decide +kernel
theorem dL_step_22 : decode cL_step 22 = .ok (.if_icmp .ge 195, 3) := by decide +kernel
theorem dL_step_25 : decode cL_step 25 = .ok (.aload_n 1, 1) := by decide +kernel
theorem dL_step_26 : decode cL_step 26 = .ok (.iload 5, 2) := by decide +kernel
theorem dL_step_28 : decode cL_step 28 = .ok (.iload 5, 2) := by decide +kernel
theorem dL_step_30 : decode cL_step 30 = .ok (.ifCond .eq 10, 3) := by decide +kernel
theorem dL_step_33 : decode cL_step 33 = .ok (.iload 4, 2) := by decide +kernel
theorem dL_step_35 : decode cL_step 35 = .ok (.iconst 4, 1) := by decide +kernel
theorem dL_step_36 : decode cL_step 36 = .ok (.irem, 1) := by decide +kernel
theorem dL_step_37 : decode cL_step 37 = .ok (.ifCond .ne 7, 3) := by decide +kernel
theorem dL_step_40 : decode cL_step 40 = .ok (.iconst (-1), 1) := by decide +kernel
theorem dL_step_41 : decode cL_step 41 = .ok (.goto 10, 3) := by decide +kernel
theorem dL_step_44 : decode cL_step 44 = .ok (.iload 4, 2) := by decide +kernel
theorem dL_step_46 : decode cL_step 46 = .ok (.iconst 4, 1) := by decide +kernel
theorem dL_step_47 : decode cL_step 47 = .ok (.idiv, 1) := by decide +kernel
theorem dL_step_48 : decode cL_step 48 = .ok (.iload 5, 2) := by decide +kernel
theorem dL_step_50 : decode cL_step 50 = .ok (.irem, 1) := by decide +kernel
theorem dL_step_51 : decode cL_step 51 = .ok (.iastore, 1) := by decide +kernel
theorem dL_step_52 : decode cL_step 52 = .ok (.aload_n 1, 1) := by decide +kernel
theorem dL_step_53 : decode cL_step 53 = .ok (.bipush 12, 2) := by decide +kernel
theorem dL_step_55 : decode cL_step 55 = .ok (.iload 5, 2) := by decide +kernel
theorem dL_step_57 : decode cL_step 57 = .ok (.iadd, 1) := by decide +kernel
theorem dL_step_58 : decode cL_step 58 = .ok (.iconst 1, 1) := by decide +kernel
theorem dL_step_59 : decode cL_step 59 = .ok (.iload_n 3, 1) := by decide +kernel
theorem dL_step_60 : decode cL_step 60 = .ok (.iload_n 3, 1) := by decide +kernel
theorem dL_step_61 : decode cL_step 61 = .ok (.iconst 3, 1) := by decide +kernel
theorem dL_step_62 : decode cL_step 62 = .ok (.irem, 1) := by decide +kernel
theorem dL_step_63 : decode cL_step 63 = .ok (.ifCond .ne 9, 3) := by decide +kernel
theorem dL_step_66 : decode cL_step 66 = .ok (.sipush 9999, 3) := by decide +kernel
theorem dL_step_69 : decode cL_step 69 = .ok (.goto 5, 3) := by decide +kernel
theorem dL_step_72 : decode cL_step 72 = .ok (.bipush 60, 2) := by decide +kernel
theorem dL_step_74 : decode cL_step 74 = .ok (.irem, 1) := by decide +kernel
theorem dL_step_75 : decode cL_step 75 = .ok (.iadd, 1) := by decide +kernel
theorem dL_step_76 : decode cL_step 76 = .ok (.iastore, 1) := by decide +kernel
theorem dL_step_77 : decode cL_step 77 = .ok (.aload_n 1, 1) := by decide +kernel
theorem dL_step_78 : decode cL_step 78 = .ok (.bipush 24, 2) := by decide +kernel
theorem dL_step_80 : decode cL_step 80 = .ok (.iload 5, 2) := by decide +kernel
theorem dL_step_82 : decode cL_step 82 = .ok (.iadd, 1) := by decide +kernel
theorem dL_step_83 : decode cL_step 83 = .ok (.iload_n 3, 1) := by decide +kernel
theorem dL_step_84 : decode cL_step 84 = .ok (.bipush 60, 2) := by decide +kernel
theorem dL_step_86 : decode cL_step 86 = .ok (.idiv, 1) := by decide +kernel
theorem dL_step_87 : decode cL_step 87 = .ok (.iload_n 3, 1) := by decide +kernel
theorem dL_step_88 : decode cL_step 88 = .ok (.iconst 2, 1) := by decide +kernel
theorem dL_step_89 : decode cL_step 89 = .ok (.irem, 1) := by decide +kernel
theorem dL_step_90 : decode cL_step 90 = .ok (.ifCond .ne 9, 3) := by decide +kernel
theorem dL_step_93 : decode cL_step 93 = .ok (.sipush 1000, 3) := by decide +kernel
theorem dL_step_96 : decode cL_step 96 = .ok (.goto 5, 3) := by decide +kernel
theorem dL_step_99 : decode cL_step 99 = .ok (.bipush 20, 2) := by decide +kernel
theorem dL_step_101 : decode cL_step 101 = .ok (.irem, 1) := by decide +kernel
theorem dL_step_102 : decode cL_step 102 = .ok (.iastore, 1) := by decide +kernel
theorem dL_step_103 : decode cL_step 103 = .ok (.aload_n 1, 1) := by decide +kernel
theorem dL_step_104 : decode cL_step 104 = .ok (.bipush 36, 2) := by decide +kernel
theorem dL_step_106 : decode cL_step 106 = .ok (.dup2, 1) := by decide +kernel
theorem dL_step_107 : decode cL_step 107 = .ok (.iaload, 1) := by decide +kernel
theorem dL_step_108 : decode cL_step 108 = .ok (.iconst 1, 1) := by decide +kernel
theorem dL_step_109 : decode cL_step 109 = .ok (.iadd, 1) := by decide +kernel
theorem dL_step_110 : decode cL_step 110 = .ok (.iastore, 1) := by decide +kernel
theorem dL_step_111 : decode cL_step 111 = .ok (.aload_n 0, 1) := by decide +kernel
theorem dL_step_112 : decode cL_step 112 = .ok (.aload_n 1, 1) := by decide +kernel
theorem dL_step_113 : decode cL_step 113 = .ok (.iload 5, 2) := by decide +kernel
theorem dL_step_115 : decode cL_step 115 = .ok (.iaload, 1) := by decide +kernel
theorem dL_step_116 : decode cL_step 116 = .ok (.aload_n 1, 1) := by decide +kernel
theorem dL_step_117 : decode cL_step 117 = .ok (.bipush 12, 2) := by decide +kernel
theorem dL_step_119 : decode cL_step 119 = .ok (.iload 5, 2) := by decide +kernel
theorem dL_step_121 : decode cL_step 121 = .ok (.iadd, 1) := by decide +kernel
theorem dL_step_122 : decode cL_step 122 = .ok (.iaload, 1) := by decide +kernel
theorem dL_step_123 : decode cL_step 123 = .ok (.aload_n 1, 1) := by decide +kernel
theorem dL_step_124 : decode cL_step 124 = .ok (.bipush 24, 2) := by decide +kernel
theorem dL_step_126 : decode cL_step 126 = .ok (.iload 5, 2) := by decide +kernel
theorem dL_step_128 : decode cL_step 128 = .ok (.iadd, 1) := by decide +kernel
theorem dL_step_129 : decode cL_step 129 = .ok (.iaload, 1) := by decide +kernel
theorem dL_step_130 : decode cL_step 130 = .ok (.iconst 1, 1) := by decide +kernel
theorem dL_step_131 : decode cL_step 131 = .ok (.iload 4, 2) := by decide +kernel
theorem dL_step_133 : decode cL_step 133 = .ok (.bipush 64, 2) := by decide +kernel
theorem dL_step_135 : decode cL_step 135 = .ok (.idiv, 1) := by decide +kernel
theorem dL_step_136 : decode cL_step 136 = .ok (.iload 4, 2) := by decide +kernel
theorem dL_step_138 : decode cL_step 138 = .ok (.iconst 2, 1) := by decide +kernel
theorem dL_step_139 : decode cL_step 139 = .ok (.irem, 1) := by decide +kernel
theorem dL_step_140 : decode cL_step 140 = .ok (.ifCond .ne 9, 3) := by decide +kernel
theorem dL_step_143 : decode cL_step 143 = .ok (.sipush 999, 3) := by decide +kernel
theorem dL_step_146 : decode cL_step 146 = .ok (.goto 5, 3) := by decide +kernel
theorem dL_step_149 : decode cL_step 149 = .ok (.bipush 30, 2) := by decide +kernel
theorem dL_step_151 : decode cL_step 151 = .ok (.irem, 1) := by decide +kernel
theorem dL_step_152 : decode cL_step 152 = .ok (.iadd, 1) := by decide +kernel
theorem dL_step_153 : decode cL_step 153 = .ok (.invokevirtual 12, 3) := by decide +kernel
theorem dL_step_156 : decode cL_step 156 = .ok (.iload 5, 2) := by decide +kernel
theorem dL_step_158 : decode cL_step 158 = .ok (.if_icmp .ne 57, 3) := by decide +kernel
theorem dL_step_161 : decode cL_step 161 = .ok (.aload_n 0, 1) := by decide +kernel
theorem dL_step_162 : decode cL_step 162 = .ok (.invokevirtual 18, 3) := by decide +kernel
theorem dL_step_165 : decode cL_step 165 = .ok (.iload 5, 2) := by decide +kernel
theorem dL_step_167 : decode cL_step 167 = .ok (.iconst 1, 1) := by decide +kernel
theorem dL_step_168 : decode cL_step 168 = .ok (.iadd, 1) := by decide +kernel
theorem dL_step_169 : decode cL_step 169 = .ok (.if_icmp .ne 46, 3) := by decide +kernel
theorem dL_step_172 : decode cL_step 172 = .ok (.aload_n 0, 1) := by decide +kernel
theorem dL_step_173 : decode cL_step 173 = .ok (.iload 5, 2) := by decide +kernel
theorem dL_step_175 : decode cL_step 175 = .ok (.invokevirtual 22, 3) := by decide +kernel
theorem dL_step_178 : decode cL_step 178 = .ok (.iconst (-1), 1) := by decide +kernel
theorem dL_step_179 : decode cL_step 179 = .ok (.if_icmp .ne 36, 3) := by decide +kernel
theorem dL_step_182 : decode cL_step 182 = .ok (.aload_n 0, 1) := by decide +kernel
theorem dL_step_183 : decode cL_step 183 = .ok (.iload 5, 2) := by decide +kernel
theorem dL_step_185 : decode cL_step 185 = .ok (.invokevirtual 26, 3) := by decide +kernel
theorem dL_step_188 : decode cL_step 188 = .ok (.ifCond .ne 27, 3) := by decide +kernel
theorem dL_step_191 : decode cL_step 191 = .ok (.aload_n 0, 1) := by decide +kernel
theorem dL_step_192 : decode cL_step 192 = .ok (.iload 5, 2) := by decide +kernel
theorem dL_step_194 : decode cL_step 194 = .ok (.invokevirtual 30, 3) := by decide +kernel
theorem dL_step_197 : decode cL_step 197 = .ok (.ifCond .ne 18, 3) := by decide +kernel
theorem dL_step_200 : decode cL_step 200 = .ok (.aload_n 0, 1) := by decide +kernel
theorem dL_step_201 : decode cL_step 201 = .ok (.iload 5, 2) := by decide +kernel
theorem dL_step_203 : decode cL_step 203 = .ok (.invokevirtual 33, 3) := by decide +kernel
theorem dL_step_206 : decode cL_step 206 = .ok (.iload 5, 2) := by decide +kernel
theorem dL_step_208 : decode cL_step 208 = .ok (.if_icmp .ne 7, 3) := by decide +kernel
theorem dL_step_211 : decode cL_step 211 = .ok (.iconst 1, 1) := by decide +kernel
theorem dL_step_212 : decode cL_step 212 = .ok (.goto 4, 3) := by decide +kernel
theorem dL_step_215 : decode cL_step 215 = .ok (.iconst 0, 1) := by decide +kernel
theorem dL_step_216 : decode cL_step 216 = .ok (.ireturn, 1) := by decide +kernel
theorem dL_step_217 : decode cL_step 217 = .ok (.iload_n 3, 1) := by decide +kernel
theorem dL_step_218 : decode cL_step 218 = .ok (.iload 5, 2) := by decide +kernel
theorem dL_step_220 : decode cL_step 220 = .ok (.irem, 1) := by decide +kernel
theorem dL_step_221 : decode cL_step 221 = .ok (.istore 6, 2) := by decide +kernel
theorem dL_step_223 : decode cL_step 223 = .ok (.iload_n 2, 1) := by decide +kernel
theorem dL_step_224 : decode cL_step 224 = .ok (.bipush 11, 2) := by decide +kernel
theorem dL_step_226 : decode cL_step 226 = .ok (.irem, 1) := by decide +kernel
theorem dL_step_227 : decode cL_step 227 = .ok (.iconst 1, 1) := by decide +kernel
theorem dL_step_228 : decode cL_step 228 = .ok (.if_icmp .ne 94, 3) := by decide +kernel
theorem dL_step_231 : decode cL_step 231 = .ok (.iload 4, 2) := by decide +kernel
theorem dL_step_233 : decode cL_step 233 = .ok (.iconst 5, 1) := by decide +kernel
theorem dL_step_234 : decode cL_step 234 = .ok (.irem, 1) := by decide +kernel
theorem dL_step_235 : decode cL_step 235 = .ok (.ifCond .ne 7, 3) := by decide +kernel
theorem dL_step_238 : decode cL_step 238 = .ok (.iconst (-1), 1) := by decide +kernel
theorem dL_step_239 : decode cL_step 239 = .ok (.goto 8, 3) := by decide +kernel
theorem dL_step_242 : decode cL_step 242 = .ok (.iload 4, 2) := by decide +kernel
theorem dL_step_244 : decode cL_step 244 = .ok (.iload 5, 2) := by decide +kernel
theorem dL_step_246 : decode cL_step 246 = .ok (.irem, 1) := by decide +kernel
theorem dL_step_247 : decode cL_step 247 = .ok (.istore 7, 2) := by decide +kernel
theorem dL_step_249 : decode cL_step 249 = .ok (.iload 7, 2) := by decide +kernel
theorem dL_step_251 : decode cL_step 251 = .ok (.istore 8, 2) := by decide +kernel
theorem dL_step_253 : decode cL_step 253 = .ok (.iload 8, 2) := by decide +kernel
theorem dL_step_255 : decode cL_step 255 = .ok (.iconst (-1), 1) := by decide +kernel
theorem dL_step_256 : decode cL_step 256 = .ok (.if_icmp .eq 35, 3) := by decide +kernel
theorem dL_step_259 : decode cL_step 259 = .ok (.iload 8, 2) := by decide +kernel
theorem dL_step_261 : decode cL_step 261 = .ok (.iload 6, 2) := by decide +kernel
theorem dL_step_263 : decode cL_step 263 = .ok (.if_icmp .ne 19, 3) := by decide +kernel
theorem dL_step_266 : decode cL_step 266 = .ok (.aload_n 0, 1) := by decide +kernel
theorem dL_step_267 : decode cL_step 267 = .ok (.iload 6, 2) := by decide +kernel
theorem dL_step_269 : decode cL_step 269 = .ok (.invokevirtual 36, 3) := by decide +kernel
theorem dL_step_272 : decode cL_step 272 = .ok (.iconst 1, 1) := by decide +kernel
theorem dL_step_273 : decode cL_step 273 = .ok (.if_icmp .lt 7, 3) := by decide +kernel
theorem dL_step_276 : decode cL_step 276 = .ok (.iconst 1, 1) := by decide +kernel
theorem dL_step_277 : decode cL_step 277 = .ok (.goto 4, 3) := by decide +kernel
theorem dL_step_280 : decode cL_step 280 = .ok (.iconst 0, 1) := by decide +kernel
theorem dL_step_281 : decode cL_step 281 = .ok (.ireturn, 1) := by decide +kernel
theorem dL_step_282 : decode cL_step 282 = .ok (.aload_n 1, 1) := by decide +kernel
theorem dL_step_283 : decode cL_step 283 = .ok (.iload 8, 2) := by decide +kernel
theorem dL_step_285 : decode cL_step 285 = .ok (.iaload, 1) := by decide +kernel
theorem dL_step_286 : decode cL_step 286 = .ok (.istore 8, 2) := by decide +kernel
theorem dL_step_288 : decode cL_step 288 = .ok (.goto (-35), 3) := by decide +kernel
theorem dL_step_291 : decode cL_step 291 = .ok (.aload_n 1, 1) := by decide +kernel
theorem dL_step_292 : decode cL_step 292 = .ok (.iload 6, 2) := by decide +kernel
theorem dL_step_294 : decode cL_step 294 = .ok (.iaload, 1) := by decide +kernel
theorem dL_step_295 : decode cL_step 295 = .ok (.istore 8, 2) := by decide +kernel
theorem dL_step_297 : decode cL_step 297 = .ok (.aload_n 1, 1) := by decide +kernel
theorem dL_step_298 : decode cL_step 298 = .ok (.iload 6, 2) := by decide +kernel
theorem dL_step_300 : decode cL_step 300 = .ok (.iload 7, 2) := by decide +kernel
theorem dL_step_302 : decode cL_step 302 = .ok (.iastore, 1) := by decide +kernel
theorem dL_step_303 : decode cL_step 303 = .ok (.aload_n 0, 1) := by decide +kernel
theorem dL_step_304 : decode cL_step 304 = .ok (.iload 6, 2) := by decide +kernel
theorem dL_step_306 : decode cL_step 306 = .ok (.iload 7, 2) := by decide +kernel
theorem dL_step_308 : decode cL_step 308 = .ok (.invokevirtual 39, 3) := by decide +kernel
theorem dL_step_311 : decode cL_step 311 = .ok (.iload 8, 2) := by decide +kernel
theorem dL_step_313 : decode cL_step 313 = .ok (.if_icmp .ne 7, 3) := by decide +kernel
theorem dL_step_316 : decode cL_step 316 = .ok (.iconst 1, 1) := by decide +kernel
theorem dL_step_317 : decode cL_step 317 = .ok (.goto 4, 3) := by decide +kernel
theorem dL_step_320 : decode cL_step 320 = .ok (.iconst 0, 1) := by decide +kernel
theorem dL_step_321 : decode cL_step 321 = .ok (.ireturn, 1) := by decide +kernel
theorem dL_step_322 : decode cL_step 322 = .ok (.iload_n 2, 1) := by decide +kernel
theorem dL_step_323 : decode cL_step 323 = .ok (.bipush 11, 2) := by decide +kernel
theorem dL_step_325 : decode cL_step 325 = .ok (.irem, 1) := by decide +kernel
theorem dL_step_326 : decode cL_step 326 = .ok (.iconst 2, 1) := by decide +kernel
theorem dL_step_327 : decode cL_step 327 = .ok (.if_icmp .ne 65, 3) := by decide +kernel
theorem dL_step_330 : decode cL_step 330 = .ok (.aload_n 0, 1) := by decide +kernel
theorem dL_step_331 : decode cL_step 331 = .ok (.invokevirtual 43, 3) := by decide +kernel
theorem dL_step_334 : decode cL_step 334 = .ok (.istore 7, 2) := by decide +kernel
theorem dL_step_336 : decode cL_step 336 = .ok (.aload_n 0, 1) := by decide +kernel
theorem dL_step_337 : decode cL_step 337 = .ok (.iconst 1, 1) := by decide +kernel
theorem dL_step_338 : decode cL_step 338 = .ok (.iload 4, 2) := by decide +kernel
theorem dL_step_340 : decode cL_step 340 = .ok (.iload 4, 2) := by decide +kernel
theorem dL_step_342 : decode cL_step 342 = .ok (.iconst 4, 1) := by decide +kernel
theorem dL_step_343 : decode cL_step 343 = .ok (.irem, 1) := by decide +kernel
theorem dL_step_344 : decode cL_step 344 = .ok (.ifCond .ne 9, 3) := by decide +kernel
theorem dL_step_347 : decode cL_step 347 = .ok (.sipush 999, 3) := by decide +kernel
theorem dL_step_350 : decode cL_step 350 = .ok (.goto 5, 3) := by decide +kernel
theorem dL_step_353 : decode cL_step 353 = .ok (.bipush 12, 2) := by decide +kernel
theorem dL_step_355 : decode cL_step 355 = .ok (.irem, 1) := by decide +kernel
theorem dL_step_356 : decode cL_step 356 = .ok (.iadd, 1) := by decide +kernel
theorem dL_step_357 : decode cL_step 357 = .ok (.invokevirtual 46, 3) := by decide +kernel
theorem dL_step_360 : decode cL_step 360 = .ok (.iload 7, 2) := by decide +kernel
theorem dL_step_362 : decode cL_step 362 = .ok (.iconst 1, 1) := by decide +kernel
theorem dL_step_363 : decode cL_step 363 = .ok (.iadd, 1) := by decide +kernel
theorem dL_step_364 : decode cL_step 364 = .ok (.iload 4, 2) := by decide +kernel
theorem dL_step_366 : decode cL_step 366 = .ok (.iload 4, 2) := by decide +kernel
theorem dL_step_368 : decode cL_step 368 = .ok (.iconst 4, 1) := by decide +kernel
theorem dL_step_369 : decode cL_step 369 = .ok (.irem, 1) := by decide +kernel
theorem dL_step_370 : decode cL_step 370 = .ok (.ifCond .ne 9, 3) := by decide +kernel
theorem dL_step_373 : decode cL_step 373 = .ok (.sipush 999, 3) := by decide +kernel
theorem dL_step_376 : decode cL_step 376 = .ok (.goto 5, 3) := by decide +kernel
theorem dL_step_379 : decode cL_step 379 = .ok (.bipush 12, 2) := by decide +kernel
theorem dL_step_381 : decode cL_step 381 = .ok (.irem, 1) := by decide +kernel
theorem dL_step_382 : decode cL_step 382 = .ok (.iadd, 1) := by decide +kernel
theorem dL_step_383 : decode cL_step 383 = .ok (.if_icmp .ne 7, 3) := by decide +kernel
theorem dL_step_386 : decode cL_step 386 = .ok (.iconst 1, 1) := by decide +kernel
theorem dL_step_387 : decode cL_step 387 = .ok (.goto 4, 3) := by decide +kernel
theorem dL_step_390 : decode cL_step 390 = .ok (.iconst 0, 1) := by decide +kernel
theorem dL_step_391 : decode cL_step 391 = .ok (.ireturn, 1) := by decide +kernel
theorem dL_step_392 : decode cL_step 392 = .ok (.iload_n 2, 1) := by decide +kernel
theorem dL_step_393 : decode cL_step 393 = .ok (.bipush 11, 2) := by decide +kernel
theorem dL_step_395 : decode cL_step 395 = .ok (.irem, 1) := by decide +kernel
theorem dL_step_396 : decode cL_step 396 = .ok (.bipush 7, 2) := by decide +kernel
theorem dL_step_398 : decode cL_step 398 = .ok (.if_icmp .ge 73, 3) := by decide +kernel
theorem dL_step_401 : decode cL_step 401 = .ok (.aload_n 1, 1) := by decide +kernel
theorem dL_step_402 : decode cL_step 402 = .ok (.iload 6, 2) := by decide +kernel
theorem dL_step_404 : decode cL_step 404 = .ok (.iaload, 1) := by decide +kernel
theorem dL_step_405 : decode cL_step 405 = .ok (.iconst (-1), 1) := by decide +kernel
theorem dL_step_406 : decode cL_step 406 = .ok (.if_icmp .eq 15, 3) := by decide +kernel
theorem dL_step_409 : decode cL_step 409 = .ok (.aload_n 0, 1) := by decide +kernel
theorem dL_step_410 : decode cL_step 410 = .ok (.aload_n 1, 1) := by decide +kernel
theorem dL_step_411 : decode cL_step 411 = .ok (.iload 6, 2) := by decide +kernel
theorem dL_step_413 : decode cL_step 413 = .ok (.iaload, 1) := by decide +kernel
theorem dL_step_414 : decode cL_step 414 = .ok (.invokevirtual 33, 3) := by decide +kernel
theorem dL_step_417 : decode cL_step 417 = .ok (.iconst (-1), 1) := by decide +kernel
theorem dL_step_418 : decode cL_step 418 = .ok (.if_icmp .ne 47, 3) := by decide +kernel
theorem dL_step_421 : decode cL_step 421 = .ok (.aload_n 0, 1) := by decide +kernel
theorem dL_step_422 : decode cL_step 422 = .ok (.aload_n 1, 1) := by decide +kernel
theorem dL_step_423 : decode cL_step 423 = .ok (.iload 6, 2) := by decide +kernel
theorem dL_step_425 : decode cL_step 425 = .ok (.iload_n 3, 1) := by decide +kernel
theorem dL_step_426 : decode cL_step 426 = .ok (.bipush 12, 2) := by decide +kernel
theorem dL_step_428 : decode cL_step 428 = .ok (.idiv, 1) := by decide +kernel
theorem dL_step_429 : decode cL_step 429 = .ok (.iconst 2, 1) := by decide +kernel
theorem dL_step_430 : decode cL_step 430 = .ok (.aload_n 1, 1) := by decide +kernel
theorem dL_step_431 : decode cL_step 431 = .ok (.bipush 12, 2) := by decide +kernel
theorem dL_step_433 : decode cL_step 433 = .ok (.iload 6, 2) := by decide +kernel
theorem dL_step_435 : decode cL_step 435 = .ok (.iadd, 1) := by decide +kernel
theorem dL_step_436 : decode cL_step 436 = .ok (.iaload, 1) := by decide +kernel
theorem dL_step_437 : decode cL_step 437 = .ok (.imul, 1) := by decide +kernel
theorem dL_step_438 : decode cL_step 438 = .ok (.iconst 3, 1) := by decide +kernel
theorem dL_step_439 : decode cL_step 439 = .ok (.iadd, 1) := by decide +kernel
theorem dL_step_440 : decode cL_step 440 = .ok (.irem, 1) := by decide +kernel
theorem dL_step_441 : decode cL_step 441 = .ok (.aload_n 1, 1) := by decide +kernel
theorem dL_step_442 : decode cL_step 442 = .ok (.bipush 12, 2) := by decide +kernel
theorem dL_step_444 : decode cL_step 444 = .ok (.iload 6, 2) := by decide +kernel
theorem dL_step_446 : decode cL_step 446 = .ok (.iadd, 1) := by decide +kernel
theorem dL_step_447 : decode cL_step 447 = .ok (.iaload, 1) := by decide +kernel
theorem dL_step_448 : decode cL_step 448 = .ok (.isub, 1) := by decide +kernel
theorem dL_step_449 : decode cL_step 449 = .ok (.iconst 1, 1) := by decide +kernel
theorem dL_step_450 : decode cL_step 450 = .ok (.isub, 1) := by decide +kernel
theorem dL_step_451 : decode cL_step 451 = .ok (.iload 4, 2) := by decide +kernel
theorem dL_step_453 : decode cL_step 453 = .ok (.bipush 50, 2) := by decide +kernel
theorem dL_step_455 : decode cL_step 455 = .ok (.irem, 1) := by decide +kernel
theorem dL_step_456 : decode cL_step 456 = .ok (.bipush 25, 2) := by decide +kernel
theorem dL_step_458 : decode cL_step 458 = .ok (.isub, 1) := by decide +kernel
theorem dL_step_459 : decode cL_step 459 = .ok (.invokestatic 49, 3) := by decide +kernel
theorem dL_step_462 : decode cL_step 462 = .ok (.ifCond .eq 7, 3) := by decide +kernel
theorem dL_step_465 : decode cL_step 465 = .ok (.iconst 1, 1) := by decide +kernel
theorem dL_step_466 : decode cL_step 466 = .ok (.goto 4, 3) := by decide +kernel
theorem dL_step_469 : decode cL_step 469 = .ok (.iconst 0, 1) := by decide +kernel
theorem dL_step_470 : decode cL_step 470 = .ok (.ireturn, 1) := by decide +kernel
theorem dL_step_471 : decode cL_step 471 = .ok (.aload_n 0, 1) := by decide +kernel
theorem dL_step_472 : decode cL_step 472 = .ok (.iload 6, 2) := by decide +kernel
theorem dL_step_474 : decode cL_step 474 = .ok (.invokevirtual 33, 3) := by decide +kernel
theorem dL_step_477 : decode cL_step 477 = .ok (.iconst (-1), 1) := by decide +kernel
theorem dL_step_478 : decode cL_step 478 = .ok (.if_icmp .ne 13, 3) := by decide +kernel
theorem dL_step_481 : decode cL_step 481 = .ok (.aload_n 0, 1) := by decide +kernel
theorem dL_step_482 : decode cL_step 482 = .ok (.invokevirtual 53, 3) := by decide +kernel
theorem dL_step_485 : decode cL_step 485 = .ok (.sipush 200, 3) := by decide +kernel
theorem dL_step_488 : decode cL_step 488 = .ok (.if_icmp .ne 19, 3) := by decide +kernel
theorem dL_step_491 : decode cL_step 491 = .ok (.aload_n 0, 1) := by decide +kernel
theorem dL_step_492 : decode cL_step 492 = .ok (.invokevirtual 53, 3) := by decide +kernel
theorem dL_step_495 : decode cL_step 495 = .ok (.sipush 200, 3) := by decide +kernel
theorem dL_step_498 : decode cL_step 498 = .ok (.if_icmp .gt 7, 3) := by decide +kernel
theorem dL_step_501 : decode cL_step 501 = .ok (.iconst 1, 1) := by decide +kernel
theorem dL_step_502 : decode cL_step 502 = .ok (.goto 4, 3) := by decide +kernel
theorem dL_step_505 : decode cL_step 505 = .ok (.iconst 0, 1) := by decide +kernel
theorem dL_step_506 : decode cL_step 506 = .ok (.ireturn, 1) := by decide +kernel
theorem dL_step_507 : decode cL_step 507 = .ok (.aload_n 0, 1) := by decide +kernel
theorem dL_step_508 : decode cL_step 508 = .ok (.invokevirtual 53, 3) := by decide +kernel
theorem dL_step_511 : decode cL_step 511 = .ok (.istore 7, 2) := by decide +kernel
theorem dL_step_513 : decode cL_step 513 = .ok (.aload_n 0, 1) := by decide +kernel
theorem dL_step_514 : decode cL_step 514 = .ok (.iload 6, 2) := by decide +kernel
theorem dL_step_516 : decode cL_step 516 = .ok (.invokevirtual 56, 3) := by decide +kernel
theorem dL_step_519 : decode cL_step 519 = .ok (.istore 8, 2) := by decide +kernel
theorem dL_step_521 : decode cL_step 521 = .ok (.aload_n 0, 1) := by decide +kernel
theorem dL_step_522 : decode cL_step 522 = .ok (.iload 6, 2) := by decide +kernel
theorem dL_step_524 : decode cL_step 524 = .ok (.invokevirtual 59, 3) := by decide +kernel
theorem dL_step_527 : decode cL_step 527 = .ok (.iload 7, 2) := by decide +kernel
theorem dL_step_529 : decode cL_step 529 = .ok (.if_icmp .ne 29, 3) := by decide +kernel
theorem dL_step_532 : decode cL_step 532 = .ok (.aload_n 0, 1) := by decide +kernel
theorem dL_step_533 : decode cL_step 533 = .ok (.iload 7, 2) := by decide +kernel
theorem dL_step_535 : decode cL_step 535 = .ok (.invokevirtual 62, 3) := by decide +kernel
theorem dL_step_538 : decode cL_step 538 = .ok (.ifCond .ne 20, 3) := by decide +kernel
theorem dL_step_541 : decode cL_step 541 = .ok (.aload_n 0, 1) := by decide +kernel
theorem dL_step_542 : decode cL_step 542 = .ok (.iload 6, 2) := by decide +kernel
theorem dL_step_544 : decode cL_step 544 = .ok (.invokevirtual 56, 3) := by decide +kernel
theorem dL_step_547 : decode cL_step 547 = .ok (.iload 8, 2) := by decide +kernel
theorem dL_step_549 : decode cL_step 549 = .ok (.iconst 1, 1) := by decide +kernel
theorem dL_step_550 : decode cL_step 550 = .ok (.iadd, 1) := by decide +kernel
theorem dL_step_551 : decode cL_step 551 = .ok (.if_icmp .ne 7, 3) := by decide +kernel
theorem dL_step_554 : decode cL_step 554 = .ok (.iconst 1, 1) := by decide +kernel
theorem dL_step_555 : decode cL_step 555 = .ok (.goto 4, 3) := by decide +kernel
theorem dL_step_558 : decode cL_step 558 = .ok (.iconst 0, 1) := by decide +kernel
theorem dL_step_559 : decode cL_step 559 = .ok (.ireturn, 1) := by decide +kernel
theorem dL_calibrates_0 : decode cL_calibrates 0 = .ok (.aload_n 0, 1) := by decide +kernel
theorem dL_calibrates_1 : decode cL_calibrates 1 = .ok (.iload_n 2, 1) := by decide +kernel
theorem dL_calibrates_2 : decode cL_calibrates 2 = .ok (.invokevirtual 22, 3) := by decide +kernel
theorem dL_calibrates_5 : decode cL_calibrates 5 = .ok (.iconst (-1), 1) := by decide +kernel
theorem dL_calibrates_6 : decode cL_calibrates 6 = .ok (.if_icmp .eq 7, 3) := by decide +kernel
theorem dL_calibrates_9 : decode cL_calibrates 9 = .ok (.iconst 1, 1) := by decide +kernel
theorem dL_calibrates_10 : decode cL_calibrates 10 = .ok (.goto 4, 3) := by decide +kernel
theorem dL_calibrates_13 : decode cL_calibrates 13 = .ok (.iconst 0, 1) := by decide +kernel
theorem dL_calibrates_14 : decode cL_calibrates 14 = .ok (.istore 5, 2) := by decide +kernel
theorem dL_calibrates_16 : decode cL_calibrates 16 = .ok (.aload_n 0, 1) := by decide +kernel
theorem dL_calibrates_17 : decode cL_calibrates 17 = .ok (.iload_n 2, 1) := by decide +kernel
theorem dL_calibrates_18 : decode cL_calibrates 18 = .ok (.invokevirtual 56, 3) := by decide +kernel
theorem dL_calibrates_21 : decode cL_calibrates 21 = .ok (.istore 6, 2) := by decide +kernel
theorem dL_calibrates_23 : decode cL_calibrates 23 = .ok (.aload_n 0, 1) := by decide +kernel
theorem dL_calibrates_24 : decode cL_calibrates 24 = .ok (.invokevirtual 65, 3) := by decide +kernel
theorem dL_calibrates_27 : decode cL_calibrates 27 = .ok (.istore 7, 2) := by decide +kernel
theorem dL_calibrates_29 : decode cL_calibrates 29 = .ok (.aload_n 0, 1) := by decide +kernel
theorem dL_calibrates_30 : decode cL_calibrates 30 = .ok (.iload_n 2, 1) := by decide +kernel
theorem dL_calibrates_31 : decode cL_calibrates 31 = .ok (.invokevirtual 30, 3) := by decide +kernel
theorem dL_calibrates_34 : decode cL_calibrates 34 = .ok (.istore 8, 2) := by decide +kernel
theorem dL_calibrates_36 : decode cL_calibrates 36 = .ok (.aload_n 0, 1) := by decide +kernel
theorem dL_calibrates_37 : decode cL_calibrates 37 = .ok (.iload_n 2, 1) := by decide +kernel
theorem dL_calibrates_38 : decode cL_calibrates 38 = .ok (.invokevirtual 68, 3) := by decide +kernel
theorem dL_calibrates_41 : decode cL_calibrates 41 = .ok (.istore 9, 2) := by decide +kernel
theorem dL_calibrates_43 : decode cL_calibrates 43 = .ok (.iload_n 3, 1) := by decide +kernel
theorem dL_calibrates_44 : decode cL_calibrates 44 = .ok (.ifCond .ge 8, 3) := by decide +kernel
theorem dL_calibrates_47 : decode cL_calibrates 47 = .ok (.iload_n 3, 1) := by decide +kernel
theorem dL_calibrates_48 : decode cL_calibrates 48 = .ok (.ineg, 1) := by decide +kernel
theorem dL_calibrates_49 : decode cL_calibrates 49 = .ok (.goto 4, 3) := by decide +kernel
theorem dL_calibrates_52 : decode cL_calibrates 52 = .ok (.iload_n 3, 1) := by decide +kernel
theorem dL_calibrates_53 : decode cL_calibrates 53 = .ok (.istore 10, 2) := by decide +kernel
theorem dL_calibrates_55 : decode cL_calibrates 55 = .ok (.iload 5, 2) := by decide +kernel
theorem dL_calibrates_57 : decode cL_calibrates 57 = .ok (.ifCond .eq 18, 3) := by decide +kernel
theorem dL_calibrates_60 : decode cL_calibrates 60 = .ok (.iload 10, 2) := by decide +kernel
theorem dL_calibrates_62 : decode cL_calibrates 62 = .ok (.aload_n 1, 1) := by decide +kernel
theorem dL_calibrates_63 : decode cL_calibrates 63 = .ok (.bipush 12, 2) := by decide +kernel
theorem dL_calibrates_65 : decode cL_calibrates 65 = .ok (.iload_n 2, 1) := by decide +kernel
theorem dL_calibrates_66 : decode cL_calibrates 66 = .ok (.iadd, 1) := by decide +kernel
theorem dL_calibrates_67 : decode cL_calibrates 67 = .ok (.iaload, 1) := by decide +kernel
theorem dL_calibrates_68 : decode cL_calibrates 68 = .ok (.if_icmp .le 7, 3) := by decide +kernel
theorem dL_calibrates_71 : decode cL_calibrates 71 = .ok (.iconst 1, 1) := by decide +kernel
theorem dL_calibrates_72 : decode cL_calibrates 72 = .ok (.goto 4, 3) := by decide +kernel
theorem dL_calibrates_75 : decode cL_calibrates 75 = .ok (.iconst 0, 1) := by decide +kernel
theorem dL_calibrates_76 : decode cL_calibrates 76 = .ok (.istore 11, 2) := by decide +kernel
theorem dL_calibrates_78 : decode cL_calibrates 78 = .ok (.iload 9, 2) := by decide +kernel
theorem dL_calibrates_80 : decode cL_calibrates 80 = .ok (.iload 9, 2) := by decide +kernel
theorem dL_calibrates_82 : decode cL_calibrates 82 = .ok (.iconst 4, 1) := by decide +kernel
theorem dL_calibrates_83 : decode cL_calibrates 83 = .ok (.idiv, 1) := by decide +kernel
theorem dL_calibrates_84 : decode cL_calibrates 84 = .ok (.iadd, 1) := by decide +kernel
theorem dL_calibrates_85 : decode cL_calibrates 85 = .ok (.sipush 999, 3) := by decide +kernel
theorem dL_calibrates_88 : decode cL_calibrates 88 = .ok (.if_icmp .le 9, 3) := by decide +kernel
theorem dL_calibrates_91 : decode cL_calibrates 91 = .ok (.sipush 999, 3) := by decide +kernel
theorem dL_calibrates_94 : decode cL_calibrates 94 = .ok (.goto 10, 3) := by decide +kernel
theorem dL_calibrates_97 : decode cL_calibrates 97 = .ok (.iload 9, 2) := by decide +kernel
theorem dL_calibrates_99 : decode cL_calibrates 99 = .ok (.iload 9, 2) := by decide +kernel
theorem dL_calibrates_101 : decode cL_calibrates 101 = .ok (.iconst 4, 1) := by decide +kernel
theorem dL_calibrates_102 : decode cL_calibrates 102 = .ok (.idiv, 1) := by decide +kernel
theorem dL_calibrates_103 : decode cL_calibrates 103 = .ok (.iadd, 1) := by decide +kernel
theorem dL_calibrates_104 : decode cL_calibrates 104 = .ok (.istore 12, 2) := by decide +kernel
theorem dL_calibrates_106 : decode cL_calibrates 106 = .ok (.iload 9, 2) := by decide +kernel
theorem dL_calibrates_108 : decode cL_calibrates 108 = .ok (.iconst 2, 1) := by decide +kernel
theorem dL_calibrates_109 : decode cL_calibrates 109 = .ok (.idiv, 1) := by decide +kernel
theorem dL_calibrates_110 : decode cL_calibrates 110 = .ok (.ifCond .ne 7, 3) := by decide +kernel
theorem dL_calibrates_113 : decode cL_calibrates 113 = .ok (.iconst 1, 1) := by decide +kernel
theorem dL_calibrates_114 : decode cL_calibrates 114 = .ok (.goto 7, 3) := by decide +kernel
theorem dL_calibrates_117 : decode cL_calibrates 117 = .ok (.iload 9, 2) := by decide +kernel
theorem dL_calibrates_119 : decode cL_calibrates 119 = .ok (.iconst 2, 1) := by decide +kernel
theorem dL_calibrates_120 : decode cL_calibrates 120 = .ok (.idiv, 1) := by decide +kernel
theorem dL_calibrates_121 : decode cL_calibrates 121 = .ok (.istore 13, 2) := by decide +kernel
theorem dL_calibrates_123 : decode cL_calibrates 123 = .ok (.iload 11, 2) := by decide +kernel
theorem dL_calibrates_125 : decode cL_calibrates 125 = .ok (.ifCond .eq 8, 3) := by decide +kernel
theorem dL_calibrates_128 : decode cL_calibrates 128 = .ok (.iload 13, 2) := by decide +kernel
theorem dL_calibrates_130 : decode cL_calibrates 130 = .ok (.goto 28, 3) := by decide +kernel
theorem dL_calibrates_133 : decode cL_calibrates 133 = .ok (.iload 5, 2) := by decide +kernel
theorem dL_calibrates_135 : decode cL_calibrates 135 = .ok (.ifCond .eq 21, 3) := by decide +kernel
theorem dL_calibrates_138 : decode cL_calibrates 138 = .ok (.iconst 2, 1) := by decide +kernel
theorem dL_calibrates_139 : decode cL_calibrates 139 = .ok (.iload 10, 2) := by decide +kernel
theorem dL_calibrates_141 : decode cL_calibrates 141 = .ok (.imul, 1) := by decide +kernel
theorem dL_calibrates_142 : decode cL_calibrates 142 = .ok (.aload_n 1, 1) := by decide +kernel
theorem dL_calibrates_143 : decode cL_calibrates 143 = .ok (.bipush 12, 2) := by decide +kernel
theorem dL_calibrates_145 : decode cL_calibrates 145 = .ok (.iload_n 2, 1) := by decide +kernel
theorem dL_calibrates_146 : decode cL_calibrates 146 = .ok (.iadd, 1) := by decide +kernel
theorem dL_calibrates_147 : decode cL_calibrates 147 = .ok (.iaload, 1) := by decide +kernel
theorem dL_calibrates_148 : decode cL_calibrates 148 = .ok (.if_icmp .gt 8, 3) := by decide +kernel
theorem dL_calibrates_151 : decode cL_calibrates 151 = .ok (.iload 12, 2) := by decide +kernel
theorem dL_calibrates_153 : decode cL_calibrates 153 = .ok (.goto 5, 3) := by decide +kernel
theorem dL_calibrates_156 : decode cL_calibrates 156 = .ok (.iload 9, 2) := by decide +kernel
theorem dL_calibrates_158 : decode cL_calibrates 158 = .ok (.istore 14, 2) := by decide +kernel
theorem dL_calibrates_160 : decode cL_calibrates 160 = .ok (.aload_n 0, 1) := by decide +kernel
theorem dL_calibrates_161 : decode cL_calibrates 161 = .ok (.iload_n 2, 1) := by decide +kernel
theorem dL_calibrates_162 : decode cL_calibrates 162 = .ok (.iload_n 3, 1) := by decide +kernel
theorem dL_calibrates_163 : decode cL_calibrates 163 = .ok (.iload 4, 2) := by decide +kernel
theorem dL_calibrates_165 : decode cL_calibrates 165 = .ok (.invokevirtual 71, 3) := by decide +kernel
theorem dL_calibrates_168 : decode cL_calibrates 168 = .ok (.istore 15, 2) := by decide +kernel
theorem dL_calibrates_170 : decode cL_calibrates 170 = .ok (.iload 15, 2) := by decide +kernel
theorem dL_calibrates_172 : decode cL_calibrates 172 = .ok (.iload 11, 2) := by decide +kernel
theorem dL_calibrates_174 : decode cL_calibrates 174 = .ok (.ifCond .eq 8, 3) := by decide +kernel
theorem dL_calibrates_177 : decode cL_calibrates 177 = .ok (.iload 6, 2) := by decide +kernel
theorem dL_calibrates_179 : decode cL_calibrates 179 = .ok (.goto 4, 3) := by decide +kernel
theorem dL_calibrates_182 : decode cL_calibrates 182 = .ok (.iconst 0, 1) := by decide +kernel
theorem dL_calibrates_183 : decode cL_calibrates 183 = .ok (.if_icmp .ne 73, 3) := by decide +kernel
theorem dL_calibrates_186 : decode cL_calibrates 186 = .ok (.aload_n 0, 1) := by decide +kernel
theorem dL_calibrates_187 : decode cL_calibrates 187 = .ok (.invokevirtual 65, 3) := by decide +kernel
theorem dL_calibrates_190 : decode cL_calibrates 190 = .ok (.iload 7, 2) := by decide +kernel
theorem dL_calibrates_192 : decode cL_calibrates 192 = .ok (.iload 15, 2) := by decide +kernel
theorem dL_calibrates_194 : decode cL_calibrates 194 = .ok (.iadd, 1) := by decide +kernel
theorem dL_calibrates_195 : decode cL_calibrates 195 = .ok (.if_icmp .ne 61, 3) := by decide +kernel
theorem dL_calibrates_198 : decode cL_calibrates 198 = .ok (.aload_n 0, 1) := by decide +kernel
theorem dL_calibrates_199 : decode cL_calibrates 199 = .ok (.iload_n 2, 1) := by decide +kernel
theorem dL_calibrates_200 : decode cL_calibrates 200 = .ok (.invokevirtual 30, 3) := by decide +kernel
theorem dL_calibrates_203 : decode cL_calibrates 203 = .ok (.iload 8, 2) := by decide +kernel
theorem dL_calibrates_205 : decode cL_calibrates 205 = .ok (.iload 11, 2) := by decide +kernel
theorem dL_calibrates_207 : decode cL_calibrates 207 = .ok (.ifCond .eq 7, 3) := by decide +kernel
theorem dL_calibrates_210 : decode cL_calibrates 210 = .ok (.iconst 1, 1) := by decide +kernel
theorem dL_calibrates_211 : decode cL_calibrates 211 = .ok (.goto 4, 3) := by decide +kernel
theorem dL_calibrates_214 : decode cL_calibrates 214 = .ok (.iconst 0, 1) := by decide +kernel
theorem dL_calibrates_215 : decode cL_calibrates 215 = .ok (.iadd, 1) := by decide +kernel
theorem dL_calibrates_216 : decode cL_calibrates 216 = .ok (.if_icmp .ne 40, 3) := by decide +kernel
theorem dL_calibrates_219 : decode cL_calibrates 219 = .ok (.aload_n 0, 1) := by decide +kernel
theorem dL_calibrates_220 : decode cL_calibrates 220 = .ok (.iload_n 2, 1) := by decide +kernel
theorem dL_calibrates_221 : decode cL_calibrates 221 = .ok (.invokevirtual 68, 3) := by decide +kernel
theorem dL_calibrates_224 : decode cL_calibrates 224 = .ok (.iload 14, 2) := by decide +kernel
theorem dL_calibrates_226 : decode cL_calibrates 226 = .ok (.if_icmp .ne 30, 3) := by decide +kernel
theorem dL_calibrates_229 : decode cL_calibrates 229 = .ok (.aload_n 0, 1) := by decide +kernel
theorem dL_calibrates_230 : decode cL_calibrates 230 = .ok (.iload_n 2, 1) := by decide +kernel
theorem dL_calibrates_231 : decode cL_calibrates 231 = .ok (.invokevirtual 22, 3) := by decide +kernel
theorem dL_calibrates_234 : decode cL_calibrates 234 = .ok (.aload_n 0, 1) := by decide +kernel
theorem dL_calibrates_235 : decode cL_calibrates 235 = .ok (.invokevirtual 43, 3) := by decide +kernel
theorem dL_calibrates_238 : decode cL_calibrates 238 = .ok (.iload 14, 2) := by decide +kernel
theorem dL_calibrates_240 : decode cL_calibrates 240 = .ok (.iadd, 1) := by decide +kernel
theorem dL_calibrates_241 : decode cL_calibrates 241 = .ok (.if_icmp .ne 15, 3) := by decide +kernel
theorem dL_calibrates_244 : decode cL_calibrates 244 = .ok (.aload_n 0, 1) := by decide +kernel
theorem dL_calibrates_245 : decode cL_calibrates 245 = .ok (.iload_n 2, 1) := by decide +kernel
theorem dL_calibrates_246 : decode cL_calibrates 246 = .ok (.invokevirtual 26, 3) := by decide +kernel
theorem dL_calibrates_249 : decode cL_calibrates 249 = .ok (.ifCond .ne 7, 3) := by decide +kernel
theorem dL_calibrates_252 : decode cL_calibrates 252 = .ok (.iconst 1, 1) := by decide +kernel
theorem dL_calibrates_253 : decode cL_calibrates 253 = .ok (.goto 4, 3) := by decide +kernel
theorem dL_calibrates_256 : decode cL_calibrates 256 = .ok (.iconst 0, 1) := by decide +kernel
theorem dL_calibrates_257 : decode cL_calibrates 257 = .ok (.istore 16, 2) := by decide +kernel
theorem dL_calibrates_259 : decode cL_calibrates 259 = .ok (.iload 16, 2) := by decide +kernel
theorem dL_calibrates_261 : decode cL_calibrates 261 = .ok (.ifCond .eq 68, 3) := by decide +kernel
theorem dL_calibrates_264 : decode cL_calibrates 264 = .ok (.aload_n 0, 1) := by decide +kernel
theorem dL_calibrates_265 : decode cL_calibrates 265 = .ok (.iload_n 2, 1) := by decide +kernel
theorem dL_calibrates_266 : decode cL_calibrates 266 = .ok (.invokevirtual 56, 3) := by decide +kernel
theorem dL_calibrates_269 : decode cL_calibrates 269 = .ok (.ifCond .ne 60, 3) := by decide +kernel
theorem dL_calibrates_272 : decode cL_calibrates 272 = .ok (.aload_n 0, 1) := by decide +kernel
theorem dL_calibrates_273 : decode cL_calibrates 273 = .ok (.iload_n 2, 1) := by decide +kernel
theorem dL_calibrates_274 : decode cL_calibrates 274 = .ok (.iconst 0, 1) := by decide +kernel
theorem dL_calibrates_275 : decode cL_calibrates 275 = .ok (.invokevirtual 75, 3) := by decide +kernel
theorem dL_calibrates_278 : decode cL_calibrates 278 = .ok (.iload 4, 2) := by decide +kernel
theorem dL_calibrates_280 : decode cL_calibrates 280 = .ok (.i2l, 1) := by decide +kernel
theorem dL_calibrates_281 : decode cL_calibrates 281 = .ok (.lcmp, 1) := by decide +kernel
theorem dL_calibrates_282 : decode cL_calibrates 282 = .ok (.ifCond .ne 47, 3) := by decide +kernel
theorem dL_calibrates_285 : decode cL_calibrates 285 = .ok (.aload_n 0, 1) := by decide +kernel
theorem dL_calibrates_286 : decode cL_calibrates 286 = .ok (.iload_n 2, 1) := by decide +kernel
theorem dL_calibrates_287 : decode cL_calibrates 287 = .ok (.invokevirtual 33, 3) := by decide +kernel
theorem dL_calibrates_290 : decode cL_calibrates 290 = .ok (.iconst (-1), 1) := by decide +kernel
theorem dL_calibrates_291 : decode cL_calibrates 291 = .ok (.if_icmp .ne 7, 3) := by decide +kernel
theorem dL_calibrates_294 : decode cL_calibrates 294 = .ok (.iconst 1, 1) := by decide +kernel
theorem dL_calibrates_295 : decode cL_calibrates 295 = .ok (.goto 4, 3) := by decide +kernel
theorem dL_calibrates_298 : decode cL_calibrates 298 = .ok (.iconst 0, 1) := by decide +kernel
theorem dL_calibrates_299 : decode cL_calibrates 299 = .ok (.aload_n 1, 1) := by decide +kernel
theorem dL_calibrates_300 : decode cL_calibrates 300 = .ok (.iload_n 2, 1) := by decide +kernel
theorem dL_calibrates_301 : decode cL_calibrates 301 = .ok (.iaload, 1) := by decide +kernel
theorem dL_calibrates_302 : decode cL_calibrates 302 = .ok (.iconst (-1), 1) := by decide +kernel
theorem dL_calibrates_303 : decode cL_calibrates 303 = .ok (.if_icmp .eq 14, 3) := by decide +kernel
theorem dL_calibrates_306 : decode cL_calibrates 306 = .ok (.aload_n 0, 1) := by decide +kernel
theorem dL_calibrates_307 : decode cL_calibrates 307 = .ok (.aload_n 1, 1) := by decide +kernel
theorem dL_calibrates_308 : decode cL_calibrates 308 = .ok (.iload_n 2, 1) := by decide +kernel
theorem dL_calibrates_309 : decode cL_calibrates 309 = .ok (.iaload, 1) := by decide +kernel
theorem dL_calibrates_310 : decode cL_calibrates 310 = .ok (.invokevirtual 33, 3) := by decide +kernel
theorem dL_calibrates_313 : decode cL_calibrates 313 = .ok (.iconst (-1), 1) := by decide +kernel
theorem dL_calibrates_314 : decode cL_calibrates 314 = .ok (.if_icmp .ne 7, 3) := by decide +kernel
theorem dL_calibrates_317 : decode cL_calibrates 317 = .ok (.iconst 1, 1) := by decide +kernel
theorem dL_calibrates_318 : decode cL_calibrates 318 = .ok (.goto 4, 3) := by decide +kernel
theorem dL_calibrates_321 : decode cL_calibrates 321 = .ok (.iconst 0, 1) := by decide +kernel
theorem dL_calibrates_322 : decode cL_calibrates 322 = .ok (.if_icmp .ne 7, 3) := by decide +kernel
theorem dL_calibrates_325 : decode cL_calibrates 325 = .ok (.iconst 1, 1) := by decide +kernel
theorem dL_calibrates_326 : decode cL_calibrates 326 = .ok (.goto 4, 3) := by decide +kernel
theorem dL_calibrates_329 : decode cL_calibrates 329 = .ok (.iconst 0, 1) := by decide +kernel
theorem dL_calibrates_330 : decode cL_calibrates 330 = .ok (.ireturn, 1) := by decide +kernel
theorem dL_isInstrument_0 : decode cL_isInstrument 0 = .ok (.iconst 0, 1) := by decide +kernel
theorem dL_isInstrument_1 : decode cL_isInstrument 1 = .ok (.istore_n 3, 1) := by decide +kernel
theorem dL_isInstrument_2 : decode cL_isInstrument 2 = .ok (.iconst (-1), 1) := by decide +kernel
theorem dL_isInstrument_3 : decode cL_isInstrument 3 = .ok (.istore 4, 2) := by decide +kernel
theorem dL_isInstrument_5 : decode cL_isInstrument 5 = .ok (.iload_n 2, 1) := by decide +kernel
theorem dL_isInstrument_6 : decode cL_isInstrument 6 = .ok (.istore 5, 2) := by decide +kernel
theorem dL_isInstrument_8 : decode cL_isInstrument 8 = .ok (.iload 5, 2) := by decide +kernel
theorem dL_isInstrument_10 : decode cL_isInstrument 10 = .ok (.iconst (-1), 1) := by decide +kernel
theorem dL_isInstrument_11 : decode cL_isInstrument 11 = .ok (.if_icmp .eq 74, 3) := by decide +kernel
theorem dL_isInstrument_14 : decode cL_isInstrument 14 = .ok (.iinc 3 1, 3) := by decide +kernel
theorem dL_isInstrument_17 : decode cL_isInstrument 17 = .ok (.aload_n 0, 1) := by decide +kernel
theorem dL_isInstrument_18 : decode cL_isInstrument 18 = .ok (.iload 5, 2) := by decide +kernel
theorem dL_isInstrument_20 : decode cL_isInstrument 20 = .ok (.invokevirtual 22, 3) := by decide +kernel
theorem dL_isInstrument_23 : decode cL_isInstrument 23 = .ok (.iconst (-1), 1) := by decide +kernel
theorem dL_isInstrument_24 : decode cL_isInstrument 24 = .ok (.if_icmp .eq 29, 3) := by decide +kernel
theorem dL_isInstrument_27 : decode cL_isInstrument 27 = .ok (.aload_n 0, 1) := by decide +kernel
theorem dL_isInstrument_28 : decode cL_isInstrument 28 = .ok (.invokevirtual 43, 3) := by decide +kernel
theorem dL_isInstrument_31 : decode cL_isInstrument 31 = .ok (.aload_n 0, 1) := by decide +kernel
theorem dL_isInstrument_32 : decode cL_isInstrument 32 = .ok (.iload 5, 2) := by decide +kernel
theorem dL_isInstrument_34 : decode cL_isInstrument 34 = .ok (.invokevirtual 22, 3) := by decide +kernel
theorem dL_isInstrument_37 : decode cL_isInstrument 37 = .ok (.if_icmp .gt 16, 3) := by decide +kernel
theorem dL_isInstrument_40 : decode cL_isInstrument 40 = .ok (.aload_n 0, 1) := by decide +kernel
theorem dL_isInstrument_41 : decode cL_isInstrument 41 = .ok (.iload 5, 2) := by decide +kernel
theorem dL_isInstrument_43 : decode cL_isInstrument 43 = .ok (.invokevirtual 26, 3) := by decide +kernel
theorem dL_isInstrument_46 : decode cL_isInstrument 46 = .ok (.ifCond .ne 7, 3) := by decide +kernel
theorem dL_isInstrument_49 : decode cL_isInstrument 49 = .ok (.iconst 1, 1) := by decide +kernel
theorem dL_isInstrument_50 : decode cL_isInstrument 50 = .ok (.goto 4, 3) := by decide +kernel
theorem dL_isInstrument_53 : decode cL_isInstrument 53 = .ok (.iconst 0, 1) := by decide +kernel
theorem dL_isInstrument_54 : decode cL_isInstrument 54 = .ok (.istore 6, 2) := by decide +kernel
theorem dL_isInstrument_56 : decode cL_isInstrument 56 = .ok (.iload 4, 2) := by decide +kernel
theorem dL_isInstrument_58 : decode cL_isInstrument 58 = .ok (.iconst (-1), 1) := by decide +kernel
theorem dL_isInstrument_59 : decode cL_isInstrument 59 = .ok (.if_icmp .ne 13, 3) := by decide +kernel
theorem dL_isInstrument_62 : decode cL_isInstrument 62 = .ok (.iload 6, 2) := by decide +kernel
theorem dL_isInstrument_64 : decode cL_isInstrument 64 = .ok (.ifCond .ne 8, 3) := by decide +kernel
theorem dL_isInstrument_67 : decode cL_isInstrument 67 = .ok (.iload 5, 2) := by decide +kernel
theorem dL_isInstrument_69 : decode cL_isInstrument 69 = .ok (.goto 5, 3) := by decide +kernel
theorem dL_isInstrument_72 : decode cL_isInstrument 72 = .ok (.iload 4, 2) := by decide +kernel
theorem dL_isInstrument_74 : decode cL_isInstrument 74 = .ok (.istore 4, 2) := by decide +kernel
theorem dL_isInstrument_76 : decode cL_isInstrument 76 = .ok (.aload_n 1, 1) := by decide +kernel
theorem dL_isInstrument_77 : decode cL_isInstrument 77 = .ok (.iload 5, 2) := by decide +kernel
theorem dL_isInstrument_79 : decode cL_isInstrument 79 = .ok (.iaload, 1) := by decide +kernel
theorem dL_isInstrument_80 : decode cL_isInstrument 80 = .ok (.istore 5, 2) := by decide +kernel
theorem dL_isInstrument_82 : decode cL_isInstrument 82 = .ok (.goto (-74), 3) := by decide +kernel
theorem dL_isInstrument_85 : decode cL_isInstrument 85 = .ok (.aload_n 0, 1) := by decide +kernel
theorem dL_isInstrument_86 : decode cL_isInstrument 86 = .ok (.iload_n 2, 1) := by decide +kernel
theorem dL_isInstrument_87 : decode cL_isInstrument 87 = .ok (.invokevirtual 79, 3) := by decide +kernel
theorem dL_isInstrument_90 : decode cL_isInstrument 90 = .ok (.istore 5, 2) := by decide +kernel
theorem dL_isInstrument_92 : decode cL_isInstrument 92 = .ok (.aload_n 1, 1) := by decide +kernel
theorem dL_isInstrument_93 : decode cL_isInstrument 93 = .ok (.iload_n 2, 1) := by decide +kernel
theorem dL_isInstrument_94 : decode cL_isInstrument 94 = .ok (.iaload, 1) := by decide +kernel
theorem dL_isInstrument_95 : decode cL_isInstrument 95 = .ok (.iconst (-1), 1) := by decide +kernel
theorem dL_isInstrument_96 : decode cL_isInstrument 96 = .ok (.if_icmp .ne 7, 3) := by decide +kernel
theorem dL_isInstrument_99 : decode cL_isInstrument 99 = .ok (.iconst 0, 1) := by decide +kernel
theorem dL_isInstrument_100 : decode cL_isInstrument 100 = .ok (.goto 10, 3) := by decide +kernel
theorem dL_isInstrument_103 : decode cL_isInstrument 103 = .ok (.aload_n 0, 1) := by decide +kernel
theorem dL_isInstrument_104 : decode cL_isInstrument 104 = .ok (.aload_n 1, 1) := by decide +kernel
theorem dL_isInstrument_105 : decode cL_isInstrument 105 = .ok (.iload_n 2, 1) := by decide +kernel
theorem dL_isInstrument_106 : decode cL_isInstrument 106 = .ok (.iaload, 1) := by decide +kernel
theorem dL_isInstrument_107 : decode cL_isInstrument 107 = .ok (.invokevirtual 79, 3) := by decide +kernel
theorem dL_isInstrument_110 : decode cL_isInstrument 110 = .ok (.istore 6, 2) := by decide +kernel
theorem dL_isInstrument_112 : decode cL_isInstrument 112 = .ok (.aload_n 1, 1) := by decide +kernel
theorem dL_isInstrument_113 : decode cL_isInstrument 113 = .ok (.bipush 24, 2) := by decide +kernel
theorem dL_isInstrument_115 : decode cL_isInstrument 115 = .ok (.iload_n 2, 1) := by decide +kernel
theorem dL_isInstrument_116 : decode cL_isInstrument 116 = .ok (.iadd, 1) := by decide +kernel
theorem dL_isInstrument_117 : decode cL_isInstrument 117 = .ok (.iaload, 1) := by decide +kernel
theorem dL_isInstrument_118 : decode cL_isInstrument 118 = .ok (.aload_n 1, 1) := by decide +kernel
theorem dL_isInstrument_119 : decode cL_isInstrument 119 = .ok (.bipush 24, 2) := by decide +kernel
theorem dL_isInstrument_121 : decode cL_isInstrument 121 = .ok (.iload_n 2, 1) := by decide +kernel
theorem dL_isInstrument_122 : decode cL_isInstrument 122 = .ok (.iadd, 1) := by decide +kernel
theorem dL_isInstrument_123 : decode cL_isInstrument 123 = .ok (.iaload, 1) := by decide +kernel
theorem dL_isInstrument_124 : decode cL_isInstrument 124 = .ok (.imul, 1) := by decide +kernel
theorem dL_isInstrument_125 : decode cL_isInstrument 125 = .ok (.iload 6, 2) := by decide +kernel
theorem dL_isInstrument_127 : decode cL_isInstrument 127 = .ok (.iload 6, 2) := by decide +kernel
theorem dL_isInstrument_129 : decode cL_isInstrument 129 = .ok (.imul, 1) := by decide +kernel
theorem dL_isInstrument_130 : decode cL_isInstrument 130 = .ok (.iadd, 1) := by decide +kernel
theorem dL_isInstrument_131 : decode cL_isInstrument 131 = .ok (.istore 7, 2) := by decide +kernel
theorem dL_isInstrument_133 : decode cL_isInstrument 133 = .ok (.aload_n 0, 1) := by decide +kernel
theorem dL_isInstrument_134 : decode cL_isInstrument 134 = .ok (.iload_n 2, 1) := by decide +kernel
theorem dL_isInstrument_135 : decode cL_isInstrument 135 = .ok (.invokevirtual 36, 3) := by decide +kernel
theorem dL_isInstrument_138 : decode cL_isInstrument 138 = .ok (.iload_n 3, 1) := by decide +kernel
theorem dL_isInstrument_139 : decode cL_isInstrument 139 = .ok (.if_icmp .ne 67, 3) := by decide +kernel
theorem dL_isInstrument_142 : decode cL_isInstrument 142 = .ok (.aload_n 0, 1) := by decide +kernel
theorem dL_isInstrument_143 : decode cL_isInstrument 143 = .ok (.iload_n 2, 1) := by decide +kernel
theorem dL_isInstrument_144 : decode cL_isInstrument 144 = .ok (.invokevirtual 33, 3) := by decide +kernel
theorem dL_isInstrument_147 : decode cL_isInstrument 147 = .ok (.iload 4, 2) := by decide +kernel
theorem dL_isInstrument_149 : decode cL_isInstrument 149 = .ok (.if_icmp .ne 57, 3) := by decide +kernel
theorem dL_isInstrument_152 : decode cL_isInstrument 152 = .ok (.aload_n 1, 1) := by decide +kernel
theorem dL_isInstrument_153 : decode cL_isInstrument 153 = .ok (.iload_n 2, 1) := by decide +kernel
theorem dL_isInstrument_154 : decode cL_isInstrument 154 = .ok (.iaload, 1) := by decide +kernel
theorem dL_isInstrument_155 : decode cL_isInstrument 155 = .ok (.iconst (-1), 1) := by decide +kernel
theorem dL_isInstrument_156 : decode cL_isInstrument 156 = .ok (.if_icmp .ne 17, 3) := by decide +kernel
theorem dL_isInstrument_159 : decode cL_isInstrument 159 = .ok (.iload 5, 2) := by decide +kernel
theorem dL_isInstrument_161 : decode cL_isInstrument 161 = .ok (.aload_n 1, 1) := by decide +kernel
theorem dL_isInstrument_162 : decode cL_isInstrument 162 = .ok (.bipush 24, 2) := by decide +kernel
theorem dL_isInstrument_164 : decode cL_isInstrument 164 = .ok (.iload_n 2, 1) := by decide +kernel
theorem dL_isInstrument_165 : decode cL_isInstrument 165 = .ok (.iadd, 1) := by decide +kernel
theorem dL_isInstrument_166 : decode cL_isInstrument 166 = .ok (.iaload, 1) := by decide +kernel
theorem dL_isInstrument_167 : decode cL_isInstrument 167 = .ok (.if_icmp .ne 39, 3) := by decide +kernel
theorem dL_isInstrument_170 : decode cL_isInstrument 170 = .ok (.goto 32, 3) := by decide +kernel
theorem dL_isInstrument_173 : decode cL_isInstrument 173 = .ok (.iload 5, 2) := by decide +kernel
theorem dL_isInstrument_175 : decode cL_isInstrument 175 = .ok (.iload 5, 2) := by decide +kernel
theorem dL_isInstrument_177 : decode cL_isInstrument 177 = .ok (.imul, 1) := by decide +kernel
theorem dL_isInstrument_178 : decode cL_isInstrument 178 = .ok (.iload 7, 2) := by decide +kernel
theorem dL_isInstrument_180 : decode cL_isInstrument 180 = .ok (.if_icmp .lt 26, 3) := by decide +kernel
theorem dL_isInstrument_183 : decode cL_isInstrument 183 = .ok (.iload 5, 2) := by decide +kernel
theorem dL_isInstrument_185 : decode cL_isInstrument 185 = .ok (.ifCond .eq 17, 3) := by decide +kernel
theorem dL_isInstrument_188 : decode cL_isInstrument 188 = .ok (.iload 5, 2) := by decide +kernel
theorem dL_isInstrument_190 : decode cL_isInstrument 190 = .ok (.iconst 1, 1) := by decide +kernel
theorem dL_isInstrument_191 : decode cL_isInstrument 191 = .ok (.isub, 1) := by decide +kernel
theorem dL_isInstrument_192 : decode cL_isInstrument 192 = .ok (.iload 5, 2) := by decide +kernel
theorem dL_isInstrument_194 : decode cL_isInstrument 194 = .ok (.iconst 1, 1) := by decide +kernel
theorem dL_isInstrument_195 : decode cL_isInstrument 195 = .ok (.isub, 1) := by decide +kernel
theorem dL_isInstrument_196 : decode cL_isInstrument 196 = .ok (.imul, 1) := by decide +kernel
theorem dL_isInstrument_197 : decode cL_isInstrument 197 = .ok (.iload 7, 2) := by decide +kernel
theorem dL_isInstrument_199 : decode cL_isInstrument 199 = .ok (.if_icmp .ge 7, 3) := by decide +kernel
theorem dL_isInstrument_202 : decode cL_isInstrument 202 = .ok (.iconst 1, 1) := by decide +kernel
theorem dL_isInstrument_203 : decode cL_isInstrument 203 = .ok (.goto 4, 3) := by decide +kernel
theorem dL_isInstrument_206 : decode cL_isInstrument 206 = .ok (.iconst 0, 1) := by decide +kernel
theorem dL_isInstrument_207 : decode cL_isInstrument 207 = .ok (.istore 8, 2) := by decide +kernel
theorem dL_isInstrument_209 : decode cL_isInstrument 209 = .ok (.aload_n 1, 1) := by decide +kernel
theorem dL_isInstrument_210 : decode cL_isInstrument 210 = .ok (.bipush 12, 2) := by decide +kernel
theorem dL_isInstrument_212 : decode cL_isInstrument 212 = .ok (.iload_n 2, 1) := by decide +kernel
theorem dL_isInstrument_213 : decode cL_isInstrument 213 = .ok (.iadd, 1) := by decide +kernel
theorem dL_isInstrument_214 : decode cL_isInstrument 214 = .ok (.iaload, 1) := by decide +kernel
theorem dL_isInstrument_215 : decode cL_isInstrument 215 = .ok (.iload 5, 2) := by decide +kernel
theorem dL_isInstrument_217 : decode cL_isInstrument 217 = .ok (.isub, 1) := by decide +kernel
theorem dL_isInstrument_218 : decode cL_isInstrument 218 = .ok (.istore 9, 2) := by decide +kernel
theorem dL_isInstrument_220 : decode cL_isInstrument 220 = .ok (.iload 8, 2) := by decide +kernel
theorem dL_isInstrument_222 : decode cL_isInstrument 222 = .ok (.ifCond .eq 46, 3) := by decide +kernel
theorem dL_isInstrument_225 : decode cL_isInstrument 225 = .ok (.aload_n 0, 1) := by decide +kernel
theorem dL_isInstrument_226 : decode cL_isInstrument 226 = .ok (.iload_n 2, 1) := by decide +kernel
theorem dL_isInstrument_227 : decode cL_isInstrument 227 = .ok (.invokevirtual 82, 3) := by decide +kernel
theorem dL_isInstrument_230 : decode cL_isInstrument 230 = .ok (.iload 9, 2) := by decide +kernel
theorem dL_isInstrument_232 : decode cL_isInstrument 232 = .ok (.ifCond .ge 7, 3) := by decide +kernel
theorem dL_isInstrument_235 : decode cL_isInstrument 235 = .ok (.iconst 0, 1) := by decide +kernel
theorem dL_isInstrument_236 : decode cL_isInstrument 236 = .ok (.goto 5, 3) := by decide +kernel
theorem dL_isInstrument_239 : decode cL_isInstrument 239 = .ok (.iload 9, 2) := by decide +kernel
theorem dL_isInstrument_241 : decode cL_isInstrument 241 = .ok (.if_icmp .ne 27, 3) := by decide +kernel
theorem dL_isInstrument_244 : decode cL_isInstrument 244 = .ok (.aload_n 0, 1) := by decide +kernel
theorem dL_isInstrument_245 : decode cL_isInstrument 245 = .ok (.iload_n 2, 1) := by decide +kernel
theorem dL_isInstrument_246 : decode cL_isInstrument 246 = .ok (.invokevirtual 68, 3) := by decide +kernel
theorem dL_isInstrument_249 : decode cL_isInstrument 249 = .ok (.iconst 1, 1) := by decide +kernel
theorem dL_isInstrument_250 : decode cL_isInstrument 250 = .ok (.if_icmp .lt 18, 3) := by decide +kernel
theorem dL_isInstrument_253 : decode cL_isInstrument 253 = .ok (.aload_n 0, 1) := by decide +kernel
theorem dL_isInstrument_254 : decode cL_isInstrument 254 = .ok (.iload_n 2, 1) := by decide +kernel
theorem dL_isInstrument_255 : decode cL_isInstrument 255 = .ok (.invokevirtual 68, 3) := by decide +kernel
theorem dL_isInstrument_258 : decode cL_isInstrument 258 = .ok (.sipush 999, 3) := by decide +kernel
theorem dL_isInstrument_261 : decode cL_isInstrument 261 = .ok (.if_icmp .gt 7, 3) := by decide +kernel
theorem dL_isInstrument_264 : decode cL_isInstrument 264 = .ok (.iconst 1, 1) := by decide +kernel
theorem dL_isInstrument_265 : decode cL_isInstrument 265 = .ok (.goto 4, 3) := by decide +kernel
theorem dL_isInstrument_268 : decode cL_isInstrument 268 = .ok (.iconst 0, 1) := by decide +kernel
theorem dL_isInstrument_269 : decode cL_isInstrument 269 = .ok (.istore 8, 2) := by decide +kernel
theorem dL_isInstrument_271 : decode cL_isInstrument 271 = .ok (.aload_n 0, 1) := by decide +kernel
theorem dL_isInstrument_272 : decode cL_isInstrument 272 = .ok (.iload_n 2, 1) := by decide +kernel
theorem dL_isInstrument_273 : decode cL_isInstrument 273 = .ok (.invokevirtual 22, 3) := by decide +kernel
theorem dL_isInstrument_276 : decode cL_isInstrument 276 = .ok (.iconst (-1), 1) := by decide +kernel
theorem dL_isInstrument_277 : decode cL_isInstrument 277 = .ok (.if_icmp .ne 51, 3) := by decide +kernel
theorem dL_isInstrument_280 : decode cL_isInstrument 280 = .ok (.iload 8, 2) := by decide +kernel
theorem dL_isInstrument_282 : decode cL_isInstrument 282 = .ok (.ifCond .eq 44, 3) := by decide +kernel
theorem dL_isInstrument_285 : decode cL_isInstrument 285 = .ok (.aload_n 0, 1) := by decide +kernel
theorem dL_isInstrument_286 : decode cL_isInstrument 286 = .ok (.iload_n 2, 1) := by decide +kernel
theorem dL_isInstrument_287 : decode cL_isInstrument 287 = .ok (.invokevirtual 85, 3) := by decide +kernel
theorem dL_isInstrument_290 : decode cL_isInstrument 290 = .ok (.iconst (-1), 1) := by decide +kernel
theorem dL_isInstrument_291 : decode cL_isInstrument 291 = .ok (.if_icmp .ne 35, 3) := by decide +kernel
theorem dL_isInstrument_294 : decode cL_isInstrument 294 = .ok (.aload_n 0, 1) := by decide +kernel
theorem dL_isInstrument_295 : decode cL_isInstrument 295 = .ok (.iload_n 2, 1) := by decide +kernel
theorem dL_isInstrument_296 : decode cL_isInstrument 296 = .ok (.invokevirtual 56, 3) := by decide +kernel
theorem dL_isInstrument_299 : decode cL_isInstrument 299 = .ok (.ifCond .ne 27, 3) := by decide +kernel
theorem dL_isInstrument_302 : decode cL_isInstrument 302 = .ok (.aload_n 0, 1) := by decide +kernel
theorem dL_isInstrument_303 : decode cL_isInstrument 303 = .ok (.iload_n 2, 1) := by decide +kernel
theorem dL_isInstrument_304 : decode cL_isInstrument 304 = .ok (.iconst 3, 1) := by decide +kernel
theorem dL_isInstrument_305 : decode cL_isInstrument 305 = .ok (.invokevirtual 88, 3) := by decide +kernel
theorem dL_isInstrument_308 : decode cL_isInstrument 308 = .ok (.iconst (-1), 1) := by decide +kernel
theorem dL_isInstrument_309 : decode cL_isInstrument 309 = .ok (.if_icmp .ne 17, 3) := by decide +kernel
theorem dL_isInstrument_312 : decode cL_isInstrument 312 = .ok (.aload_n 0, 1) := by decide +kernel
theorem dL_isInstrument_313 : decode cL_isInstrument 313 = .ok (.iload_n 2, 1) := by decide +kernel
theorem dL_isInstrument_314 : decode cL_isInstrument 314 = .ok (.invokevirtual 91, 3) := by decide +kernel
theorem dL_isInstrument_317 : decode cL_isInstrument 317 = .ok (.dconst 0, 1) := by decide +kernel
theorem dL_isInstrument_318 : decode cL_isInstrument 318 = .ok (.dcmp .l, 1) := by decide +kernel
theorem dL_isInstrument_319 : decode cL_isInstrument 319 = .ok (.ifCond .ne 7, 3) := by decide +kernel
theorem dL_isInstrument_322 : decode cL_isInstrument 322 = .ok (.iconst 1, 1) := by decide +kernel
theorem dL_isInstrument_323 : decode cL_isInstrument 323 = .ok (.goto 4, 3) := by decide +kernel
theorem dL_isInstrument_326 : decode cL_isInstrument 326 = .ok (.iconst 0, 1) := by decide +kernel
theorem dL_isInstrument_327 : decode cL_isInstrument 327 = .ok (.ireturn, 1) := by decide +kernel
theorem dL_isInstrument_328 : decode cL_isInstrument 328 = .ok (.iload 8, 2) := by decide +kernel
theorem dL_isInstrument_330 : decode cL_isInstrument 330 = .ok (.ifCond .eq 16, 3) := by decide +kernel
theorem dL_isInstrument_333 : decode cL_isInstrument 333 = .ok (.aload_n 0, 1) := by decide +kernel
theorem dL_isInstrument_334 : decode cL_isInstrument 334 = .ok (.aload_n 1, 1) := by decide +kernel
theorem dL_isInstrument_335 : decode cL_isInstrument 335 = .ok (.iload_n 2, 1) := by decide +kernel
theorem dL_isInstrument_336 : decode cL_isInstrument 336 = .ok (.invokestatic 95, 3) := by decide +kernel
theorem dL_isInstrument_339 : decode cL_isInstrument 339 = .ok (.ifCond .eq 7, 3) := by decide +kernel
theorem dL_isInstrument_342 : decode cL_isInstrument 342 = .ok (.iconst 1, 1) := by decide +kernel
theorem dL_isInstrument_343 : decode cL_isInstrument 343 = .ok (.goto 4, 3) := by decide +kernel
theorem dL_isInstrument_346 : decode cL_isInstrument 346 = .ok (.iconst 0, 1) := by decide +kernel
theorem dL_isInstrument_347 : decode cL_isInstrument 347 = .ok (.ireturn, 1) := by decide +kernel
theorem dL_isBeyond_0 : decode cL_isBeyond 0 = .ok (.aload_n 0, 1) := by decide +kernel
theorem dL_isBeyond_1 : decode cL_isBeyond 1 = .ok (.iload_n 2, 1) := by decide +kernel
theorem dL_isBeyond_2 : decode cL_isBeyond 2 = .ok (.iload_n 3, 1) := by decide +kernel
theorem dL_isBeyond_3 : decode cL_isBeyond 3 = .ok (.invokevirtual 75, 3) := by decide +kernel
theorem dL_isBeyond_6 : decode cL_isBeyond 6 = .ok (.lstore 4, 2) := by decide +kernel
theorem dL_isBeyond_8 : decode cL_isBeyond 8 = .ok (.lload 4, 2) := by decide +kernel
theorem dL_isBeyond_10 : decode cL_isBeyond 10 = .ok (.aload_n 1, 1) := by decide +kernel
theorem dL_isBeyond_11 : decode cL_isBeyond 11 = .ok (.bipush 12, 2) := by decide +kernel
theorem dL_isBeyond_13 : decode cL_isBeyond 13 = .ok (.iload_n 2, 1) := by decide +kernel
theorem dL_isBeyond_14 : decode cL_isBeyond 14 = .ok (.iadd, 1) := by decide +kernel
theorem dL_isBeyond_15 : decode cL_isBeyond 15 = .ok (.iaload, 1) := by decide +kernel
theorem dL_isBeyond_16 : decode cL_isBeyond 16 = .ok (.i2l, 1) := by decide +kernel
theorem dL_isBeyond_17 : decode cL_isBeyond 17 = .ok (.lcmp, 1) := by decide +kernel
theorem dL_isBeyond_18 : decode cL_isBeyond 18 = .ok (.ifCond .gt 18, 3) := by decide +kernel
theorem dL_isBeyond_21 : decode cL_isBeyond 21 = .ok (.lload 4, 2) := by decide +kernel
theorem dL_isBeyond_23 : decode cL_isBeyond 23 = .ok (.aload_n 1, 1) := by decide +kernel
theorem dL_isBeyond_24 : decode cL_isBeyond 24 = .ok (.bipush 12, 2) := by decide +kernel
theorem dL_isBeyond_26 : decode cL_isBeyond 26 = .ok (.iload_n 2, 1) := by decide +kernel
theorem dL_isBeyond_27 : decode cL_isBeyond 27 = .ok (.iadd, 1) := by decide +kernel
theorem dL_isBeyond_28 : decode cL_isBeyond 28 = .ok (.iaload, 1) := by decide +kernel
theorem dL_isBeyond_29 : decode cL_isBeyond 29 = .ok (.i2l, 1) := by decide +kernel
theorem dL_isBeyond_30 : decode cL_isBeyond 30 = .ok (.ladd, 1) := by decide +kernel
theorem dL_isBeyond_31 : decode cL_isBeyond 31 = .ok (.lconst 0, 1) := by decide +kernel
theorem dL_isBeyond_32 : decode cL_isBeyond 32 = .ok (.lcmp, 1) := by decide +kernel
theorem dL_isBeyond_33 : decode cL_isBeyond 33 = .ok (.ifCond .ge 7, 3) := by decide +kernel
theorem dL_isBeyond_36 : decode cL_isBeyond 36 = .ok (.iconst 1, 1) := by decide +kernel
theorem dL_isBeyond_37 : decode cL_isBeyond 37 = .ok (.goto 4, 3) := by decide +kernel
theorem dL_isBeyond_40 : decode cL_isBeyond 40 = .ok (.iconst 0, 1) := by decide +kernel
theorem dL_isBeyond_41 : decode cL_isBeyond 41 = .ok (.ireturn, 1) := by decide +kernel
theorem dL_isDrift_0 : decode cL_isDrift 0 = .ok (.aload_n 0, 1) := by decide +kernel
theorem dL_isDrift_1 : decode cL_isDrift 1 = .ok (.iload_n 2, 1) := by decide +kernel
theorem dL_isDrift_2 : decode cL_isDrift 2 = .ok (.invokevirtual 85, 3) := by decide +kernel
theorem dL_isDrift_5 : decode cL_isDrift 5 = .ok (.istore_n 3, 1) := by decide +kernel
theorem dL_isDrift_6 : decode cL_isDrift 6 = .ok (.aload_n 0, 1) := by decide +kernel
theorem dL_isDrift_7 : decode cL_isDrift 7 = .ok (.iload_n 2, 1) := by decide +kernel
theorem dL_isDrift_8 : decode cL_isDrift 8 = .ok (.invokevirtual 91, 3) := by decide +kernel
theorem dL_isDrift_11 : decode cL_isDrift 11 = .ok (.dstore 4, 2) := by decide +kernel
theorem dL_isDrift_13 : decode cL_isDrift 13 = .ok (.dload 4, 2) := by decide +kernel
theorem dL_isDrift_15 : decode cL_isDrift 15 = .ok (.dconst 0, 1) := by decide +kernel
theorem dL_isDrift_16 : decode cL_isDrift 16 = .ok (.dcmp .l, 1) := by decide +kernel
theorem dL_isDrift_17 : decode cL_isDrift 17 = .ok (.ifCond .lt 47, 3) := by decide +kernel
theorem dL_isDrift_20 : decode cL_isDrift 20 = .ok (.aload_n 0, 1) := by decide +kernel
theorem dL_isDrift_21 : decode cL_isDrift 21 = .ok (.iload_n 2, 1) := by decide +kernel
theorem dL_isDrift_22 : decode cL_isDrift 22 = .ok (.bipush 100, 2) := by decide +kernel
theorem dL_isDrift_24 : decode cL_isDrift 24 = .ok (.invokevirtual 75, 3) := by decide +kernel
theorem dL_isDrift_27 : decode cL_isDrift 27 = .ok (.aload_n 0, 1) := by decide +kernel
theorem dL_isDrift_28 : decode cL_isDrift 28 = .ok (.iload_n 2, 1) := by decide +kernel
theorem dL_isDrift_29 : decode cL_isDrift 29 = .ok (.bipush 99, 2) := by decide +kernel
theorem dL_isDrift_31 : decode cL_isDrift 31 = .ok (.invokevirtual 75, 3) := by decide +kernel
theorem dL_isDrift_34 : decode cL_isDrift 34 = .ok (.lcmp, 1) := by decide +kernel
theorem dL_isDrift_35 : decode cL_isDrift 35 = .ok (.ifCond .lt 25, 3) := by decide +kernel
theorem dL_isDrift_38 : decode cL_isDrift 38 = .ok (.aload_n 0, 1) := by decide +kernel
theorem dL_isDrift_39 : decode cL_isDrift 39 = .ok (.iload_n 2, 1) := by decide +kernel
theorem dL_isDrift_40 : decode cL_isDrift 40 = .ok (.sipush 9999, 3) := by decide +kernel
theorem dL_isDrift_43 : decode cL_isDrift 43 = .ok (.invokevirtual 75, 3) := by decide +kernel
theorem dL_isDrift_46 : decode cL_isDrift 46 = .ok (.aload_n 0, 1) := by decide +kernel
theorem dL_isDrift_47 : decode cL_isDrift 47 = .ok (.iload_n 2, 1) := by decide +kernel
theorem dL_isDrift_48 : decode cL_isDrift 48 = .ok (.iconst 0, 1) := by decide +kernel
theorem dL_isDrift_49 : decode cL_isDrift 49 = .ok (.invokevirtual 75, 3) := by decide +kernel
theorem dL_isDrift_52 : decode cL_isDrift 52 = .ok (.lcmp, 1) := by decide +kernel
theorem dL_isDrift_53 : decode cL_isDrift 53 = .ok (.ifCond .lt 7, 3) := by decide +kernel
theorem dL_isDrift_56 : decode cL_isDrift 56 = .ok (.iconst 1, 1) := by decide +kernel
theorem dL_isDrift_57 : decode cL_isDrift 57 = .ok (.goto 48, 3) := by decide +kernel
theorem dL_isDrift_60 : decode cL_isDrift 60 = .ok (.iconst 0, 1) := by decide +kernel
theorem dL_isDrift_61 : decode cL_isDrift 61 = .ok (.goto 44, 3) := by decide +kernel
theorem dL_isDrift_64 : decode cL_isDrift 64 = .ok (.aload_n 0, 1) := by decide +kernel
theorem dL_isDrift_65 : decode cL_isDrift 65 = .ok (.iload_n 2, 1) := by decide +kernel
theorem dL_isDrift_66 : decode cL_isDrift 66 = .ok (.bipush 100, 2) := by decide +kernel
theorem dL_isDrift_68 : decode cL_isDrift 68 = .ok (.invokevirtual 75, 3) := by decide +kernel
theorem dL_isDrift_71 : decode cL_isDrift 71 = .ok (.aload_n 0, 1) := by decide +kernel
theorem dL_isDrift_72 : decode cL_isDrift 72 = .ok (.iload_n 2, 1) := by decide +kernel
theorem dL_isDrift_73 : decode cL_isDrift 73 = .ok (.bipush 99, 2) := by decide +kernel
theorem dL_isDrift_75 : decode cL_isDrift 75 = .ok (.invokevirtual 75, 3) := by decide +kernel
theorem dL_isDrift_78 : decode cL_isDrift 78 = .ok (.lcmp, 1) := by decide +kernel
theorem dL_isDrift_79 : decode cL_isDrift 79 = .ok (.ifCond .gt 25, 3) := by decide +kernel
theorem dL_isDrift_82 : decode cL_isDrift 82 = .ok (.aload_n 0, 1) := by decide +kernel
theorem dL_isDrift_83 : decode cL_isDrift 83 = .ok (.iload_n 2, 1) := by decide +kernel
theorem dL_isDrift_84 : decode cL_isDrift 84 = .ok (.sipush 9999, 3) := by decide +kernel
theorem dL_isDrift_87 : decode cL_isDrift 87 = .ok (.invokevirtual 75, 3) := by decide +kernel
theorem dL_isDrift_90 : decode cL_isDrift 90 = .ok (.aload_n 0, 1) := by decide +kernel
theorem dL_isDrift_91 : decode cL_isDrift 91 = .ok (.iload_n 2, 1) := by decide +kernel
theorem dL_isDrift_92 : decode cL_isDrift 92 = .ok (.iconst 0, 1) := by decide +kernel
theorem dL_isDrift_93 : decode cL_isDrift 93 = .ok (.invokevirtual 75, 3) := by decide +kernel
theorem dL_isDrift_96 : decode cL_isDrift 96 = .ok (.lcmp, 1) := by decide +kernel
theorem dL_isDrift_97 : decode cL_isDrift 97 = .ok (.ifCond .gt 7, 3) := by decide +kernel
theorem dL_isDrift_100 : decode cL_isDrift 100 = .ok (.iconst 1, 1) := by decide +kernel
theorem dL_isDrift_101 : decode cL_isDrift 101 = .ok (.goto 4, 3) := by decide +kernel
theorem dL_isDrift_104 : decode cL_isDrift 104 = .ok (.iconst 0, 1) := by decide +kernel
theorem dL_isDrift_105 : decode cL_isDrift 105 = .ok (.istore 6, 2) := by decide +kernel
theorem dL_isDrift_107 : decode cL_isDrift 107 = .ok (.iload_n 3, 1) := by decide +kernel
theorem dL_isDrift_108 : decode cL_isDrift 108 = .ok (.iconst (-1), 1) := by decide +kernel
theorem dL_isDrift_109 : decode cL_isDrift 109 = .ok (.if_icmp .ne 36, 3) := by decide +kernel
theorem dL_isDrift_112 : decode cL_isDrift 112 = .ok (.iload 6, 2) := by decide +kernel
theorem dL_isDrift_114 : decode cL_isDrift 114 = .ok (.ifCond .eq 29, 3) := by decide +kernel
theorem dL_isDrift_117 : decode cL_isDrift 117 = .ok (.aload_n 0, 1) := by decide +kernel
theorem dL_isDrift_118 : decode cL_isDrift 118 = .ok (.aload_n 1, 1) := by decide +kernel
theorem dL_isDrift_119 : decode cL_isDrift 119 = .ok (.iload_n 2, 1) := by decide +kernel
theorem dL_isDrift_120 : decode cL_isDrift 120 = .ok (.iconst 0, 1) := by decide +kernel
theorem dL_isDrift_121 : decode cL_isDrift 121 = .ok (.invokestatic 99, 3) := by decide +kernel
theorem dL_isDrift_124 : decode cL_isDrift 124 = .ok (.ifCond .ne 19, 3) := by decide +kernel
theorem dL_isDrift_127 : decode cL_isDrift 127 = .ok (.aload_n 0, 1) := by decide +kernel
theorem dL_isDrift_128 : decode cL_isDrift 128 = .ok (.aload_n 1, 1) := by decide +kernel
theorem dL_isDrift_129 : decode cL_isDrift 129 = .ok (.iload_n 2, 1) := by decide +kernel
theorem dL_isDrift_130 : decode cL_isDrift 130 = .ok (.sipush 5000, 3) := by decide +kernel
theorem dL_isDrift_133 : decode cL_isDrift 133 = .ok (.invokestatic 99, 3) := by decide +kernel
theorem dL_isDrift_136 : decode cL_isDrift 136 = .ok (.ifCond .ne 7, 3) := by decide +kernel
theorem dL_isDrift_139 : decode cL_isDrift 139 = .ok (.iconst 1, 1) := by decide +kernel
theorem dL_isDrift_140 : decode cL_isDrift 140 = .ok (.goto 4, 3) := by decide +kernel
theorem dL_isDrift_143 : decode cL_isDrift 143 = .ok (.iconst 0, 1) := by decide +kernel
theorem dL_isDrift_144 : decode cL_isDrift 144 = .ok (.ireturn, 1) := by decide +kernel
theorem dL_isDrift_145 : decode cL_isDrift 145 = .ok (.iload 6, 2) := by decide +kernel
theorem dL_isDrift_147 : decode cL_isDrift 147 = .ok (.ifCond .eq 44, 3) := by decide +kernel
theorem dL_isDrift_150 : decode cL_isDrift 150 = .ok (.iload_n 3, 1) := by decide +kernel
theorem dL_isDrift_151 : decode cL_isDrift 151 = .ok (.ifCond .lt 40, 3) := by decide +kernel
theorem dL_isDrift_154 : decode cL_isDrift 154 = .ok (.iload_n 3, 1) := by decide +kernel
theorem dL_isDrift_155 : decode cL_isDrift 155 = .ok (.sipush 9999, 3) := by decide +kernel
theorem dL_isDrift_158 : decode cL_isDrift 158 = .ok (.if_icmp .gt 33, 3) := by decide +kernel
theorem dL_isDrift_161 : decode cL_isDrift 161 = .ok (.aload_n 0, 1) := by decide +kernel
theorem dL_isDrift_162 : decode cL_isDrift 162 = .ok (.aload_n 1, 1) := by decide +kernel
theorem dL_isDrift_163 : decode cL_isDrift 163 = .ok (.iload_n 2, 1) := by decide +kernel
theorem dL_isDrift_164 : decode cL_isDrift 164 = .ok (.iload_n 3, 1) := by decide +kernel
theorem dL_isDrift_165 : decode cL_isDrift 165 = .ok (.invokestatic 99, 3) := by decide +kernel
theorem dL_isDrift_168 : decode cL_isDrift 168 = .ok (.ifCond .eq 23, 3) := by decide +kernel
theorem dL_isDrift_171 : decode cL_isDrift 171 = .ok (.iload_n 3, 1) := by decide +kernel
theorem dL_isDrift_172 : decode cL_isDrift 172 = .ok (.ifCond .eq 15, 3) := by decide +kernel
theorem dL_isDrift_175 : decode cL_isDrift 175 = .ok (.aload_n 0, 1) := by decide +kernel
theorem dL_isDrift_176 : decode cL_isDrift 176 = .ok (.aload_n 1, 1) := by decide +kernel
theorem dL_isDrift_177 : decode cL_isDrift 177 = .ok (.iload_n 2, 1) := by decide +kernel
theorem dL_isDrift_178 : decode cL_isDrift 178 = .ok (.iload_n 3, 1) := by decide +kernel
theorem dL_isDrift_179 : decode cL_isDrift 179 = .ok (.iconst 1, 1) := by decide +kernel
theorem dL_isDrift_180 : decode cL_isDrift 180 = .ok (.isub, 1) := by decide +kernel
theorem dL_isDrift_181 : decode cL_isDrift 181 = .ok (.invokestatic 99, 3) := by decide +kernel
theorem dL_isDrift_184 : decode cL_isDrift 184 = .ok (.ifCond .ne 7, 3) := by decide +kernel
theorem dL_isDrift_187 : decode cL_isDrift 187 = .ok (.iconst 1, 1) := by decide +kernel
theorem dL_isDrift_188 : decode cL_isDrift 188 = .ok (.goto 4, 3) := by decide +kernel
theorem dL_isDrift_191 : decode cL_isDrift 191 = .ok (.iconst 0, 1) := by decide +kernel
theorem dL_isDrift_192 : decode cL_isDrift 192 = .ok (.ireturn, 1) := by decide +kernel
theorem dL_isBench_0 : decode cL_isBench 0 = .ok (.iconst 0, 1) := by decide +kernel
theorem dL_isBench_1 : decode cL_isBench 1 = .ok (.istore_n 3, 1) := by decide +kernel
theorem dL_isBench_2 : decode cL_isBench 2 = .ok (.iconst 0, 1) := by decide +kernel
theorem dL_isBench_3 : decode cL_isBench 3 = .ok (.istore 4, 2) := by decide +kernel
theorem dL_isBench_5 : decode cL_isBench 5 = .ok (.iconst 1, 1) := by decide +kernel
theorem dL_isBench_6 : decode cL_isBench 6 = .ok (.istore 5, 2) := by decide +kernel
theorem dL_isBench_8 : decode cL_isBench 8 = .ok (.iconst 0, 1) := by decide +kernel
theorem dL_isBench_9 : decode cL_isBench 9 = .ok (.istore 6, 2) := by decide +kernel
theorem dL_isBench_11 : decode cL_isBench 11 = .ok (.iload 6, 2) := by decide +kernel
theorem dL_isBench_13 : decode cL_isBench 13 = .ok (.aload_n 1, 1) := by decide +kernel
theorem dL_isBench_14 : decode cL_isBench 14 = .ok (.bipush 36, 2) := by decide +kernel
theorem dL_isBench_16 : decode cL_isBench 16 = .ok (.iaload, 1) := by decide +kernel
theorem dL_isBench_17 : decode cL_isBench 17 = .ok (.if_icmp .ge 165, 3) := by decide +kernel
theorem dL_isBench_20 : decode cL_isBench 20 = .ok (.iload 5, 2) := by decide +kernel
theorem dL_isBench_22 : decode cL_isBench 22 = .ok (.ifCond .eq 160, 3) := by decide +kernel
theorem dL_isBench_25 : decode cL_isBench 25 = .ok (.aload_n 0, 1) := by decide +kernel
theorem dL_isBench_26 : decode cL_isBench 26 = .ok (.iload 6, 2) := by decide +kernel
theorem dL_isBench_28 : decode cL_isBench 28 = .ok (.iload_n 2, 1) := by decide +kernel
theorem dL_isBench_29 : decode cL_isBench 29 = .ok (.invokevirtual 88, 3) := by decide +kernel
theorem dL_isBench_32 : decode cL_isBench 32 = .ok (.istore 7, 2) := by decide +kernel
theorem dL_isBench_34 : decode cL_isBench 34 = .ok (.iload 7, 2) := by decide +kernel
theorem dL_isBench_36 : decode cL_isBench 36 = .ok (.iconst (-1), 1) := by decide +kernel
theorem dL_isBench_37 : decode cL_isBench 37 = .ok (.if_icmp .eq 139, 3) := by decide +kernel
theorem dL_isBench_40 : decode cL_isBench 40 = .ok (.iinc 4 1, 3) := by decide +kernel
theorem dL_isBench_43 : decode cL_isBench 43 = .ok (.iload_n 3, 1) := by decide +kernel
theorem dL_isBench_44 : decode cL_isBench 44 = .ok (.iload 7, 2) := by decide +kernel
theorem dL_isBench_46 : decode cL_isBench 46 = .ok (.aload_n 0, 1) := by decide +kernel
theorem dL_isBench_47 : decode cL_isBench 47 = .ok (.iload 6, 2) := by decide +kernel
theorem dL_isBench_49 : decode cL_isBench 49 = .ok (.invokevirtual 22, 3) := by decide +kernel
theorem dL_isBench_52 : decode cL_isBench 52 = .ok (.if_icmp .le 7, 3) := by decide +kernel
theorem dL_isBench_55 : decode cL_isBench 55 = .ok (.iconst 1, 1) := by decide +kernel
theorem dL_isBench_56 : decode cL_isBench 56 = .ok (.goto 4, 3) := by decide +kernel
theorem dL_isBench_59 : decode cL_isBench 59 = .ok (.iconst 0, 1) := by decide +kernel
theorem dL_isBench_60 : decode cL_isBench 60 = .ok (.iadd, 1) := by decide +kernel
theorem dL_isBench_61 : decode cL_isBench 61 = .ok (.istore_n 3, 1) := by decide +kernel
theorem dL_isBench_62 : decode cL_isBench 62 = .ok (.iconst 0, 1) := by decide +kernel
theorem dL_isBench_63 : decode cL_isBench 63 = .ok (.istore 8, 2) := by decide +kernel
theorem dL_isBench_65 : decode cL_isBench 65 = .ok (.iconst 0, 1) := by decide +kernel
theorem dL_isBench_66 : decode cL_isBench 66 = .ok (.istore 9, 2) := by decide +kernel
theorem dL_isBench_68 : decode cL_isBench 68 = .ok (.iload 9, 2) := by decide +kernel
theorem dL_isBench_70 : decode cL_isBench 70 = .ok (.aload_n 1, 1) := by decide +kernel
theorem dL_isBench_71 : decode cL_isBench 71 = .ok (.bipush 36, 2) := by decide +kernel
theorem dL_isBench_73 : decode cL_isBench 73 = .ok (.iaload, 1) := by decide +kernel
theorem dL_isBench_74 : decode cL_isBench 74 = .ok (.if_icmp .ge 75, 3) := by decide +kernel
theorem dL_isBench_77 : decode cL_isBench 77 = .ok (.aload_n 0, 1) := by decide +kernel
theorem dL_isBench_78 : decode cL_isBench 78 = .ok (.iload 9, 2) := by decide +kernel
theorem dL_isBench_80 : decode cL_isBench 80 = .ok (.iload_n 2, 1) := by decide +kernel
theorem dL_isBench_81 : decode cL_isBench 81 = .ok (.invokevirtual 88, 3) := by decide +kernel
theorem dL_isBench_84 : decode cL_isBench 84 = .ok (.istore 10, 2) := by decide +kernel
theorem dL_isBench_86 : decode cL_isBench 86 = .ok (.iload 8, 2) := by decide +kernel
theorem dL_isBench_88 : decode cL_isBench 88 = .ok (.iload 10, 2) := by decide +kernel
theorem dL_isBench_90 : decode cL_isBench 90 = .ok (.iload 7, 2) := by decide +kernel
theorem dL_isBench_92 : decode cL_isBench 92 = .ok (.if_icmp .ne 7, 3) := by decide +kernel
theorem dL_isBench_95 : decode cL_isBench 95 = .ok (.iconst 1, 1) := by decide +kernel
theorem dL_isBench_96 : decode cL_isBench 96 = .ok (.goto 4, 3) := by decide +kernel
theorem dL_isBench_99 : decode cL_isBench 99 = .ok (.iconst 0, 1) := by decide +kernel
theorem dL_isBench_100 : decode cL_isBench 100 = .ok (.iadd, 1) := by decide +kernel
theorem dL_isBench_101 : decode cL_isBench 101 = .ok (.istore 8, 2) := by decide +kernel
theorem dL_isBench_103 : decode cL_isBench 103 = .ok (.iload 5, 2) := by decide +kernel
theorem dL_isBench_105 : decode cL_isBench 105 = .ok (.ifCond .eq 35, 3) := by decide +kernel
theorem dL_isBench_108 : decode cL_isBench 108 = .ok (.iload 10, 2) := by decide +kernel
theorem dL_isBench_110 : decode cL_isBench 110 = .ok (.iconst (-1), 1) := by decide +kernel
theorem dL_isBench_111 : decode cL_isBench 111 = .ok (.if_icmp .eq 25, 3) := by decide +kernel
theorem dL_isBench_114 : decode cL_isBench 114 = .ok (.iload 10, 2) := by decide +kernel
theorem dL_isBench_116 : decode cL_isBench 116 = .ok (.iload 7, 2) := by decide +kernel
theorem dL_isBench_118 : decode cL_isBench 118 = .ok (.if_icmp .ge 18, 3) := by decide +kernel
theorem dL_isBench_121 : decode cL_isBench 121 = .ok (.aload_n 0, 1) := by decide +kernel
theorem dL_isBench_122 : decode cL_isBench 122 = .ok (.iload 9, 2) := by decide +kernel
theorem dL_isBench_124 : decode cL_isBench 124 = .ok (.invokevirtual 22, 3) := by decide +kernel
theorem dL_isBench_127 : decode cL_isBench 127 = .ok (.aload_n 0, 1) := by decide +kernel
theorem dL_isBench_128 : decode cL_isBench 128 = .ok (.iload 6, 2) := by decide +kernel
theorem dL_isBench_130 : decode cL_isBench 130 = .ok (.invokevirtual 22, 3) := by decide +kernel
theorem dL_isBench_133 : decode cL_isBench 133 = .ok (.if_icmp .gt 7, 3) := by decide +kernel
theorem dL_isBench_136 : decode cL_isBench 136 = .ok (.iconst 1, 1) := by decide +kernel
theorem dL_isBench_137 : decode cL_isBench 137 = .ok (.goto 4, 3) := by decide +kernel
theorem dL_isBench_140 : decode cL_isBench 140 = .ok (.iconst 0, 1) := by decide +kernel
theorem dL_isBench_141 : decode cL_isBench 141 = .ok (.istore 5, 2) := by decide +kernel
theorem dL_isBench_143 : decode cL_isBench 143 = .ok (.iinc 9 1, 3) := by decide +kernel
theorem dL_isBench_146 : decode cL_isBench 146 = .ok (.goto (-78), 3) := by decide +kernel
theorem dL_isBench_149 : decode cL_isBench 149 = .ok (.iload 5, 2) := by decide +kernel
theorem dL_isBench_151 : decode cL_isBench 151 = .ok (.ifCond .eq 22, 3) := by decide +kernel
theorem dL_isBench_154 : decode cL_isBench 154 = .ok (.iload 8, 2) := by decide +kernel
theorem dL_isBench_156 : decode cL_isBench 156 = .ok (.iload_n 2, 1) := by decide +kernel
theorem dL_isBench_157 : decode cL_isBench 157 = .ok (.if_icmp .gt 16, 3) := by decide +kernel
theorem dL_isBench_160 : decode cL_isBench 160 = .ok (.iload 7, 2) := by decide +kernel
theorem dL_isBench_162 : decode cL_isBench 162 = .ok (.aload_n 0, 1) := by decide +kernel
theorem dL_isBench_163 : decode cL_isBench 163 = .ok (.invokevirtual 43, 3) := by decide +kernel
theorem dL_isBench_166 : decode cL_isBench 166 = .ok (.if_icmp .lt 7, 3) := by decide +kernel
theorem dL_isBench_169 : decode cL_isBench 169 = .ok (.iconst 1, 1) := by decide +kernel
theorem dL_isBench_170 : decode cL_isBench 170 = .ok (.goto 4, 3) := by decide +kernel
theorem dL_isBench_173 : decode cL_isBench 173 = .ok (.iconst 0, 1) := by decide +kernel
theorem dL_isBench_174 : decode cL_isBench 174 = .ok (.istore 5, 2) := by decide +kernel
theorem dL_isBench_176 : decode cL_isBench 176 = .ok (.iinc 6 1, 3) := by decide +kernel
theorem dL_isBench_179 : decode cL_isBench 179 = .ok (.goto (-168), 3) := by decide +kernel
theorem dL_isBench_182 : decode cL_isBench 182 = .ok (.iload 5, 2) := by decide +kernel
theorem dL_isBench_184 : decode cL_isBench 184 = .ok (.ifCond .eq 27, 3) := by decide +kernel
theorem dL_isBench_187 : decode cL_isBench 187 = .ok (.aload_n 0, 1) := by decide +kernel
theorem dL_isBench_188 : decode cL_isBench 188 = .ok (.iload_n 2, 1) := by decide +kernel
theorem dL_isBench_189 : decode cL_isBench 189 = .ok (.invokevirtual 103, 3) := by decide +kernel
theorem dL_isBench_192 : decode cL_isBench 192 = .ok (.iload_n 3, 1) := by decide +kernel
theorem dL_isBench_193 : decode cL_isBench 193 = .ok (.if_icmp .ne 18, 3) := by decide +kernel
theorem dL_isBench_196 : decode cL_isBench 196 = .ok (.aload_n 0, 1) := by decide +kernel
theorem dL_isBench_197 : decode cL_isBench 197 = .ok (.bipush 12, 2) := by decide +kernel
theorem dL_isBench_199 : decode cL_isBench 199 = .ok (.invokevirtual 103, 3) := by decide +kernel
theorem dL_isBench_202 : decode cL_isBench 202 = .ok (.iload 4, 2) := by decide +kernel
theorem dL_isBench_204 : decode cL_isBench 204 = .ok (.if_icmp .gt 7, 3) := by decide +kernel
theorem dL_isBench_207 : decode cL_isBench 207 = .ok (.iconst 1, 1) := by decide +kernel
theorem dL_isBench_208 : decode cL_isBench 208 = .ok (.goto 4, 3) := by decide +kernel
theorem dL_isBench_211 : decode cL_isBench 211 = .ok (.iconst 0, 1) := by decide +kernel
theorem dL_isBench_212 : decode cL_isBench 212 = .ok (.ireturn, 1) := by decide +kernel
theorem dL_law_0 : decode cL_law 0 = .ok (.new 13, 3) := by decide +kernel
theorem dL_law_3 : decode cL_law 3 = .ok (.dup, 1) := by decide +kernel
theorem dL_law_4 : decode cL_law 4 = .ok (.invokespecial 106, 3) := by decide +kernel
theorem dL_law_7 : decode cL_law 7 = .ok (.astore_n 1, 1) := by decide +kernel
theorem dL_law_8 : decode cL_law 8 = .ok (.bipush 37, 2) := by decide +kernel
theorem dL_law_10 : decode cL_law 10 = .ok (.newarray .int, 2) := by decide +kernel
theorem dL_law_12 : decode cL_law 12 = .ok (.astore_n 2, 1) := by decide +kernel
theorem dL_law_13 : decode cL_law 13 = .ok (.aload_n 1, 1) := by decide +kernel
theorem dL_law_14 : decode cL_law 14 = .ok (.invokevirtual 43, 3) := by decide +kernel
theorem dL_law_17 : decode cL_law 17 = .ok (.ifCond .ne 29, 3) := by decide +kernel
theorem dL_law_20 : decode cL_law 20 = .ok (.aload_n 1, 1) := by decide +kernel
theorem dL_law_21 : decode cL_law 21 = .ok (.invokevirtual 18, 3) := by decide +kernel
theorem dL_law_24 : decode cL_law 24 = .ok (.ifCond .ne 22, 3) := by decide +kernel
theorem dL_law_27 : decode cL_law 27 = .ok (.aload_n 1, 1) := by decide +kernel
theorem dL_law_28 : decode cL_law 28 = .ok (.invokevirtual 53, 3) := by decide +kernel
theorem dL_law_31 : decode cL_law 31 = .ok (.ifCond .ne 15, 3) := by decide +kernel
theorem dL_law_34 : decode cL_law 34 = .ok (.aload_n 1, 1) := by decide +kernel
theorem dL_law_35 : decode cL_law 35 = .ok (.iconst 1, 1) := by decide +kernel
theorem dL_law_36 : decode cL_law 36 = .ok (.invokevirtual 103, 3) := by decide +kernel
theorem dL_law_39 : decode cL_law 39 = .ok (.ifCond .ne 7, 3) := by decide +kernel
theorem dL_law_42 : decode cL_law 42 = .ok (.iconst 1, 1) := by decide +kernel
theorem dL_law_43 : decode cL_law 43 = .ok (.goto 4, 3) := by decide +kernel
theorem dL_law_46 : decode cL_law 46 = .ok (.iconst 0, 1) := by decide +kernel
theorem dL_law_47 : decode cL_law 47 = .ok (.istore_n 3, 1) := by decide +kernel
theorem dL_law_48 : decode cL_law 48 = .ok (.aload_n 0, 1) := by decide +kernel
theorem dL_law_49 : decode cL_law 49 = .ok (.arraylength, 1) := by decide +kernel
theorem dL_law_50 : decode cL_law 50 = .ok (.iconst 3, 1) := by decide +kernel
theorem dL_law_51 : decode cL_law 51 = .ok (.idiv, 1) := by decide +kernel
theorem dL_law_52 : decode cL_law 52 = .ok (.bipush 60, 2) := by decide +kernel
theorem dL_law_54 : decode cL_law 54 = .ok (.if_icmp .le 8, 3) := by decide +kernel
theorem dL_law_57 : decode cL_law 57 = .ok (.bipush 60, 2) := by decide +kernel
theorem dL_law_59 : decode cL_law 59 = .ok (.goto 7, 3) := by decide +kernel
theorem dL_law_62 : decode cL_law 62 = .ok (.aload_n 0, 1) := by decide +kernel
theorem dL_law_63 : decode cL_law 63 = .ok (.arraylength, 1) := by decide +kernel
theorem dL_law_64 : decode cL_law 64 = .ok (.iconst 3, 1) := by decide +kernel
theorem dL_law_65 : decode cL_law 65 = .ok (.idiv, 1) := by decide +kernel
theorem dL_law_66 : decode cL_law 66 = .ok (.istore 4, 2) := by decide +kernel
theorem dL_law_68 : decode cL_law 68 = .ok (.iconst 0, 1) := by decide +kernel
theorem dL_law_69 : decode cL_law 69 = .ok (.istore 5, 2) := by decide +kernel
theorem dL_law_71 : decode cL_law 71 = .ok (.iload 5, 2) := by decide +kernel
theorem dL_law_73 : decode cL_law 73 = .ok (.iload 4, 2) := by decide +kernel
theorem dL_law_75 : decode cL_law 75 = .ok (.if_icmp .ge 151, 3) := by decide +kernel
theorem dL_law_78 : decode cL_law 78 = .ok (.iload_n 3, 1) := by decide +kernel
theorem dL_law_79 : decode cL_law 79 = .ok (.ifCond .eq 147, 3) := by decide +kernel
theorem dL_law_82 : decode cL_law 82 = .ok (.aload_n 0, 1) := by decide +kernel
theorem dL_law_83 : decode cL_law 83 = .ok (.iconst 3, 1) := by decide +kernel
theorem dL_law_84 : decode cL_law 84 = .ok (.iload 5, 2) := by decide +kernel
theorem dL_law_86 : decode cL_law 86 = .ok (.imul, 1) := by decide +kernel
theorem dL_law_87 : decode cL_law 87 = .ok (.iconst 2, 1) := by decide +kernel
theorem dL_law_88 : decode cL_law 88 = .ok (.iadd, 1) := by decide +kernel
theorem dL_law_89 : decode cL_law 89 = .ok (.invokestatic 107, 3) := by decide +kernel
theorem dL_law_92 : decode cL_law 92 = .ok (.istore 6, 2) := by decide +kernel
theorem dL_law_94 : decode cL_law 94 = .ok (.aload_n 1, 1) := by decide +kernel
theorem dL_law_95 : decode cL_law 95 = .ok (.aload_n 2, 1) := by decide +kernel
theorem dL_law_96 : decode cL_law 96 = .ok (.aload_n 0, 1) := by decide +kernel
theorem dL_law_97 : decode cL_law 97 = .ok (.iconst 3, 1) := by decide +kernel
theorem dL_law_98 : decode cL_law 98 = .ok (.iload 5, 2) := by decide +kernel
theorem dL_law_100 : decode cL_law 100 = .ok (.imul, 1) := by decide +kernel
theorem dL_law_101 : decode cL_law 101 = .ok (.invokestatic 107, 3) := by decide +kernel
theorem dL_law_104 : decode cL_law 104 = .ok (.aload_n 0, 1) := by decide +kernel
theorem dL_law_105 : decode cL_law 105 = .ok (.iconst 3, 1) := by decide +kernel
theorem dL_law_106 : decode cL_law 106 = .ok (.iload 5, 2) := by decide +kernel
theorem dL_law_108 : decode cL_law 108 = .ok (.imul, 1) := by decide +kernel
theorem dL_law_109 : decode cL_law 109 = .ok (.iconst 1, 1) := by decide +kernel
theorem dL_law_110 : decode cL_law 110 = .ok (.iadd, 1) := by decide +kernel
theorem dL_law_111 : decode cL_law 111 = .ok (.invokestatic 107, 3) := by decide +kernel
theorem dL_law_114 : decode cL_law 114 = .ok (.iload 6, 2) := by decide +kernel
theorem dL_law_116 : decode cL_law 116 = .ok (.invokestatic 111, 3) := by decide +kernel
theorem dL_law_119 : decode cL_law 119 = .ok (.ifCond .eq 29, 3) := by decide +kernel
theorem dL_law_122 : decode cL_law 122 = .ok (.aload_n 1, 1) := by decide +kernel
theorem dL_law_123 : decode cL_law 123 = .ok (.invokevirtual 65, 3) := by decide +kernel
theorem dL_law_126 : decode cL_law 126 = .ok (.aload_n 1, 1) := by decide +kernel
theorem dL_law_127 : decode cL_law 127 = .ok (.invokevirtual 114, 3) := by decide +kernel
theorem dL_law_130 : decode cL_law 130 = .ok (.if_icmp .ne 18, 3) := by decide +kernel
theorem dL_law_133 : decode cL_law 133 = .ok (.aload_n 1, 1) := by decide +kernel
theorem dL_law_134 : decode cL_law 134 = .ok (.invokevirtual 65, 3) := by decide +kernel
theorem dL_law_137 : decode cL_law 137 = .ok (.aload_n 1, 1) := by decide +kernel
theorem dL_law_138 : decode cL_law 138 = .ok (.invokevirtual 53, 3) := by decide +kernel
theorem dL_law_141 : decode cL_law 141 = .ok (.if_icmp .gt 7, 3) := by decide +kernel
theorem dL_law_144 : decode cL_law 144 = .ok (.iconst 1, 1) := by decide +kernel
theorem dL_law_145 : decode cL_law 145 = .ok (.goto 4, 3) := by decide +kernel
theorem dL_law_148 : decode cL_law 148 = .ok (.iconst 0, 1) := by decide +kernel
theorem dL_law_149 : decode cL_law 149 = .ok (.istore_n 3, 1) := by decide +kernel
theorem dL_law_150 : decode cL_law 150 = .ok (.iconst 0, 1) := by decide +kernel
theorem dL_law_151 : decode cL_law 151 = .ok (.istore 7, 2) := by decide +kernel
theorem dL_law_153 : decode cL_law 153 = .ok (.iload 7, 2) := by decide +kernel
theorem dL_law_155 : decode cL_law 155 = .ok (.aload_n 2, 1) := by decide +kernel
theorem dL_law_156 : decode cL_law 156 = .ok (.bipush 36, 2) := by decide +kernel
theorem dL_law_158 : decode cL_law 158 = .ok (.iaload, 1) := by decide +kernel
theorem dL_law_159 : decode cL_law 159 = .ok (.if_icmp .ge 29, 3) := by decide +kernel
theorem dL_law_162 : decode cL_law 162 = .ok (.iload_n 3, 1) := by decide +kernel
theorem dL_law_163 : decode cL_law 163 = .ok (.ifCond .eq 25, 3) := by decide +kernel
theorem dL_law_166 : decode cL_law 166 = .ok (.iload 5, 2) := by decide +kernel
theorem dL_law_168 : decode cL_law 168 = .ok (.iconst 5, 1) := by decide +kernel
theorem dL_law_169 : decode cL_law 169 = .ok (.irem, 1) := by decide +kernel
theorem dL_law_170 : decode cL_law 170 = .ok (.iconst 4, 1) := by decide +kernel
theorem dL_law_171 : decode cL_law 171 = .ok (.if_icmp .ne 17, 3) := by decide +kernel
theorem dL_law_174 : decode cL_law 174 = .ok (.aload_n 1, 1) := by decide +kernel
theorem dL_law_175 : decode cL_law 175 = .ok (.aload_n 2, 1) := by decide +kernel
theorem dL_law_176 : decode cL_law 176 = .ok (.iload 7, 2) := by decide +kernel
theorem dL_law_178 : decode cL_law 178 = .ok (.invokestatic 117, 3) := by decide +kernel
theorem dL_law_181 : decode cL_law 181 = .ok (.istore_n 3, 1) := by decide +kernel
theorem dL_law_182 : decode cL_law 182 = .ok (.iinc 7 1, 3) := by decide +kernel
theorem dL_law_185 : decode cL_law 185 = .ok (.goto (-32), 3) := by decide +kernel
theorem dL_law_188 : decode cL_law 188 = .ok (.iload_n 3, 1) := by decide +kernel
theorem dL_law_189 : decode cL_law 189 = .ok (.ifCond .eq 29, 3) := by decide +kernel
theorem dL_law_192 : decode cL_law 192 = .ok (.iload 5, 2) := by decide +kernel
theorem dL_law_194 : decode cL_law 194 = .ok (.iconst 5, 1) := by decide +kernel
theorem dL_law_195 : decode cL_law 195 = .ok (.irem, 1) := by decide +kernel
theorem dL_law_196 : decode cL_law 196 = .ok (.iconst 4, 1) := by decide +kernel
theorem dL_law_197 : decode cL_law 197 = .ok (.if_icmp .lt 17, 3) := by decide +kernel
theorem dL_law_200 : decode cL_law 200 = .ok (.aload_n 1, 1) := by decide +kernel
theorem dL_law_201 : decode cL_law 201 = .ok (.aload_n 2, 1) := by decide +kernel
theorem dL_law_202 : decode cL_law 202 = .ok (.iconst 1, 1) := by decide +kernel
theorem dL_law_203 : decode cL_law 203 = .ok (.iload 6, 2) := by decide +kernel
theorem dL_law_205 : decode cL_law 205 = .ok (.iconst 4, 1) := by decide +kernel
theorem dL_law_206 : decode cL_law 206 = .ok (.irem, 1) := by decide +kernel
theorem dL_law_207 : decode cL_law 207 = .ok (.iadd, 1) := by decide +kernel
theorem dL_law_208 : decode cL_law 208 = .ok (.invokestatic 120, 3) := by decide +kernel
theorem dL_law_211 : decode cL_law 211 = .ok (.ifCond .eq 7, 3) := by decide +kernel
theorem dL_law_214 : decode cL_law 214 = .ok (.iconst 1, 1) := by decide +kernel
theorem dL_law_215 : decode cL_law 215 = .ok (.goto 4, 3) := by decide +kernel
theorem dL_law_218 : decode cL_law 218 = .ok (.iconst 0, 1) := by decide +kernel
theorem dL_law_219 : decode cL_law 219 = .ok (.istore_n 3, 1) := by decide +kernel
theorem dL_law_220 : decode cL_law 220 = .ok (.iinc 5 1, 3) := by decide +kernel
theorem dL_law_223 : decode cL_law 223 = .ok (.goto (-152), 3) := by decide +kernel
theorem dL_law_226 : decode cL_law 226 = .ok (.iconst 0, 1) := by decide +kernel
theorem dL_law_227 : decode cL_law 227 = .ok (.istore 5, 2) := by decide +kernel
theorem dL_law_229 : decode cL_law 229 = .ok (.iconst 0, 1) := by decide +kernel
theorem dL_law_230 : decode cL_law 230 = .ok (.istore 6, 2) := by decide +kernel
theorem dL_law_232 : decode cL_law 232 = .ok (.iload 6, 2) := by decide +kernel
theorem dL_law_234 : decode cL_law 234 = .ok (.aload_n 1, 1) := by decide +kernel
theorem dL_law_235 : decode cL_law 235 = .ok (.invokevirtual 53, 3) := by decide +kernel
theorem dL_law_238 : decode cL_law 238 = .ok (.if_icmp .ge 32, 3) := by decide +kernel
theorem dL_law_241 : decode cL_law 241 = .ok (.iload_n 3, 1) := by decide +kernel
theorem dL_law_242 : decode cL_law 242 = .ok (.ifCond .eq 28, 3) := by decide +kernel
theorem dL_law_245 : decode cL_law 245 = .ok (.iload 5, 2) := by decide +kernel
theorem dL_law_247 : decode cL_law 247 = .ok (.aload_n 1, 1) := by decide +kernel
theorem dL_law_248 : decode cL_law 248 = .ok (.iload 6, 2) := by decide +kernel
theorem dL_law_250 : decode cL_law 250 = .ok (.invokevirtual 62, 3) := by decide +kernel
theorem dL_law_253 : decode cL_law 253 = .ok (.ifCond .eq 7, 3) := by decide +kernel
theorem dL_law_256 : decode cL_law 256 = .ok (.iconst 1, 1) := by decide +kernel
theorem dL_law_257 : decode cL_law 257 = .ok (.goto 4, 3) := by decide +kernel
theorem dL_law_260 : decode cL_law 260 = .ok (.iconst 0, 1) := by decide +kernel
theorem dL_law_261 : decode cL_law 261 = .ok (.iadd, 1) := by decide +kernel
theorem dL_law_262 : decode cL_law 262 = .ok (.istore 5, 2) := by decide +kernel
theorem dL_law_264 : decode cL_law 264 = .ok (.iinc 6 1, 3) := by decide +kernel
theorem dL_law_267 : decode cL_law 267 = .ok (.goto (-35), 3) := by decide +kernel
theorem dL_law_270 : decode cL_law 270 = .ok (.iload_n 3, 1) := by decide +kernel
theorem dL_law_271 : decode cL_law 271 = .ok (.ifCond .eq 16, 3) := by decide +kernel
theorem dL_law_274 : decode cL_law 274 = .ok (.iload 5, 2) := by decide +kernel
theorem dL_law_276 : decode cL_law 276 = .ok (.aload_n 1, 1) := by decide +kernel
theorem dL_law_277 : decode cL_law 277 = .ok (.invokevirtual 65, 3) := by decide +kernel
theorem dL_law_280 : decode cL_law 280 = .ok (.if_icmp .ne 7, 3) := by decide +kernel
theorem dL_law_283 : decode cL_law 283 = .ok (.iconst 1, 1) := by decide +kernel
theorem dL_law_284 : decode cL_law 284 = .ok (.goto 4, 3) := by decide +kernel
theorem dL_law_287 : decode cL_law 287 = .ok (.iconst 0, 1) := by decide +kernel
theorem dL_law_288 : decode cL_law 288 = .ok (.ireturn, 1) := by decide +kernel
