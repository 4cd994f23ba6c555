theorem dX0_init_0 : decode cX0_init 0 = .ok (.aload_n 0, 1) := by decide +kernel
theorem dX0_init_1 : decode cX0_init 1 = .ok (.invokespecial 3, 3) := by decide +kernel
theorem dX0_init_4 : decode cX0_init 4 = .ok (.aload_n 0, 1) := by decide +kernel
theorem dX0_init_5 : decode cX0_init 5 = .ok (.iload_n 1, 1) := by decide +kernel
theorem dX0_init_6 : decode cX0_init 6 = .ok (.putfield 9, 3) := by decide +kernel
theorem dX0_init_9 : decode cX0_init 9 = .ok (.aload_n 0, 1) := by decide +kernel
theorem dX0_init_10 : decode cX0_init 10 = .ok (.iload_n 2, 1) := by decide +kernel
theorem dX0_init_11 : decode cX0_init 11 = .ok (.putfield 15, 3) := by decide +kernel
theorem dX0_init_14 : decode cX0_init 14 = .ok (.aload_n 0, 1) := by decide +kernel
theorem dX0_init_15 : decode cX0_init 15 = .ok (.iload_n 3, 1) := by decide +kernel
theorem dX0_init_16 : decode cX0_init 16 = .ok (.putfield 18, 3) := by decide +kernel
theorem dX0_init_19 : decode cX0_init 19 = .ok (.aload_n 0, 1) := by decide +kernel
theorem dX0_init_20 : decode cX0_init 20 = .ok (.aload 4, 2) := by decide +kernel
theorem dX0_init_22 : decode cX0_init 22 = .ok (.putfield 21, 3) := by decide +kernel
theorem dX0_init_25 : decode cX0_init 25 = .ok (.aload_n 0, 1) := by decide +kernel
theorem dX0_init_26 : decode cX0_init 26 = .ok (.aload 5, 2) := by decide +kernel
theorem dX0_init_28 : decode cX0_init 28 = .ok (.putfield 25, 3) := by decide +kernel
theorem dX0_init_31 : decode cX0_init 31 = .ok (.aload_n 0, 1) := by decide +kernel
theorem dX0_init_32 : decode cX0_init 32 = .ok (.ldc 28, 2) := by decide +kernel
theorem dX0_init_34 : decode cX0_init 34 = .ok (.putfield 29, 3) := by decide +kernel
theorem dX0_init_37 : decode cX0_init 37 = .ok (.return_, 1) := by decide +kernel
theorem dX1_init_0 : decode cX1_init 0 = .ok (.aload_n 0, 1) := by decide +kernel
theorem dX1_init_1 : decode cX1_init 1 = .ok (.invokespecial 1, 3) := by decide +kernel
theorem dX1_init_4 : decode cX1_init 4 = .ok (.aload_n 0, 1) := by decide +kernel
theorem dX1_init_5 : decode cX1_init 5 = .ok (.iload_n 1, 1) := by decide +kernel
theorem dX1_init_6 : decode cX1_init 6 = .ok (.putfield 7, 3) := by decide +kernel
theorem dX1_init_9 : decode cX1_init 9 = .ok (.aload_n 0, 1) := by decide +kernel
theorem dX1_init_10 : decode cX1_init 10 = .ok (.iload_n 2, 1) := by decide +kernel
theorem dX1_init_11 : decode cX1_init 11 = .ok (.putfield 13, 3) := by decide +kernel
theorem dX1_init_14 : decode cX1_init 14 = .ok (.aload_n 0, 1) := by decide +kernel
theorem dX1_init_15 : decode cX1_init 15 = .ok (.iload_n 3, 1) := by decide +kernel
theorem dX1_init_16 : decode cX1_init 16 = .ok (.putfield 16, 3) := by decide +kernel
theorem dX1_init_19 : decode cX1_init 19 = .ok (.aload_n 0, 1) := by decide +kernel
theorem dX1_init_20 : decode cX1_init 20 = .ok (.iload 4, 2) := by decide +kernel
theorem dX1_init_22 : decode cX1_init 22 = .ok (.putfield 19, 3) := by decide +kernel
theorem dX1_init_25 : decode cX1_init 25 = .ok (.return_, 1) := by decide +kernel
theorem dX2_init_0 : decode cX2_init 0 = .ok (.aload_n 0, 1) := by decide +kernel
theorem dX2_init_1 : decode cX2_init 1 = .ok (.invokespecial 1, 3) := by decide +kernel
theorem dX2_init_4 : decode cX2_init 4 = .ok (.aload_n 0, 1) := by decide +kernel
theorem dX2_init_5 : decode cX2_init 5 = .ok (.iload_n 1, 1) := by decide +kernel
theorem dX2_init_6 : decode cX2_init 6 = .ok (.putfield 7, 3) := by decide +kernel
theorem dX2_init_9 : decode cX2_init 9 = .ok (.aload_n 0, 1) := by decide +kernel
theorem dX2_init_10 : decode cX2_init 10 = .ok (.aload_n 2, 1) := by decide +kernel
theorem dX2_init_11 : decode cX2_init 11 = .ok (.putfield 13, 3) := by decide +kernel
theorem dX2_init_14 : decode cX2_init 14 = .ok (.return_, 1) := by decide +kernel
theorem dX3_init_0 : decode cX3_init 0 = .ok (.aload_n 0, 1) := by decide +kernel
theorem dX3_init_1 : decode cX3_init 1 = .ok (.invokespecial 1, 3) := by decide +kernel
theorem dX3_init_4 : decode cX3_init 4 = .ok (.aload_n 0, 1) := by decide +kernel
theorem dX3_init_5 : decode cX3_init 5 = .ok (.bipush 12, 2) := by decide +kernel
theorem dX3_init_7 : decode cX3_init 7 = .ok (.anewarray 9, 3) := by decide +kernel
theorem dX3_init_10 : decode cX3_init 10 = .ok (.putfield 11, 3) := by decide +kernel
theorem dX3_init_13 : decode cX3_init 13 = .ok (.aload_n 0, 1) := by decide +kernel
theorem dX3_init_14 : decode cX3_init 14 = .ok (.sipush 200, 3) := by decide +kernel
theorem dX3_init_17 : decode cX3_init 17 = .ok (.anewarray 15, 3) := by decide +kernel
theorem dX3_init_20 : decode cX3_init 20 = .ok (.putfield 17, 3) := by decide +kernel
theorem dX3_init_23 : decode cX3_init 23 = .ok (.aload_n 0, 1) := by decide +kernel
theorem dX3_init_24 : decode cX3_init 24 = .ok (.sipush 512, 3) := by decide +kernel
theorem dX3_init_27 : decode cX3_init 27 = .ok (.anewarray 21, 3) := by decide +kernel
theorem dX3_init_30 : decode cX3_init 30 = .ok (.putfield 23, 3) := by decide +kernel
theorem dX3_init_33 : decode cX3_init 33 = .ok (.return_, 1) := by decide +kernel
theorem dX3_tell_0 : decode cX3_tell 0 = .ok (.aload_n 0, 1) := by decide +kernel
theorem dX3_tell_1 : decode cX3_tell 1 = .ok (.iload_n 1, 1) := by decide +kernel
theorem dX3_tell_2 : decode cX3_tell 2 = .ok (.invokevirtual 27, 3) := by decide +kernel
theorem dX3_tell_5 : decode cX3_tell 5 = .ok (.astore 5, 2) := by decide +kernel
theorem dX3_tell_7 : decode cX3_tell 7 = .ok (.iload_n 2, 1) := by decide +kernel
theorem dX3_tell_8 : decode cX3_tell 8 = .ok (.iconst 1, 1) := by decide +kernel
theorem dX3_tell_9 : decode cX3_tell 9 = .ok (.if_icmp .lt 35, 3) := by decide +kernel
theorem dX3_tell_12 : decode cX3_tell 12 = .ok (.iload_n 2, 1) := by decide +kernel
theorem dX3_tell_13 : decode cX3_tell 13 = .ok (.sipush 9999, 3) := by decide +kernel
theorem dX3_tell_16 : decode cX3_tell 16 = .ok (.if_icmp .gt 28, 3) := by decide +kernel
theorem dX3_tell_19 : decode cX3_tell 19 = .ok (.iload_n 3, 1) := by decide +kernel
theorem dX3_tell_20 : decode cX3_tell 20 = .ok (.ifCond .lt 24, 3) := by decide +kernel
theorem dX3_tell_23 : decode cX3_tell 23 = .ok (.iload_n 3, 1) := by decide +kernel
theorem dX3_tell_24 : decode cX3_tell 24 = .ok (.sipush 999, 3) := by decide +kernel
theorem dX3_tell_27 : decode cX3_tell 27 = .ok (.if_icmp .gt 17, 3) := by decide +kernel
theorem dX3_tell_30 : decode cX3_tell 30 = .ok (.iload 4, 2) := by decide +kernel
theorem dX3_tell_32 : decode cX3_tell 32 = .ok (.iconst 1, 1) := by decide +kernel
theorem dX3_tell_33 : decode cX3_tell 33 = .ok (.if_icmp .lt 11, 3) := by decide +kernel
theorem dX3_tell_36 : decode cX3_tell 36 = .ok (.iload 4, 2) := by decide +kernel
theorem dX3_tell_38 : decode cX3_tell 38 = .ok (.sipush 999, 3) := by decide +kernel
theorem dX3_tell_41 : decode cX3_tell 41 = .ok (.if_icmp .le 13, 3) := by decide +kernel
theorem dX3_tell_44 : decode cX3_tell 44 = .ok (.new 31, 3) := by decide +kernel
theorem dX3_tell_47 : decode cX3_tell 47 = .ok (.dup, 1) := by decide +kernel
theorem dX3_tell_48 : decode cX3_tell 48 = .ok (.ldc 33, 2) := by decide +kernel
theorem dX3_tell_50 : decode cX3_tell 50 = .ok (.invokespecial 35, 3) := by decide +kernel
theorem dX3_tell_53 : decode cX3_tell 53 = .ok (.athrow, 1) := by decide +kernel
theorem dX3_tell_54 : decode cX3_tell 54 = .ok (.aload_n 0, 1) := by decide +kernel
theorem dX3_tell_55 : decode cX3_tell 55 = .ok (.getfield 38, 3) := by decide +kernel
theorem dX3_tell_58 : decode cX3_tell 58 = .ok (.istore 6, 2) := by decide +kernel
theorem dX3_tell_60 : decode cX3_tell 60 = .ok (.iload 6, 2) := by decide +kernel
theorem dX3_tell_62 : decode cX3_tell 62 = .ok (.ifCond .lt 13, 3) := by decide +kernel
theorem dX3_tell_65 : decode cX3_tell 65 = .ok (.iload 6, 2) := by decide +kernel
theorem dX3_tell_67 : decode cX3_tell 67 = .ok (.aload_n 0, 1) := by decide +kernel
theorem dX3_tell_68 : decode cX3_tell 68 = .ok (.getfield 11, 3) := by decide +kernel
theorem dX3_tell_71 : decode cX3_tell 71 = .ok (.arraylength, 1) := by decide +kernel
theorem dX3_tell_72 : decode cX3_tell 72 = .ok (.if_icmp .lt 13, 3) := by decide +kernel
theorem dX3_tell_75 : decode cX3_tell 75 = .ok (.new 42, 3) := by decide +kernel
theorem dX3_tell_78 : decode cX3_tell 78 = .ok (.dup, 1) := by decide +kernel
theorem dX3_tell_79 : decode cX3_tell 79 = .ok (.ldc 44, 2) := by decide +kernel
theorem dX3_tell_81 : decode cX3_tell 81 = .ok (.invokespecial 46, 3) := by decide +kernel
theorem dX3_tell_84 : decode cX3_tell 84 = .ok (.athrow, 1) := by decide +kernel
theorem dX3_tell_85 : decode cX3_tell 85 = .ok (.new 9, 3) := by decide +kernel
theorem dX3_tell_88 : decode cX3_tell 88 = .ok (.dup, 1) := by decide +kernel
theorem dX3_tell_89 : decode cX3_tell 89 = .ok (.iload 6, 2) := by decide +kernel
theorem dX3_tell_91 : decode cX3_tell 91 = .ok (.iload_n 2, 1) := by decide +kernel
theorem dX3_tell_92 : decode cX3_tell 92 = .ok (.iload_n 3, 1) := by decide +kernel
theorem dX3_tell_93 : decode cX3_tell 93 = .ok (.iload 4, 2) := by decide +kernel
theorem dX3_tell_95 : decode cX3_tell 95 = .ok (.invokespecial 47, 3) := by decide +kernel
theorem dX3_tell_98 : decode cX3_tell 98 = .ok (.astore 7, 2) := by decide +kernel
theorem dX3_tell_100 : decode cX3_tell 100 = .ok (.aload 7, 2) := by decide +kernel
theorem dX3_tell_102 : decode cX3_tell 102 = .ok (.aload 5, 2) := by decide +kernel
theorem dX3_tell_104 : decode cX3_tell 104 = .ok (.putfield 50, 3) := by decide +kernel
theorem dX3_tell_107 : decode cX3_tell 107 = .ok (.aload_n 0, 1) := by decide +kernel
theorem dX3_tell_108 : decode cX3_tell 108 = .ok (.getfield 11, 3) := by decide +kernel
theorem dX3_tell_111 : decode cX3_tell 111 = .ok (.iload 6, 2) := by decide +kernel
theorem dX3_tell_113 : decode cX3_tell 113 = .ok (.aload 7, 2) := by decide +kernel
theorem dX3_tell_115 : decode cX3_tell 115 = .ok (.aastore, 1) := by decide +kernel
theorem dX3_tell_116 : decode cX3_tell 116 = .ok (.aload_n 0, 1) := by decide +kernel
theorem dX3_tell_117 : decode cX3_tell 117 = .ok (.iload 6, 2) := by decide +kernel
theorem dX3_tell_119 : decode cX3_tell 119 = .ok (.iconst 1, 1) := by decide +kernel
theorem dX3_tell_120 : decode cX3_tell 120 = .ok (.iadd, 1) := by decide +kernel
theorem dX3_tell_121 : decode cX3_tell 121 = .ok (.putfield 38, 3) := by decide +kernel
theorem dX3_tell_124 : decode cX3_tell 124 = .ok (.iload 6, 2) := by decide +kernel
theorem dX3_tell_126 : decode cX3_tell 126 = .ok (.ireturn, 1) := by decide +kernel
theorem dX3_refer_0 : decode cX3_refer 0 = .ok (.aload_n 0, 1) := by decide +kernel
theorem dX3_refer_1 : decode cX3_refer 1 = .ok (.iload_n 1, 1) := by decide +kernel
theorem dX3_refer_2 : decode cX3_refer 2 = .ok (.invokevirtual 54, 3) := by decide +kernel
theorem dX3_refer_5 : decode cX3_refer 5 = .ok (.astore_n 3, 1) := by decide +kernel
theorem dX3_refer_6 : decode cX3_refer 6 = .ok (.aload_n 0, 1) := by decide +kernel
theorem dX3_refer_7 : decode cX3_refer 7 = .ok (.iload_n 2, 1) := by decide +kernel
theorem dX3_refer_8 : decode cX3_refer 8 = .ok (.invokevirtual 27, 3) := by decide +kernel
theorem dX3_refer_11 : decode cX3_refer 11 = .ok (.astore 4, 2) := by decide +kernel
theorem dX3_refer_13 : decode cX3_refer 13 = .ok (.aload_n 3, 1) := by decide +kernel
theorem dX3_refer_14 : decode cX3_refer 14 = .ok (.aload 4, 2) := by decide +kernel
theorem dX3_refer_16 : decode cX3_refer 16 = .ok (.invokestatic 57, 3) := by decide +kernel
theorem dX3_refer_19 : decode cX3_refer 19 = .ok (.ifCond .eq 13, 3) := by decide +kernel
theorem dX3_refer_22 : decode cX3_refer 22 = .ok (.new 42, 3) := by decide +kernel
theorem dX3_refer_25 : decode cX3_refer 25 = .ok (.dup, 1) := by decide +kernel
theorem dX3_refer_26 : decode cX3_refer 26 = .ok (.ldc 61, 2) := by decide +kernel
theorem dX3_refer_28 : decode cX3_refer 28 = .ok (.invokespecial 46, 3) := by decide +kernel
theorem dX3_refer_31 : decode cX3_refer 31 = .ok (.athrow, 1) := by decide +kernel
theorem dX3_refer_32 : decode cX3_refer 32 = .ok (.aload_n 3, 1) := by decide +kernel
theorem dX3_refer_33 : decode cX3_refer 33 = .ok (.getfield 50, 3) := by decide +kernel
theorem dX3_refer_36 : decode cX3_refer 36 = .ok (.invokestatic 63, 3) := by decide +kernel
theorem dX3_refer_39 : decode cX3_refer 39 = .ok (.istore 5, 2) := by decide +kernel
theorem dX3_refer_41 : decode cX3_refer 41 = .ok (.aload_n 3, 1) := by decide +kernel
theorem dX3_refer_42 : decode cX3_refer 42 = .ok (.aload 4, 2) := by decide +kernel
theorem dX3_refer_44 : decode cX3_refer 44 = .ok (.putfield 50, 3) := by decide +kernel
theorem dX3_refer_47 : decode cX3_refer 47 = .ok (.iload 5, 2) := by decide +kernel
theorem dX3_refer_49 : decode cX3_refer 49 = .ok (.ireturn, 1) := by decide +kernel
theorem dX3_pass_0 : decode cX3_pass 0 = .ok (.iload_n 1, 1) := by decide +kernel
theorem dX3_pass_1 : decode cX3_pass 1 = .ok (.iconst 1, 1) := by decide +kernel
theorem dX3_pass_2 : decode cX3_pass 2 = .ok (.if_icmp .lt 10, 3) := by decide +kernel
theorem dX3_pass_5 : decode cX3_pass 5 = .ok (.iload_n 1, 1) := by decide +kernel
theorem dX3_pass_6 : decode cX3_pass 6 = .ok (.sipush 999, 3) := by decide +kernel
theorem dX3_pass_9 : decode cX3_pass 9 = .ok (.if_icmp .le 13, 3) := by decide +kernel
theorem dX3_pass_12 : decode cX3_pass 12 = .ok (.new 31, 3) := by decide +kernel
theorem dX3_pass_15 : decode cX3_pass 15 = .ok (.dup, 1) := by decide +kernel
theorem dX3_pass_16 : decode cX3_pass 16 = .ok (.ldc 67, 2) := by decide +kernel
theorem dX3_pass_18 : decode cX3_pass 18 = .ok (.invokespecial 35, 3) := by decide +kernel
theorem dX3_pass_21 : decode cX3_pass 21 = .ok (.athrow, 1) := by decide +kernel
theorem dX3_pass_22 : decode cX3_pass 22 = .ok (.aload_n 0, 1) := by decide +kernel
theorem dX3_pass_23 : decode cX3_pass 23 = .ok (.dup, 1) := by decide +kernel
theorem dX3_pass_24 : decode cX3_pass 24 = .ok (.getfield 69, 3) := by decide +kernel
theorem dX3_pass_27 : decode cX3_pass 27 = .ok (.iload_n 1, 1) := by decide +kernel
theorem dX3_pass_28 : decode cX3_pass 28 = .ok (.iadd, 1) := by decide +kernel
theorem dX3_pass_29 : decode cX3_pass 29 = .ok (.putfield 69, 3) := by decide +kernel
theorem dX3_pass_32 : decode cX3_pass 32 = .ok (.aload_n 0, 1) := by decide +kernel
theorem dX3_pass_33 : decode cX3_pass 33 = .ok (.getfield 69, 3) := by decide +kernel
theorem dX3_pass_36 : decode cX3_pass 36 = .ok (.ireturn, 1) := by decide +kernel
theorem dX3_today_0 : decode cX3_today 0 = .ok (.aload_n 0, 1) := by decide +kernel
theorem dX3_today_1 : decode cX3_today 1 = .ok (.getfield 69, 3) := by decide +kernel
theorem dX3_today_4 : decode cX3_today 4 = .ok (.ireturn, 1) := by decide +kernel
theorem dX3_instruments_0 : decode cX3_instruments 0 = .ok (.aload_n 0, 1) := by decide +kernel
theorem dX3_instruments_1 : decode cX3_instruments 1 = .ok (.getfield 38, 3) := by decide +kernel
theorem dX3_instruments_4 : decode cX3_instruments 4 = .ok (.ireturn, 1) := by decide +kernel
theorem dX3_known_0 : decode cX3_known 0 = .ok (.iload_n 1, 1) := by decide +kernel
theorem dX3_known_1 : decode cX3_known 1 = .ok (.ifCond .lt 12, 3) := by decide +kernel
theorem dX3_known_4 : decode cX3_known 4 = .ok (.iload_n 1, 1) := by decide +kernel
theorem dX3_known_5 : decode cX3_known 5 = .ok (.aload_n 0, 1) := by decide +kernel
theorem dX3_known_6 : decode cX3_known 6 = .ok (.getfield 11, 3) := by decide +kernel
theorem dX3_known_9 : decode cX3_known 9 = .ok (.arraylength, 1) := by decide +kernel
theorem dX3_known_10 : decode cX3_known 10 = .ok (.if_icmp .lt 13, 3) := by decide +kernel
theorem dX3_known_13 : decode cX3_known 13 = .ok (.new 72, 3) := by decide +kernel
theorem dX3_known_16 : decode cX3_known 16 = .ok (.dup, 1) := by decide +kernel
theorem dX3_known_17 : decode cX3_known 17 = .ok (.ldc 74, 2) := by decide +kernel
theorem dX3_known_19 : decode cX3_known 19 = .ok (.invokespecial 76, 3) := by decide +kernel
theorem dX3_known_22 : decode cX3_known 22 = .ok (.athrow, 1) := by decide +kernel
theorem dX3_known_23 : decode cX3_known 23 = .ok (.aload_n 0, 1) := by decide +kernel
theorem dX3_known_24 : decode cX3_known 24 = .ok (.getfield 11, 3) := by decide +kernel
theorem dX3_known_27 : decode cX3_known 27 = .ok (.iload_n 1, 1) := by decide +kernel
theorem dX3_known_28 : decode cX3_known 28 = .ok (.aaload, 1) := by decide +kernel
theorem dX3_known_29 : decode cX3_known 29 = .ok (.astore_n 2, 1) := by decide +kernel
theorem dX3_known_30 : decode cX3_known 30 = .ok (.aload_n 2, 1) := by decide +kernel
theorem dX3_known_31 : decode cX3_known 31 = .ok (.ifnonnull 13, 3) := by decide +kernel
theorem dX3_known_34 : decode cX3_known 34 = .ok (.new 72, 3) := by decide +kernel
theorem dX3_known_37 : decode cX3_known 37 = .ok (.dup, 1) := by decide +kernel
theorem dX3_known_38 : decode cX3_known 38 = .ok (.ldc 74, 2) := by decide +kernel
theorem dX3_known_40 : decode cX3_known 40 = .ok (.invokespecial 76, 3) := by decide +kernel
theorem dX3_known_43 : decode cX3_known 43 = .ok (.athrow, 1) := by decide +kernel
theorem dX3_known_44 : decode cX3_known 44 = .ok (.aload_n 2, 1) := by decide +kernel
theorem dX3_known_45 : decode cX3_known 45 = .ok (.areturn, 1) := by decide +kernel
theorem dX3_knownOrNone_0 : decode cX3_knownOrNone 0 = .ok (.iload_n 1, 1) := by decide +kernel
theorem dX3_knownOrNone_1 : decode cX3_knownOrNone 1 = .ok (.iconst (-1), 1) := by decide +kernel
theorem dX3_knownOrNone_2 : decode cX3_knownOrNone 2 = .ok (.if_icmp .ne 7, 3) := by decide +kernel
theorem dX3_knownOrNone_5 : decode cX3_knownOrNone 5 = .ok (.aconst_null, 1) := by decide +kernel
theorem dX3_knownOrNone_6 : decode cX3_knownOrNone 6 = .ok (.goto 8, 3) := by decide +kernel
theorem dX3_knownOrNone_9 : decode cX3_knownOrNone 9 = .ok (.aload_n 0, 1) := by decide +kernel
theorem dX3_knownOrNone_10 : decode cX3_knownOrNone 10 = .ok (.iload_n 1, 1) := by decide +kernel
theorem dX3_knownOrNone_11 : decode cX3_knownOrNone 11 = .ok (.invokevirtual 54, 3) := by decide +kernel
theorem dX3_knownOrNone_14 : decode cX3_knownOrNone 14 = .ok (.areturn, 1) := by decide +kernel
theorem dX3_numberOf_0 : decode cX3_numberOf 0 = .ok (.aload_n 0, 1) := by decide +kernel
theorem dX3_numberOf_1 : decode cX3_numberOf 1 = .ok (.ifnonnull 7, 3) := by decide +kernel
theorem dX3_numberOf_4 : decode cX3_numberOf 4 = .ok (.iconst (-1), 1) := by decide +kernel
theorem dX3_numberOf_5 : decode cX3_numberOf 5 = .ok (.goto 7, 3) := by decide +kernel
theorem dX3_numberOf_8 : decode cX3_numberOf 8 = .ok (.aload_n 0, 1) := by decide +kernel
theorem dX3_numberOf_9 : decode cX3_numberOf 9 = .ok (.getfield 77, 3) := by decide +kernel
theorem dX3_numberOf_12 : decode cX3_numberOf 12 = .ok (.ireturn, 1) := by decide +kernel
theorem dX3_isInChain_0 : decode cX3_isInChain 0 = .ok (.aload_n 1, 1) := by decide +kernel
theorem dX3_isInChain_1 : decode cX3_isInChain 1 = .ok (.astore_n 2, 1) := by decide +kernel
theorem dX3_isInChain_2 : decode cX3_isInChain 2 = .ok (.aload_n 2, 1) := by decide +kernel
theorem dX3_isInChain_3 : decode cX3_isInChain 3 = .ok (.ifnull 18, 3) := by decide +kernel
theorem dX3_isInChain_6 : decode cX3_isInChain 6 = .ok (.aload_n 2, 1) := by decide +kernel
theorem dX3_isInChain_7 : decode cX3_isInChain 7 = .ok (.aload_n 0, 1) := by decide +kernel
theorem dX3_isInChain_8 : decode cX3_isInChain 8 = .ok (.if_acmp .ne 5, 3) := by decide +kernel
theorem dX3_isInChain_11 : decode cX3_isInChain 11 = .ok (.iconst 1, 1) := by decide +kernel
theorem dX3_isInChain_12 : decode cX3_isInChain 12 = .ok (.ireturn, 1) := by decide +kernel
theorem dX3_isInChain_13 : decode cX3_isInChain 13 = .ok (.aload_n 2, 1) := by decide +kernel
theorem dX3_isInChain_14 : decode cX3_isInChain 14 = .ok (.getfield 50, 3) := by decide +kernel
theorem dX3_isInChain_17 : decode cX3_isInChain 17 = .ok (.astore_n 2, 1) := by decide +kernel
theorem dX3_isInChain_18 : decode cX3_isInChain 18 = .ok (.goto (-16), 3) := by decide +kernel
theorem dX3_isInChain_21 : decode cX3_isInChain 21 = .ok (.iconst 0, 1) := by decide +kernel
theorem dX3_isInChain_22 : decode cX3_isInChain 22 = .ok (.ireturn, 1) := by decide +kernel
theorem dX3_calibrate_0 : decode cX3_calibrate 0 = .ok (.aload_n 0, 1) := by decide +kernel
theorem dX3_calibrate_1 : decode cX3_calibrate 1 = .ok (.iload_n 1, 1) := by decide +kernel
theorem dX3_calibrate_2 : decode cX3_calibrate 2 = .ok (.invokevirtual 54, 3) := by decide +kernel
theorem dX3_calibrate_5 : decode cX3_calibrate 5 = .ok (.astore 4, 2) := by decide +kernel
theorem dX3_calibrate_7 : decode cX3_calibrate 7 = .ok (.iload_n 2, 1) := by decide +kernel
theorem dX3_calibrate_8 : decode cX3_calibrate 8 = .ok (.invokestatic 80, 3) := by decide +kernel
theorem dX3_calibrate_11 : decode cX3_calibrate 11 = .ok (.ifCond .ne 10, 3) := by decide +kernel
theorem dX3_calibrate_14 : decode cX3_calibrate 14 = .ok (.iload_n 3, 1) := by decide +kernel
theorem dX3_calibrate_15 : decode cX3_calibrate 15 = .ok (.invokestatic 80, 3) := by decide +kernel
theorem dX3_calibrate_18 : decode cX3_calibrate 18 = .ok (.ifCond .eq 13, 3) := by decide +kernel
theorem dX3_calibrate_21 : decode cX3_calibrate 21 = .ok (.new 31, 3) := by decide +kernel
theorem dX3_calibrate_24 : decode cX3_calibrate 24 = .ok (.dup, 1) := by decide +kernel
theorem dX3_calibrate_25 : decode cX3_calibrate 25 = .ok (.ldc 84, 2) := by decide +kernel
theorem dX3_calibrate_27 : decode cX3_calibrate 27 = .ok (.invokespecial 35, 3) := by decide +kernel
theorem dX3_calibrate_30 : decode cX3_calibrate 30 = .ok (.athrow, 1) := by decide +kernel
theorem dX3_calibrate_31 : decode cX3_calibrate 31 = .ok (.aload_n 0, 1) := by decide +kernel
theorem dX3_calibrate_32 : decode cX3_calibrate 32 = .ok (.aload 4, 2) := by decide +kernel
theorem dX3_calibrate_34 : decode cX3_calibrate 34 = .ok (.getfield 50, 3) := by decide +kernel
theorem dX3_calibrate_37 : decode cX3_calibrate 37 = .ok (.invokevirtual 86, 3) := by decide +kernel
theorem dX3_calibrate_40 : decode cX3_calibrate 40 = .ok (.ifnull 13, 3) := by decide +kernel
theorem dX3_calibrate_43 : decode cX3_calibrate 43 = .ok (.new 42, 3) := by decide +kernel
theorem dX3_calibrate_46 : decode cX3_calibrate 46 = .ok (.dup, 1) := by decide +kernel
theorem dX3_calibrate_47 : decode cX3_calibrate 47 = .ok (.ldc 90, 2) := by decide +kernel
theorem dX3_calibrate_49 : decode cX3_calibrate 49 = .ok (.invokespecial 46, 3) := by decide +kernel
theorem dX3_calibrate_52 : decode cX3_calibrate 52 = .ok (.athrow, 1) := by decide +kernel
theorem dX3_calibrate_53 : decode cX3_calibrate 53 = .ok (.aload_n 0, 1) := by decide +kernel
theorem dX3_calibrate_54 : decode cX3_calibrate 54 = .ok (.getfield 92, 3) := by decide +kernel
theorem dX3_calibrate_57 : decode cX3_calibrate 57 = .ok (.istore 5, 2) := by decide +kernel
theorem dX3_calibrate_59 : decode cX3_calibrate 59 = .ok (.iload 5, 2) := by decide +kernel
theorem dX3_calibrate_61 : decode cX3_calibrate 61 = .ok (.ifCond .lt 13, 3) := by decide +kernel
theorem dX3_calibrate_64 : decode cX3_calibrate 64 = .ok (.iload 5, 2) := by decide +kernel
theorem dX3_calibrate_66 : decode cX3_calibrate 66 = .ok (.aload_n 0, 1) := by decide +kernel
theorem dX3_calibrate_67 : decode cX3_calibrate 67 = .ok (.getfield 23, 3) := by decide +kernel
theorem dX3_calibrate_70 : decode cX3_calibrate 70 = .ok (.arraylength, 1) := by decide +kernel
theorem dX3_calibrate_71 : decode cX3_calibrate 71 = .ok (.if_icmp .lt 5, 3) := by decide +kernel
theorem dX3_calibrate_74 : decode cX3_calibrate 74 = .ok (.iconst 0, 1) := by decide +kernel
theorem dX3_calibrate_75 : decode cX3_calibrate 75 = .ok (.ireturn, 1) := by decide +kernel
theorem dX3_calibrate_76 : decode cX3_calibrate 76 = .ok (.aload 4, 2) := by decide +kernel
theorem dX3_calibrate_78 : decode cX3_calibrate 78 = .ok (.getfield 50, 3) := by decide +kernel
theorem dX3_calibrate_81 : decode cX3_calibrate 81 = .ok (.ifnonnull 7, 3) := by decide +kernel
theorem dX3_calibrate_84 : decode cX3_calibrate 84 = .ok (.aconst_null, 1) := by decide +kernel
theorem dX3_calibrate_85 : decode cX3_calibrate 85 = .ok (.goto 11, 3) := by decide +kernel
theorem dX3_calibrate_88 : decode cX3_calibrate 88 = .ok (.aload 4, 2) := by decide +kernel
theorem dX3_calibrate_90 : decode cX3_calibrate 90 = .ok (.getfield 50, 3) := by decide +kernel
theorem dX3_calibrate_93 : decode cX3_calibrate 93 = .ok (.getfield 95, 3) := by decide +kernel
theorem dX3_calibrate_96 : decode cX3_calibrate 96 = .ok (.astore 6, 2) := by decide +kernel
theorem dX3_calibrate_98 : decode cX3_calibrate 98 = .ok (.new 21, 3) := by decide +kernel
theorem dX3_calibrate_101 : decode cX3_calibrate 101 = .ok (.dup, 1) := by decide +kernel
theorem dX3_calibrate_102 : decode cX3_calibrate 102 = .ok (.aload_n 0, 1) := by decide +kernel
theorem dX3_calibrate_103 : decode cX3_calibrate 103 = .ok (.getfield 99, 3) := by decide +kernel
theorem dX3_calibrate_106 : decode cX3_calibrate 106 = .ok (.aload_n 0, 1) := by decide +kernel
theorem dX3_calibrate_107 : decode cX3_calibrate 107 = .ok (.getfield 69, 3) := by decide +kernel
theorem dX3_calibrate_110 : decode cX3_calibrate 110 = .ok (.iload_n 3, 1) := by decide +kernel
theorem dX3_calibrate_111 : decode cX3_calibrate 111 = .ok (.aload 4, 2) := by decide +kernel
theorem dX3_calibrate_113 : decode cX3_calibrate 113 = .ok (.getfield 95, 3) := by decide +kernel
theorem dX3_calibrate_116 : decode cX3_calibrate 116 = .ok (.aload 6, 2) := by decide +kernel
theorem dX3_calibrate_118 : decode cX3_calibrate 118 = .ok (.invokespecial 102, 3) := by decide +kernel
theorem dX3_calibrate_121 : decode cX3_calibrate 121 = .ok (.astore 7, 2) := by decide +kernel
theorem dX3_calibrate_123 : decode cX3_calibrate 123 = .ok (.aload 4, 2) := by decide +kernel
theorem dX3_calibrate_125 : decode cX3_calibrate 125 = .ok (.getfield 95, 3) := by decide +kernel
theorem dX3_calibrate_128 : decode cX3_calibrate 128 = .ok (.ifnonnull 7, 3) := by decide +kernel
theorem dX3_calibrate_131 : decode cX3_calibrate 131 = .ok (.iconst 0, 1) := by decide +kernel
theorem dX3_calibrate_132 : decode cX3_calibrate 132 = .ok (.goto 17, 3) := by decide +kernel
theorem dX3_calibrate_135 : decode cX3_calibrate 135 = .ok (.aload_n 0, 1) := by decide +kernel
theorem dX3_calibrate_136 : decode cX3_calibrate 136 = .ok (.aload 4, 2) := by decide +kernel
theorem dX3_calibrate_138 : decode cX3_calibrate 138 = .ok (.aload 4, 2) := by decide +kernel
theorem dX3_calibrate_140 : decode cX3_calibrate 140 = .ok (.getfield 95, 3) := by decide +kernel
theorem dX3_calibrate_143 : decode cX3_calibrate 143 = .ok (.aload 7, 2) := by decide +kernel
theorem dX3_calibrate_145 : decode cX3_calibrate 145 = .ok (.iload_n 2, 1) := by decide +kernel
theorem dX3_calibrate_146 : decode cX3_calibrate 146 = .ok (.invokevirtual 105, 3) := by decide +kernel
theorem dX3_calibrate_149 : decode cX3_calibrate 149 = .ok (.istore 8, 2) := by decide +kernel
theorem dX3_calibrate_151 : decode cX3_calibrate 151 = .ok (.aload 4, 2) := by decide +kernel
theorem dX3_calibrate_153 : decode cX3_calibrate 153 = .ok (.aload 7, 2) := by decide +kernel
theorem dX3_calibrate_155 : decode cX3_calibrate 155 = .ok (.putfield 95, 3) := by decide +kernel
theorem dX3_calibrate_158 : decode cX3_calibrate 158 = .ok (.aload 4, 2) := by decide +kernel
theorem dX3_calibrate_160 : decode cX3_calibrate 160 = .ok (.invokestatic 109, 3) := by decide +kernel
theorem dX3_calibrate_163 : decode cX3_calibrate 163 = .ok (.aload_n 0, 1) := by decide +kernel
theorem dX3_calibrate_164 : decode cX3_calibrate 164 = .ok (.getfield 23, 3) := by decide +kernel
theorem dX3_calibrate_167 : decode cX3_calibrate 167 = .ok (.iload 5, 2) := by decide +kernel
theorem dX3_calibrate_169 : decode cX3_calibrate 169 = .ok (.aload 7, 2) := by decide +kernel
theorem dX3_calibrate_171 : decode cX3_calibrate 171 = .ok (.aastore, 1) := by decide +kernel
theorem dX3_calibrate_172 : decode cX3_calibrate 172 = .ok (.aload_n 0, 1) := by decide +kernel
theorem dX3_calibrate_173 : decode cX3_calibrate 173 = .ok (.iload 5, 2) := by decide +kernel
theorem dX3_calibrate_175 : decode cX3_calibrate 175 = .ok (.iconst 1, 1) := by decide +kernel
theorem dX3_calibrate_176 : decode cX3_calibrate 176 = .ok (.iadd, 1) := by decide +kernel
theorem dX3_calibrate_177 : decode cX3_calibrate 177 = .ok (.putfield 92, 3) := by decide +kernel
theorem dX3_calibrate_180 : decode cX3_calibrate 180 = .ok (.aload_n 0, 1) := by decide +kernel
theorem dX3_calibrate_181 : decode cX3_calibrate 181 = .ok (.dup, 1) := by decide +kernel
theorem dX3_calibrate_182 : decode cX3_calibrate 182 = .ok (.getfield 99, 3) := by decide +kernel
theorem dX3_calibrate_185 : decode cX3_calibrate 185 = .ok (.iconst 1, 1) := by decide +kernel
theorem dX3_calibrate_186 : decode cX3_calibrate 186 = .ok (.iadd, 1) := by decide +kernel
theorem dX3_calibrate_187 : decode cX3_calibrate 187 = .ok (.putfield 99, 3) := by decide +kernel
theorem dX3_calibrate_190 : decode cX3_calibrate 190 = .ok (.iload 8, 2) := by decide +kernel
theorem dX3_calibrate_192 : decode cX3_calibrate 192 = .ok (.ireturn, 1) := by decide +kernel
theorem dX3_measure_0 : decode cX3_measure 0 = .ok (.aload_n 0, 1) := by decide +kernel
theorem dX3_measure_1 : decode cX3_measure 1 = .ok (.iload_n 1, 1) := by decide +kernel
theorem dX3_measure_2 : decode cX3_measure 2 = .ok (.invokevirtual 54, 3) := by decide +kernel
theorem dX3_measure_5 : decode cX3_measure 5 = .ok (.astore_n 2, 1) := by decide +kernel
theorem dX3_measure_6 : decode cX3_measure 6 = .ok (.aload_n 0, 1) := by decide +kernel
theorem dX3_measure_7 : decode cX3_measure 7 = .ok (.getfield 113, 3) := by decide +kernel
theorem dX3_measure_10 : decode cX3_measure 10 = .ok (.istore_n 3, 1) := by decide +kernel
theorem dX3_measure_11 : decode cX3_measure 11 = .ok (.aload_n 0, 1) := by decide +kernel
theorem dX3_measure_12 : decode cX3_measure 12 = .ok (.aload_n 2, 1) := by decide +kernel
theorem dX3_measure_13 : decode cX3_measure 13 = .ok (.invokevirtual 86, 3) := by decide +kernel
theorem dX3_measure_16 : decode cX3_measure 16 = .ok (.ifnonnull 16, 3) := by decide +kernel
theorem dX3_measure_19 : decode cX3_measure 19 = .ok (.iload_n 3, 1) := by decide +kernel
theorem dX3_measure_20 : decode cX3_measure 20 = .ok (.ifCond .lt 12, 3) := by decide +kernel
theorem dX3_measure_23 : decode cX3_measure 23 = .ok (.iload_n 3, 1) := by decide +kernel
theorem dX3_measure_24 : decode cX3_measure 24 = .ok (.aload_n 0, 1) := by decide +kernel
theorem dX3_measure_25 : decode cX3_measure 25 = .ok (.getfield 17, 3) := by decide +kernel
theorem dX3_measure_28 : decode cX3_measure 28 = .ok (.arraylength, 1) := by decide +kernel
theorem dX3_measure_29 : decode cX3_measure 29 = .ok (.if_icmp .lt 13, 3) := by decide +kernel
theorem dX3_measure_32 : decode cX3_measure 32 = .ok (.new 42, 3) := by decide +kernel
theorem dX3_measure_35 : decode cX3_measure 35 = .ok (.dup, 1) := by decide +kernel
theorem dX3_measure_36 : decode cX3_measure 36 = .ok (.ldc 116, 2) := by decide +kernel
theorem dX3_measure_38 : decode cX3_measure 38 = .ok (.invokespecial 46, 3) := by decide +kernel
theorem dX3_measure_41 : decode cX3_measure 41 = .ok (.athrow, 1) := by decide +kernel
theorem dX3_measure_42 : decode cX3_measure 42 = .ok (.aload_n 0, 1) := by decide +kernel
theorem dX3_measure_43 : decode cX3_measure 43 = .ok (.getfield 17, 3) := by decide +kernel
theorem dX3_measure_46 : decode cX3_measure 46 = .ok (.iload_n 3, 1) := by decide +kernel
theorem dX3_measure_47 : decode cX3_measure 47 = .ok (.new 15, 3) := by decide +kernel
theorem dX3_measure_50 : decode cX3_measure 50 = .ok (.dup, 1) := by decide +kernel
theorem dX3_measure_51 : decode cX3_measure 51 = .ok (.aload_n 0, 1) := by decide +kernel
theorem dX3_measure_52 : decode cX3_measure 52 = .ok (.getfield 99, 3) := by decide +kernel
theorem dX3_measure_55 : decode cX3_measure 55 = .ok (.aload_n 2, 1) := by decide +kernel
theorem dX3_measure_56 : decode cX3_measure 56 = .ok (.getfield 95, 3) := by decide +kernel
theorem dX3_measure_59 : decode cX3_measure 59 = .ok (.invokespecial 118, 3) := by decide +kernel
theorem dX3_measure_62 : decode cX3_measure 62 = .ok (.aastore, 1) := by decide +kernel
theorem dX3_measure_63 : decode cX3_measure 63 = .ok (.aload_n 0, 1) := by decide +kernel
theorem dX3_measure_64 : decode cX3_measure 64 = .ok (.iload_n 3, 1) := by decide +kernel
theorem dX3_measure_65 : decode cX3_measure 65 = .ok (.iconst 1, 1) := by decide +kernel
theorem dX3_measure_66 : decode cX3_measure 66 = .ok (.iadd, 1) := by decide +kernel
theorem dX3_measure_67 : decode cX3_measure 67 = .ok (.putfield 113, 3) := by decide +kernel
theorem dX3_measure_70 : decode cX3_measure 70 = .ok (.aload_n 0, 1) := by decide +kernel
theorem dX3_measure_71 : decode cX3_measure 71 = .ok (.dup, 1) := by decide +kernel
theorem dX3_measure_72 : decode cX3_measure 72 = .ok (.getfield 99, 3) := by decide +kernel
theorem dX3_measure_75 : decode cX3_measure 75 = .ok (.iconst 1, 1) := by decide +kernel
theorem dX3_measure_76 : decode cX3_measure 76 = .ok (.iadd, 1) := by decide +kernel
theorem dX3_measure_77 : decode cX3_measure 77 = .ok (.putfield 99, 3) := by decide +kernel
theorem dX3_measure_80 : decode cX3_measure 80 = .ok (.iload_n 3, 1) := by decide +kernel
theorem dX3_measure_81 : decode cX3_measure 81 = .ok (.ireturn, 1) := by decide +kernel
theorem dX3_isNoError_0 : decode cX3_isNoError 0 = .ok (.iload_n 0, 1) := by decide +kernel
theorem dX3_isNoError_1 : decode cX3_isNoError 1 = .ok (.ldc 121, 2) := by decide +kernel
theorem dX3_isNoError_3 : decode cX3_isNoError 3 = .ok (.if_icmp .lt 9, 3) := by decide +kernel
theorem dX3_isNoError_6 : decode cX3_isNoError 6 = .ok (.iload_n 0, 1) := by decide +kernel
theorem dX3_isNoError_7 : decode cX3_isNoError 7 = .ok (.ldc 122, 2) := by decide +kernel
theorem dX3_isNoError_9 : decode cX3_isNoError 9 = .ok (.if_icmp .le 7, 3) := by decide +kernel
theorem dX3_isNoError_12 : decode cX3_isNoError 12 = .ok (.iconst 1, 1) := by decide +kernel
theorem dX3_isNoError_13 : decode cX3_isNoError 13 = .ok (.goto 4, 3) := by decide +kernel
theorem dX3_isNoError_16 : decode cX3_isNoError 16 = .ok (.iconst 0, 1) := by decide +kernel
theorem dX3_isNoError_17 : decode cX3_isNoError 17 = .ok (.ireturn, 1) := by decide +kernel
theorem dX3_settle_0 : decode cX3_settle 0 = .ok (.iload 4, 2) := by decide +kernel
theorem dX3_settle_2 : decode cX3_settle 2 = .ok (.invokestatic 123, 3) := by decide +kernel
theorem dX3_settle_5 : decode cX3_settle 5 = .ok (.istore 5, 2) := by decide +kernel
theorem dX3_settle_7 : decode cX3_settle 7 = .ok (.iconst 0, 1) := by decide +kernel
theorem dX3_settle_8 : decode cX3_settle 8 = .ok (.istore 6, 2) := by decide +kernel
theorem dX3_settle_10 : decode cX3_settle 10 = .ok (.iload 5, 2) := by decide +kernel
theorem dX3_settle_12 : decode cX3_settle 12 = .ok (.aload_n 1, 1) := by decide +kernel
theorem dX3_settle_13 : decode cX3_settle 13 = .ok (.getfield 129, 3) := by decide +kernel
theorem dX3_settle_16 : decode cX3_settle 16 = .ok (.if_icmp .le 25, 3) := by decide +kernel
theorem dX3_settle_19 : decode cX3_settle 19 = .ok (.aload_n 3, 1) := by decide +kernel
theorem dX3_settle_20 : decode cX3_settle 20 = .ok (.iconst 1, 1) := by decide +kernel
theorem dX3_settle_21 : decode cX3_settle 21 = .ok (.putfield 132, 3) := by decide +kernel
theorem dX3_settle_24 : decode cX3_settle 24 = .ok (.aload_n 1, 1) := by decide +kernel
theorem dX3_settle_25 : decode cX3_settle 25 = .ok (.dup, 1) := by decide +kernel
theorem dX3_settle_26 : decode cX3_settle 26 = .ok (.getfield 136, 3) := by decide +kernel
theorem dX3_settle_29 : decode cX3_settle 29 = .ok (.iconst 1, 1) := by decide +kernel
theorem dX3_settle_30 : decode cX3_settle 30 = .ok (.iadd, 1) := by decide +kernel
theorem dX3_settle_31 : decode cX3_settle 31 = .ok (.putfield 136, 3) := by decide +kernel
theorem dX3_settle_34 : decode cX3_settle 34 = .ok (.aload_n 0, 1) := by decide +kernel
theorem dX3_settle_35 : decode cX3_settle 35 = .ok (.aload_n 2, 1) := by decide +kernel
theorem dX3_settle_36 : decode cX3_settle 36 = .ok (.invokevirtual 138, 3) := by decide +kernel
theorem dX3_settle_39 : decode cX3_settle 39 = .ok (.istore 6, 2) := by decide +kernel
theorem dX3_settle_41 : decode cX3_settle 41 = .ok (.aload_n 1, 1) := by decide +kernel
theorem dX3_settle_42 : decode cX3_settle 42 = .ok (.aload_n 1, 1) := by decide +kernel
theorem dX3_settle_43 : decode cX3_settle 43 = .ok (.iload 5, 2) := by decide +kernel
theorem dX3_settle_45 : decode cX3_settle 45 = .ok (.invokestatic 142, 3) := by decide +kernel
theorem dX3_settle_48 : decode cX3_settle 48 = .ok (.putfield 146, 3) := by decide +kernel
theorem dX3_settle_51 : decode cX3_settle 51 = .ok (.aload_n 3, 1) := by decide +kernel
theorem dX3_settle_52 : decode cX3_settle 52 = .ok (.getfield 149, 3) := by decide +kernel
theorem dX3_settle_55 : decode cX3_settle 55 = .ok (.aload_n 2, 1) := by decide +kernel
theorem dX3_settle_56 : decode cX3_settle 56 = .ok (.getfield 149, 3) := by decide +kernel
theorem dX3_settle_59 : decode cX3_settle 59 = .ok (.if_icmp .le 27, 3) := by decide +kernel
theorem dX3_settle_62 : decode cX3_settle 62 = .ok (.aload_n 3, 1) := by decide +kernel
theorem dX3_settle_63 : decode cX3_settle 63 = .ok (.aload_n 3, 1) := by decide +kernel
theorem dX3_settle_64 : decode cX3_settle 64 = .ok (.getfield 149, 3) := by decide +kernel
theorem dX3_settle_67 : decode cX3_settle 67 = .ok (.aload_n 2, 1) := by decide +kernel
theorem dX3_settle_68 : decode cX3_settle 68 = .ok (.getfield 149, 3) := by decide +kernel
theorem dX3_settle_71 : decode cX3_settle 71 = .ok (.isub, 1) := by decide +kernel
theorem dX3_settle_72 : decode cX3_settle 72 = .ok (.putfield 152, 3) := by decide +kernel
theorem dX3_settle_75 : decode cX3_settle 75 = .ok (.aload_n 3, 1) := by decide +kernel
theorem dX3_settle_76 : decode cX3_settle 76 = .ok (.iload 4, 2) := by decide +kernel
theorem dX3_settle_78 : decode cX3_settle 78 = .ok (.aload_n 2, 1) := by decide +kernel
theorem dX3_settle_79 : decode cX3_settle 79 = .ok (.getfield 155, 3) := by decide +kernel
theorem dX3_settle_82 : decode cX3_settle 82 = .ok (.isub, 1) := by decide +kernel
theorem dX3_settle_83 : decode cX3_settle 83 = .ok (.putfield 158, 3) := by decide +kernel
theorem dX3_settle_86 : decode cX3_settle 86 = .ok (.aload_n 2, 1) := by decide +kernel
theorem dX3_settle_87 : decode cX3_settle 87 = .ok (.aload_n 3, 1) := by decide +kernel
theorem dX3_settle_88 : decode cX3_settle 88 = .ok (.getfield 161, 3) := by decide +kernel
theorem dX3_settle_91 : decode cX3_settle 91 = .ok (.putfield 162, 3) := by decide +kernel
theorem dX3_settle_94 : decode cX3_settle 94 = .ok (.iload 6, 2) := by decide +kernel
theorem dX3_settle_96 : decode cX3_settle 96 = .ok (.ireturn, 1) := by decide +kernel
theorem dX3_nextInterval_0 : decode cX3_nextInterval 0 = .ok (.iload_n 1, 1) := by decide +kernel
theorem dX3_nextInterval_1 : decode cX3_nextInterval 1 = .ok (.aload_n 0, 1) := by decide +kernel
theorem dX3_nextInterval_2 : decode cX3_nextInterval 2 = .ok (.getfield 129, 3) := by decide +kernel
theorem dX3_nextInterval_5 : decode cX3_nextInterval 5 = .ok (.if_icmp .le 14, 3) := by decide +kernel
theorem dX3_nextInterval_8 : decode cX3_nextInterval 8 = .ok (.iconst 1, 1) := by decide +kernel
theorem dX3_nextInterval_9 : decode cX3_nextInterval 9 = .ok (.aload_n 0, 1) := by decide +kernel
theorem dX3_nextInterval_10 : decode cX3_nextInterval 10 = .ok (.getfield 146, 3) := by decide +kernel
theorem dX3_nextInterval_13 : decode cX3_nextInterval 13 = .ok (.iconst 2, 1) := by decide +kernel
theorem dX3_nextInterval_14 : decode cX3_nextInterval 14 = .ok (.idiv, 1) := by decide +kernel
theorem dX3_nextInterval_15 : decode cX3_nextInterval 15 = .ok (.invokestatic 165, 3) := by decide +kernel
theorem dX3_nextInterval_18 : decode cX3_nextInterval 18 = .ok (.ireturn, 1) := by decide +kernel
theorem dX3_nextInterval_19 : decode cX3_nextInterval 19 = .ok (.iconst 2, 1) := by decide +kernel
theorem dX3_nextInterval_20 : decode cX3_nextInterval 20 = .ok (.iload_n 1, 1) := by decide +kernel
theorem dX3_nextInterval_21 : decode cX3_nextInterval 21 = .ok (.imul, 1) := by decide +kernel
theorem dX3_nextInterval_22 : decode cX3_nextInterval 22 = .ok (.aload_n 0, 1) := by decide +kernel
theorem dX3_nextInterval_23 : decode cX3_nextInterval 23 = .ok (.getfield 129, 3) := by decide +kernel
theorem dX3_nextInterval_26 : decode cX3_nextInterval 26 = .ok (.if_icmp .gt 21, 3) := by decide +kernel
theorem dX3_nextInterval_29 : decode cX3_nextInterval 29 = .ok (.sipush 999, 3) := by decide +kernel
theorem dX3_nextInterval_32 : decode cX3_nextInterval 32 = .ok (.aload_n 0, 1) := by decide +kernel
theorem dX3_nextInterval_33 : decode cX3_nextInterval 33 = .ok (.getfield 146, 3) := by decide +kernel
theorem dX3_nextInterval_36 : decode cX3_nextInterval 36 = .ok (.aload_n 0, 1) := by decide +kernel
theorem dX3_nextInterval_37 : decode cX3_nextInterval 37 = .ok (.getfield 146, 3) := by decide +kernel
theorem dX3_nextInterval_40 : decode cX3_nextInterval 40 = .ok (.iconst 4, 1) := by decide +kernel
theorem dX3_nextInterval_41 : decode cX3_nextInterval 41 = .ok (.idiv, 1) := by decide +kernel
theorem dX3_nextInterval_42 : decode cX3_nextInterval 42 = .ok (.iadd, 1) := by decide +kernel
theorem dX3_nextInterval_43 : decode cX3_nextInterval 43 = .ok (.invokestatic 169, 3) := by decide +kernel
theorem dX3_nextInterval_46 : decode cX3_nextInterval 46 = .ok (.ireturn, 1) := by decide +kernel
theorem dX3_nextInterval_47 : decode cX3_nextInterval 47 = .ok (.aload_n 0, 1) := by decide +kernel
theorem dX3_nextInterval_48 : decode cX3_nextInterval 48 = .ok (.getfield 146, 3) := by decide +kernel
theorem dX3_nextInterval_51 : decode cX3_nextInterval 51 = .ok (.ireturn, 1) := by decide +kernel
theorem dX3_sumPoints_0 : decode cX3_sumPoints 0 = .ok (.aload_n 0, 1) := by decide +kernel
theorem dX3_sumPoints_1 : decode cX3_sumPoints 1 = .ok (.lconst 0, 1) := by decide +kernel
theorem dX3_sumPoints_2 : decode cX3_sumPoints 2 = .ok (.putfield 172, 3) := by decide +kernel
theorem dX3_sumPoints_5 : decode cX3_sumPoints 5 = .ok (.aload_n 0, 1) := by decide +kernel
theorem dX3_sumPoints_6 : decode cX3_sumPoints 6 = .ok (.lconst 0, 1) := by decide +kernel
theorem dX3_sumPoints_7 : decode cX3_sumPoints 7 = .ok (.putfield 176, 3) := by decide +kernel
theorem dX3_sumPoints_10 : decode cX3_sumPoints 10 = .ok (.iconst 0, 1) := by decide +kernel
theorem dX3_sumPoints_11 : decode cX3_sumPoints 11 = .ok (.istore_n 1, 1) := by decide +kernel
theorem dX3_sumPoints_12 : decode cX3_sumPoints 12 = .ok (.aload_n 0, 1) := by decide +kernel
theorem dX3_sumPoints_13 : decode cX3_sumPoints 13 = .ok (.getfield 95, 3) := by decide +kernel
theorem dX3_sumPoints_16 : decode cX3_sumPoints 16 = .ok (.astore_n 2, 1) := by decide +kernel
theorem dX3_sumPoints_17 : decode cX3_sumPoints 17 = .ok (.aload_n 2, 1) := by decide +kernel
theorem dX3_sumPoints_18 : decode cX3_sumPoints 18 = .ok (.ifnull 67, 3) := by decide +kernel
theorem dX3_sumPoints_21 : decode cX3_sumPoints 21 = .ok (.iload_n 1, 1) := by decide +kernel
theorem dX3_sumPoints_22 : decode cX3_sumPoints 22 = .ok (.bipush 8, 2) := by decide +kernel
theorem dX3_sumPoints_24 : decode cX3_sumPoints 24 = .ok (.if_icmp .ge 61, 3) := by decide +kernel
theorem dX3_sumPoints_27 : decode cX3_sumPoints 27 = .ok (.aload_n 2, 1) := by decide +kernel
theorem dX3_sumPoints_28 : decode cX3_sumPoints 28 = .ok (.getfield 152, 3) := by decide +kernel
theorem dX3_sumPoints_31 : decode cX3_sumPoints 31 = .ok (.ifCond .le 46, 3) := by decide +kernel
theorem dX3_sumPoints_34 : decode cX3_sumPoints 34 = .ok (.iinc 1 1, 3) := by decide +kernel
theorem dX3_sumPoints_37 : decode cX3_sumPoints 37 = .ok (.aload_n 0, 1) := by decide +kernel
theorem dX3_sumPoints_38 : decode cX3_sumPoints 38 = .ok (.dup, 1) := by decide +kernel
theorem dX3_sumPoints_39 : decode cX3_sumPoints 39 = .ok (.getfield 172, 3) := by decide +kernel
theorem dX3_sumPoints_42 : decode cX3_sumPoints 42 = .ok (.aload_n 2, 1) := by decide +kernel
theorem dX3_sumPoints_43 : decode cX3_sumPoints 43 = .ok (.getfield 152, 3) := by decide +kernel
theorem dX3_sumPoints_46 : decode cX3_sumPoints 46 = .ok (.i2l, 1) := by decide +kernel
theorem dX3_sumPoints_47 : decode cX3_sumPoints 47 = .ok (.aload_n 2, 1) := by decide +kernel
theorem dX3_sumPoints_48 : decode cX3_sumPoints 48 = .ok (.getfield 158, 3) := by decide +kernel
theorem dX3_sumPoints_51 : decode cX3_sumPoints 51 = .ok (.i2l, 1) := by decide +kernel
theorem dX3_sumPoints_52 : decode cX3_sumPoints 52 = .ok (.lmul, 1) := by decide +kernel
theorem dX3_sumPoints_53 : decode cX3_sumPoints 53 = .ok (.ladd, 1) := by decide +kernel
theorem dX3_sumPoints_54 : decode cX3_sumPoints 54 = .ok (.putfield 172, 3) := by decide +kernel
theorem dX3_sumPoints_57 : decode cX3_sumPoints 57 = .ok (.aload_n 0, 1) := by decide +kernel
theorem dX3_sumPoints_58 : decode cX3_sumPoints 58 = .ok (.dup, 1) := by decide +kernel
theorem dX3_sumPoints_59 : decode cX3_sumPoints 59 = .ok (.getfield 176, 3) := by decide +kernel
theorem dX3_sumPoints_62 : decode cX3_sumPoints 62 = .ok (.aload_n 2, 1) := by decide +kernel
theorem dX3_sumPoints_63 : decode cX3_sumPoints 63 = .ok (.getfield 152, 3) := by decide +kernel
theorem dX3_sumPoints_66 : decode cX3_sumPoints 66 = .ok (.i2l, 1) := by decide +kernel
theorem dX3_sumPoints_67 : decode cX3_sumPoints 67 = .ok (.aload_n 2, 1) := by decide +kernel
theorem dX3_sumPoints_68 : decode cX3_sumPoints 68 = .ok (.getfield 152, 3) := by decide +kernel
theorem dX3_sumPoints_71 : decode cX3_sumPoints 71 = .ok (.i2l, 1) := by decide +kernel
theorem dX3_sumPoints_72 : decode cX3_sumPoints 72 = .ok (.lmul, 1) := by decide +kernel
theorem dX3_sumPoints_73 : decode cX3_sumPoints 73 = .ok (.ladd, 1) := by decide +kernel
theorem dX3_sumPoints_74 : decode cX3_sumPoints 74 = .ok (.putfield 176, 3) := by decide +kernel
theorem dX3_sumPoints_77 : decode cX3_sumPoints 77 = .ok (.aload_n 2, 1) := by decide +kernel
theorem dX3_sumPoints_78 : decode cX3_sumPoints 78 = .ok (.getfield 179, 3) := by decide +kernel
theorem dX3_sumPoints_81 : decode cX3_sumPoints 81 = .ok (.astore_n 2, 1) := by decide +kernel
theorem dX3_sumPoints_82 : decode cX3_sumPoints 82 = .ok (.goto (-65), 3) := by decide +kernel
theorem dX3_sumPoints_85 : decode cX3_sumPoints 85 = .ok (.return_, 1) := by decide +kernel
theorem dX3_intervalOf_0 : decode cX3_intervalOf 0 = .ok (.aload_n 0, 1) := by decide +kernel
theorem dX3_intervalOf_1 : decode cX3_intervalOf 1 = .ok (.iload_n 1, 1) := by decide +kernel
theorem dX3_intervalOf_2 : decode cX3_intervalOf 2 = .ok (.invokevirtual 54, 3) := by decide +kernel
theorem dX3_intervalOf_5 : decode cX3_intervalOf 5 = .ok (.getfield 146, 3) := by decide +kernel
theorem dX3_intervalOf_8 : decode cX3_intervalOf 8 = .ok (.ireturn, 1) := by decide +kernel
theorem dX3_dueOf_0 : decode cX3_dueOf 0 = .ok (.aload_n 0, 1) := by decide +kernel
theorem dX3_dueOf_1 : decode cX3_dueOf 1 = .ok (.iload_n 1, 1) := by decide +kernel
theorem dX3_dueOf_2 : decode cX3_dueOf 2 = .ok (.invokevirtual 54, 3) := by decide +kernel
theorem dX3_dueOf_5 : decode cX3_dueOf 5 = .ok (.astore_n 2, 1) := by decide +kernel
theorem dX3_dueOf_6 : decode cX3_dueOf 6 = .ok (.aload_n 2, 1) := by decide +kernel
theorem dX3_dueOf_7 : decode cX3_dueOf 7 = .ok (.getfield 95, 3) := by decide +kernel
theorem dX3_dueOf_10 : decode cX3_dueOf 10 = .ok (.ifnonnull 7, 3) := by decide +kernel
theorem dX3_dueOf_13 : decode cX3_dueOf 13 = .ok (.iconst (-1), 1) := by decide +kernel
theorem dX3_dueOf_14 : decode cX3_dueOf 14 = .ok (.goto 11, 3) := by decide +kernel
theorem dX3_dueOf_17 : decode cX3_dueOf 17 = .ok (.aload_n 2, 1) := by decide +kernel
theorem dX3_dueOf_18 : decode cX3_dueOf 18 = .ok (.aload_n 2, 1) := by decide +kernel
theorem dX3_dueOf_19 : decode cX3_dueOf 19 = .ok (.getfield 95, 3) := by decide +kernel
theorem dX3_dueOf_22 : decode cX3_dueOf 22 = .ok (.invokestatic 182, 3) := by decide +kernel
theorem dX3_dueOf_25 : decode cX3_dueOf 25 = .ok (.ireturn, 1) := by decide +kernel
theorem dX3_isSuspect_0 : decode cX3_isSuspect 0 = .ok (.aload_n 0, 1) := by decide +kernel
theorem dX3_isSuspect_1 : decode cX3_isSuspect 1 = .ok (.iload_n 1, 1) := by decide +kernel
theorem dX3_isSuspect_2 : decode cX3_isSuspect 2 = .ok (.invokevirtual 54, 3) := by decide +kernel
theorem dX3_isSuspect_5 : decode cX3_isSuspect 5 = .ok (.astore_n 2, 1) := by decide +kernel
theorem dX3_isSuspect_6 : decode cX3_isSuspect 6 = .ok (.aload_n 2, 1) := by decide +kernel
theorem dX3_isSuspect_7 : decode cX3_isSuspect 7 = .ok (.getfield 95, 3) := by decide +kernel
theorem dX3_isSuspect_10 : decode cX3_isSuspect 10 = .ok (.ifnull 17, 3) := by decide +kernel
theorem dX3_isSuspect_13 : decode cX3_isSuspect 13 = .ok (.aload_n 2, 1) := by decide +kernel
theorem dX3_isSuspect_14 : decode cX3_isSuspect 14 = .ok (.getfield 95, 3) := by decide +kernel
theorem dX3_isSuspect_17 : decode cX3_isSuspect 17 = .ok (.getfield 186, 3) := by decide +kernel
theorem dX3_isSuspect_20 : decode cX3_isSuspect 20 = .ok (.ifCond .eq 7, 3) := by decide +kernel
theorem dX3_isSuspect_23 : decode cX3_isSuspect 23 = .ok (.iconst 1, 1) := by decide +kernel
theorem dX3_isSuspect_24 : decode cX3_isSuspect 24 = .ok (.goto 4, 3) := by decide +kernel
theorem dX3_isSuspect_27 : decode cX3_isSuspect 27 = .ok (.iconst 0, 1) := by decide +kernel
theorem dX3_isSuspect_28 : decode cX3_isSuspect 28 = .ok (.ireturn, 1) := by decide +kernel
theorem dX3_distrusted_0 : decode cX3_distrusted 0 = .ok (.aload_n 0, 1) := by decide +kernel
theorem dX3_distrusted_1 : decode cX3_distrusted 1 = .ok (.aload_n 0, 1) := by decide +kernel
theorem dX3_distrusted_2 : decode cX3_distrusted 2 = .ok (.iload_n 1, 1) := by decide +kernel
theorem dX3_distrusted_3 : decode cX3_distrusted 3 = .ok (.invokevirtual 54, 3) := by decide +kernel
theorem dX3_distrusted_6 : decode cX3_distrusted 6 = .ok (.invokevirtual 86, 3) := by decide +kernel
theorem dX3_distrusted_9 : decode cX3_distrusted 9 = .ok (.invokestatic 63, 3) := by decide +kernel
theorem dX3_distrusted_12 : decode cX3_distrusted 12 = .ok (.ireturn, 1) := by decide +kernel
theorem dX3_chain_0 : decode cX3_chain 0 = .ok (.iconst 0, 1) := by decide +kernel
theorem dX3_chain_1 : decode cX3_chain 1 = .ok (.istore_n 2, 1) := by decide +kernel
theorem dX3_chain_2 : decode cX3_chain 2 = .ok (.aload_n 0, 1) := by decide +kernel
theorem dX3_chain_3 : decode cX3_chain 3 = .ok (.iload_n 1, 1) := by decide +kernel
theorem dX3_chain_4 : decode cX3_chain 4 = .ok (.invokevirtual 54, 3) := by decide +kernel
theorem dX3_chain_7 : decode cX3_chain 7 = .ok (.astore_n 3, 1) := by decide +kernel
theorem dX3_chain_8 : decode cX3_chain 8 = .ok (.aload_n 3, 1) := by decide +kernel
theorem dX3_chain_9 : decode cX3_chain 9 = .ok (.ifnull 14, 3) := by decide +kernel
theorem dX3_chain_12 : decode cX3_chain 12 = .ok (.iinc 2 1, 3) := by decide +kernel
theorem dX3_chain_15 : decode cX3_chain 15 = .ok (.aload_n 3, 1) := by decide +kernel
theorem dX3_chain_16 : decode cX3_chain 16 = .ok (.getfield 50, 3) := by decide +kernel
theorem dX3_chain_19 : decode cX3_chain 19 = .ok (.astore_n 3, 1) := by decide +kernel
theorem dX3_chain_20 : decode cX3_chain 20 = .ok (.goto (-12), 3) := by decide +kernel
theorem dX3_chain_23 : decode cX3_chain 23 = .ok (.iload_n 2, 1) := by decide +kernel
theorem dX3_chain_24 : decode cX3_chain 24 = .ok (.ireturn, 1) := by decide +kernel
theorem dX3_failures_0 : decode cX3_failures 0 = .ok (.aload_n 0, 1) := by decide +kernel
theorem dX3_failures_1 : decode cX3_failures 1 = .ok (.iload_n 1, 1) := by decide +kernel
theorem dX3_failures_2 : decode cX3_failures 2 = .ok (.invokevirtual 54, 3) := by decide +kernel
theorem dX3_failures_5 : decode cX3_failures 5 = .ok (.getfield 136, 3) := by decide +kernel
theorem dX3_failures_8 : decode cX3_failures 8 = .ok (.ireturn, 1) := by decide +kernel
theorem dX3_dueDay_0 : decode cX3_dueDay 0 = .ok (.aload_n 1, 1) := by decide +kernel
theorem dX3_dueDay_1 : decode cX3_dueDay 1 = .ok (.getfield 149, 3) := by decide +kernel
theorem dX3_dueDay_4 : decode cX3_dueDay 4 = .ok (.aload_n 0, 1) := by decide +kernel
theorem dX3_dueDay_5 : decode cX3_dueDay 5 = .ok (.getfield 146, 3) := by decide +kernel
theorem dX3_dueDay_8 : decode cX3_dueDay 8 = .ok (.iadd, 1) := by decide +kernel
theorem dX3_dueDay_9 : decode cX3_dueDay 9 = .ok (.ireturn, 1) := by decide +kernel
theorem dX3_isInForce_0 : decode cX3_isInForce 0 = .ok (.aload_n 1, 1) := by decide +kernel
theorem dX3_isInForce_1 : decode cX3_isInForce 1 = .ok (.getfield 95, 3) := by decide +kernel
theorem dX3_isInForce_4 : decode cX3_isInForce 4 = .ok (.ifnull 32, 3) := by decide +kernel
theorem dX3_isInForce_7 : decode cX3_isInForce 7 = .ok (.aload_n 0, 1) := by decide +kernel
theorem dX3_isInForce_8 : decode cX3_isInForce 8 = .ok (.getfield 69, 3) := by decide +kernel
theorem dX3_isInForce_11 : decode cX3_isInForce 11 = .ok (.aload_n 1, 1) := by decide +kernel
theorem dX3_isInForce_12 : decode cX3_isInForce 12 = .ok (.aload_n 1, 1) := by decide +kernel
theorem dX3_isInForce_13 : decode cX3_isInForce 13 = .ok (.getfield 95, 3) := by decide +kernel
theorem dX3_isInForce_16 : decode cX3_isInForce 16 = .ok (.invokestatic 182, 3) := by decide +kernel
theorem dX3_isInForce_19 : decode cX3_isInForce 19 = .ok (.if_icmp .gt 17, 3) := by decide +kernel
theorem dX3_isInForce_22 : decode cX3_isInForce 22 = .ok (.aload_n 1, 1) := by decide +kernel
theorem dX3_isInForce_23 : decode cX3_isInForce 23 = .ok (.getfield 95, 3) := by decide +kernel
theorem dX3_isInForce_26 : decode cX3_isInForce 26 = .ok (.getfield 186, 3) := by decide +kernel
theorem dX3_isInForce_29 : decode cX3_isInForce 29 = .ok (.ifCond .ne 7, 3) := by decide +kernel
theorem dX3_isInForce_32 : decode cX3_isInForce 32 = .ok (.iconst 1, 1) := by decide +kernel
theorem dX3_isInForce_33 : decode cX3_isInForce 33 = .ok (.goto 4, 3) := by decide +kernel
theorem dX3_isInForce_36 : decode cX3_isInForce 36 = .ok (.iconst 0, 1) := by decide +kernel
theorem dX3_isInForce_37 : decode cX3_isInForce 37 = .ok (.ireturn, 1) := by decide +kernel
theorem dX3_firstOutOfForce_0 : decode cX3_firstOutOfForce 0 = .ok (.aload_n 1, 1) := by decide +kernel
theorem dX3_firstOutOfForce_1 : decode cX3_firstOutOfForce 1 = .ok (.astore_n 2, 1) := by decide +kernel
theorem dX3_firstOutOfForce_2 : decode cX3_firstOutOfForce 2 = .ok (.aload_n 2, 1) := by decide +kernel
theorem dX3_firstOutOfForce_3 : decode cX3_firstOutOfForce 3 = .ok (.ifnull 21, 3) := by decide +kernel
theorem dX3_firstOutOfForce_6 : decode cX3_firstOutOfForce 6 = .ok (.aload_n 0, 1) := by decide +kernel
theorem dX3_firstOutOfForce_7 : decode cX3_firstOutOfForce 7 = .ok (.aload_n 2, 1) := by decide +kernel
theorem dX3_firstOutOfForce_8 : decode cX3_firstOutOfForce 8 = .ok (.invokevirtual 189, 3) := by decide +kernel
theorem dX3_firstOutOfForce_11 : decode cX3_firstOutOfForce 11 = .ok (.ifCond .ne 5, 3) := by decide +kernel
theorem dX3_firstOutOfForce_14 : decode cX3_firstOutOfForce 14 = .ok (.aload_n 2, 1) := by decide +kernel
theorem dX3_firstOutOfForce_15 : decode cX3_firstOutOfForce 15 = .ok (.areturn, 1) := by decide +kernel
theorem dX3_firstOutOfForce_16 : decode cX3_firstOutOfForce 16 = .ok (.aload_n 2, 1) := by decide +kernel
theorem dX3_firstOutOfForce_17 : decode cX3_firstOutOfForce 17 = .ok (.getfield 50, 3) := by decide +kernel
theorem dX3_firstOutOfForce_20 : decode cX3_firstOutOfForce 20 = .ok (.astore_n 2, 1) := by decide +kernel
theorem dX3_firstOutOfForce_21 : decode cX3_firstOutOfForce 21 = .ok (.goto (-19), 3) := by decide +kernel
theorem dX3_firstOutOfForce_24 : decode cX3_firstOutOfForce 24 = .ok (.aconst_null, 1) := by decide +kernel
theorem dX3_firstOutOfForce_25 : decode cX3_firstOutOfForce 25 = .ok (.areturn, 1) := by decide +kernel
theorem dX3_slope_0 : decode cX3_slope 0 = .ok (.aload_n 0, 1) := by decide +kernel
theorem dX3_slope_1 : decode cX3_slope 1 = .ok (.iload_n 1, 1) := by decide +kernel
theorem dX3_slope_2 : decode cX3_slope 2 = .ok (.invokevirtual 54, 3) := by decide +kernel
theorem dX3_slope_5 : decode cX3_slope 5 = .ok (.astore_n 2, 1) := by decide +kernel
theorem dX3_slope_6 : decode cX3_slope 6 = .ok (.aload_n 2, 1) := by decide +kernel
theorem dX3_slope_7 : decode cX3_slope 7 = .ok (.getfield 176, 3) := by decide +kernel
theorem dX3_slope_10 : decode cX3_slope 10 = .ok (.lconst 0, 1) := by decide +kernel
theorem dX3_slope_11 : decode cX3_slope 11 = .ok (.lcmp, 1) := by decide +kernel
theorem dX3_slope_12 : decode cX3_slope 12 = .ok (.ifCond .gt 5, 3) := by decide +kernel
theorem dX3_slope_15 : decode cX3_slope 15 = .ok (.dconst 0, 1) := by decide +kernel
theorem dX3_slope_16 : decode cX3_slope 16 = .ok (.dreturn, 1) := by decide +kernel
theorem dX3_slope_17 : decode cX3_slope 17 = .ok (.aload_n 2, 1) := by decide +kernel
theorem dX3_slope_18 : decode cX3_slope 18 = .ok (.getfield 172, 3) := by decide +kernel
theorem dX3_slope_21 : decode cX3_slope 21 = .ok (.l2d, 1) := by decide +kernel
theorem dX3_slope_22 : decode cX3_slope 22 = .ok (.aload_n 2, 1) := by decide +kernel
theorem dX3_slope_23 : decode cX3_slope 23 = .ok (.getfield 176, 3) := by decide +kernel
theorem dX3_slope_26 : decode cX3_slope 26 = .ok (.l2d, 1) := by decide +kernel
theorem dX3_slope_27 : decode cX3_slope 27 = .ok (.ddiv, 1) := by decide +kernel
theorem dX3_slope_28 : decode cX3_slope 28 = .ok (.dreturn, 1) := by decide +kernel
theorem dX3_expected_0 : decode cX3_expected 0 = .ok (.aload_n 0, 1) := by decide +kernel
theorem dX3_expected_1 : decode cX3_expected 1 = .ok (.iload_n 1, 1) := by decide +kernel
theorem dX3_expected_2 : decode cX3_expected 2 = .ok (.invokevirtual 54, 3) := by decide +kernel
theorem dX3_expected_5 : decode cX3_expected 5 = .ok (.astore_n 3, 1) := by decide +kernel
theorem dX3_expected_6 : decode cX3_expected 6 = .ok (.iload_n 2, 1) := by decide +kernel
theorem dX3_expected_7 : decode cX3_expected 7 = .ok (.ifCond .lt 10, 3) := by decide +kernel
theorem dX3_expected_10 : decode cX3_expected 10 = .ok (.iload_n 2, 1) := by decide +kernel
theorem dX3_expected_11 : decode cX3_expected 11 = .ok (.sipush 9999, 3) := by decide +kernel
theorem dX3_expected_14 : decode cX3_expected 14 = .ok (.if_icmp .le 13, 3) := by decide +kernel
theorem dX3_expected_17 : decode cX3_expected 17 = .ok (.new 31, 3) := by decide +kernel
theorem dX3_expected_20 : decode cX3_expected 20 = .ok (.dup, 1) := by decide +kernel
theorem dX3_expected_21 : decode cX3_expected 21 = .ok (.ldc 67, 2) := by decide +kernel
theorem dX3_expected_23 : decode cX3_expected 23 = .ok (.invokespecial 35, 3) := by decide +kernel
theorem dX3_expected_26 : decode cX3_expected 26 = .ok (.athrow, 1) := by decide +kernel
theorem dX3_expected_27 : decode cX3_expected 27 = .ok (.aload_n 3, 1) := by decide +kernel
theorem dX3_expected_28 : decode cX3_expected 28 = .ok (.getfield 95, 3) := by decide +kernel
theorem dX3_expected_31 : decode cX3_expected 31 = .ok (.ifnonnull 13, 3) := by decide +kernel
theorem dX3_expected_34 : decode cX3_expected 34 = .ok (.new 42, 3) := by decide +kernel
theorem dX3_expected_37 : decode cX3_expected 37 = .ok (.dup, 1) := by decide +kernel
theorem dX3_expected_38 : decode cX3_expected 38 = .ok (.ldc 193, 2) := by decide +kernel
theorem dX3_expected_40 : decode cX3_expected 40 = .ok (.invokespecial 46, 3) := by decide +kernel
theorem dX3_expected_43 : decode cX3_expected 43 = .ok (.athrow, 1) := by decide +kernel
theorem dX3_expected_44 : decode cX3_expected 44 = .ok (.aload_n 3, 1) := by decide +kernel
theorem dX3_expected_45 : decode cX3_expected 45 = .ok (.aload_n 3, 1) := by decide +kernel
theorem dX3_expected_46 : decode cX3_expected 46 = .ok (.getfield 95, 3) := by decide +kernel
theorem dX3_expected_49 : decode cX3_expected 49 = .ok (.iload_n 2, 1) := by decide +kernel
theorem dX3_expected_50 : decode cX3_expected 50 = .ok (.invokestatic 195, 3) := by decide +kernel
theorem dX3_expected_53 : decode cX3_expected 53 = .ok (.lreturn, 1) := by decide +kernel
theorem dX3_driftsOut_0 : decode cX3_driftsOut 0 = .ok (.aload_n 0, 1) := by decide +kernel
theorem dX3_driftsOut_1 : decode cX3_driftsOut 1 = .ok (.iload_n 1, 1) := by decide +kernel
theorem dX3_driftsOut_2 : decode cX3_driftsOut 2 = .ok (.invokevirtual 54, 3) := by decide +kernel
theorem dX3_driftsOut_5 : decode cX3_driftsOut 5 = .ok (.astore_n 2, 1) := by decide +kernel
theorem dX3_driftsOut_6 : decode cX3_driftsOut 6 = .ok (.aload_n 2, 1) := by decide +kernel
theorem dX3_driftsOut_7 : decode cX3_driftsOut 7 = .ok (.getfield 95, 3) := by decide +kernel
theorem dX3_driftsOut_10 : decode cX3_driftsOut 10 = .ok (.astore_n 3, 1) := by decide +kernel
theorem dX3_driftsOut_11 : decode cX3_driftsOut 11 = .ok (.aload_n 3, 1) := by decide +kernel
theorem dX3_driftsOut_12 : decode cX3_driftsOut 12 = .ok (.ifnonnull 5, 3) := by decide +kernel
theorem dX3_driftsOut_15 : decode cX3_driftsOut 15 = .ok (.iconst (-1), 1) := by decide +kernel
theorem dX3_driftsOut_16 : decode cX3_driftsOut 16 = .ok (.ireturn, 1) := by decide +kernel
theorem dX3_driftsOut_17 : decode cX3_driftsOut 17 = .ok (.aload_n 2, 1) := by decide +kernel
theorem dX3_driftsOut_18 : decode cX3_driftsOut 18 = .ok (.aload_n 3, 1) := by decide +kernel
theorem dX3_driftsOut_19 : decode cX3_driftsOut 19 = .ok (.iconst 0, 1) := by decide +kernel
theorem dX3_driftsOut_20 : decode cX3_driftsOut 20 = .ok (.invokestatic 199, 3) := by decide +kernel
theorem dX3_driftsOut_23 : decode cX3_driftsOut 23 = .ok (.ifCond .eq 5, 3) := by decide +kernel
theorem dX3_driftsOut_26 : decode cX3_driftsOut 26 = .ok (.iconst 0, 1) := by decide +kernel
theorem dX3_driftsOut_27 : decode cX3_driftsOut 27 = .ok (.ireturn, 1) := by decide +kernel
theorem dX3_driftsOut_28 : decode cX3_driftsOut 28 = .ok (.iconst 0, 1) := by decide +kernel
theorem dX3_driftsOut_29 : decode cX3_driftsOut 29 = .ok (.istore 4, 2) := by decide +kernel
theorem dX3_driftsOut_31 : decode cX3_driftsOut 31 = .ok (.sipush 8192, 3) := by decide +kernel
theorem dX3_driftsOut_34 : decode cX3_driftsOut 34 = .ok (.istore 5, 2) := by decide +kernel
theorem dX3_driftsOut_36 : decode cX3_driftsOut 36 = .ok (.iload 5, 2) := by decide +kernel
theorem dX3_driftsOut_38 : decode cX3_driftsOut 38 = .ok (.ifCond .le 43, 3) := by decide +kernel
theorem dX3_driftsOut_41 : decode cX3_driftsOut 41 = .ok (.iload 4, 2) := by decide +kernel
theorem dX3_driftsOut_43 : decode cX3_driftsOut 43 = .ok (.iload 5, 2) := by decide +kernel
theorem dX3_driftsOut_45 : decode cX3_driftsOut 45 = .ok (.iadd, 1) := by decide +kernel
theorem dX3_driftsOut_46 : decode cX3_driftsOut 46 = .ok (.sipush 9999, 3) := by decide +kernel
theorem dX3_driftsOut_49 : decode cX3_driftsOut 49 = .ok (.if_icmp .gt 23, 3) := by decide +kernel
theorem dX3_driftsOut_52 : decode cX3_driftsOut 52 = .ok (.aload_n 2, 1) := by decide +kernel
theorem dX3_driftsOut_53 : decode cX3_driftsOut 53 = .ok (.aload_n 3, 1) := by decide +kernel
theorem dX3_driftsOut_54 : decode cX3_driftsOut 54 = .ok (.iload 4, 2) := by decide +kernel
theorem dX3_driftsOut_56 : decode cX3_driftsOut 56 = .ok (.iload 5, 2) := by decide +kernel
theorem dX3_driftsOut_58 : decode cX3_driftsOut 58 = .ok (.iadd, 1) := by decide +kernel
theorem dX3_driftsOut_59 : decode cX3_driftsOut 59 = .ok (.invokestatic 199, 3) := by decide +kernel
theorem dX3_driftsOut_62 : decode cX3_driftsOut 62 = .ok (.ifCond .ne 10, 3) := by decide +kernel
theorem dX3_driftsOut_65 : decode cX3_driftsOut 65 = .ok (.iload 4, 2) := by decide +kernel
theorem dX3_driftsOut_67 : decode cX3_driftsOut 67 = .ok (.iload 5, 2) := by decide +kernel
theorem dX3_driftsOut_69 : decode cX3_driftsOut 69 = .ok (.iadd, 1) := by decide +kernel
theorem dX3_driftsOut_70 : decode cX3_driftsOut 70 = .ok (.istore 4, 2) := by decide +kernel
theorem dX3_driftsOut_72 : decode cX3_driftsOut 72 = .ok (.iload 5, 2) := by decide +kernel
theorem dX3_driftsOut_74 : decode cX3_driftsOut 74 = .ok (.iconst 2, 1) := by decide +kernel
theorem dX3_driftsOut_75 : decode cX3_driftsOut 75 = .ok (.idiv, 1) := by decide +kernel
theorem dX3_driftsOut_76 : decode cX3_driftsOut 76 = .ok (.istore 5, 2) := by decide +kernel
theorem dX3_driftsOut_78 : decode cX3_driftsOut 78 = .ok (.goto (-42), 3) := by decide +kernel
theorem dX3_driftsOut_81 : decode cX3_driftsOut 81 = .ok (.iload 4, 2) := by decide +kernel
theorem dX3_driftsOut_83 : decode cX3_driftsOut 83 = .ok (.sipush 9999, 3) := by decide +kernel
theorem dX3_driftsOut_86 : decode cX3_driftsOut 86 = .ok (.if_icmp .ne 7, 3) := by decide +kernel
theorem dX3_driftsOut_89 : decode cX3_driftsOut 89 = .ok (.iconst (-1), 1) := by decide +kernel
theorem dX3_driftsOut_90 : decode cX3_driftsOut 90 = .ok (.goto 7, 3) := by decide +kernel
theorem dX3_driftsOut_93 : decode cX3_driftsOut 93 = .ok (.iload 4, 2) := by decide +kernel
theorem dX3_driftsOut_95 : decode cX3_driftsOut 95 = .ok (.iconst 1, 1) := by decide +kernel
theorem dX3_driftsOut_96 : decode cX3_driftsOut 96 = .ok (.iadd, 1) := by decide +kernel
theorem dX3_driftsOut_97 : decode cX3_driftsOut 97 = .ok (.ireturn, 1) := by decide +kernel
theorem dX3_uncertainty_0 : decode cX3_uncertainty 0 = .ok (.aload_n 0, 1) := by decide +kernel
theorem dX3_uncertainty_1 : decode cX3_uncertainty 1 = .ok (.iload_n 1, 1) := by decide +kernel
theorem dX3_uncertainty_2 : decode cX3_uncertainty 2 = .ok (.invokevirtual 54, 3) := by decide +kernel
theorem dX3_uncertainty_5 : decode cX3_uncertainty 5 = .ok (.iconst 0, 1) := by decide +kernel
theorem dX3_uncertainty_6 : decode cX3_uncertainty 6 = .ok (.invokestatic 203, 3) := by decide +kernel
theorem dX3_uncertainty_9 : decode cX3_uncertainty 9 = .ok (.ireturn, 1) := by decide +kernel
theorem dX3_limit_0 : decode cX3_limit 0 = .ok (.aload_n 0, 1) := by decide +kernel
theorem dX3_limit_1 : decode cX3_limit 1 = .ok (.iload_n 1, 1) := by decide +kernel
theorem dX3_limit_2 : decode cX3_limit 2 = .ok (.invokevirtual 54, 3) := by decide +kernel
theorem dX3_limit_5 : decode cX3_limit 5 = .ok (.astore_n 2, 1) := by decide +kernel
theorem dX3_limit_6 : decode cX3_limit 6 = .ok (.iconst 0, 1) := by decide +kernel
theorem dX3_limit_7 : decode cX3_limit 7 = .ok (.aload_n 2, 1) := by decide +kernel
theorem dX3_limit_8 : decode cX3_limit 8 = .ok (.getfield 129, 3) := by decide +kernel
theorem dX3_limit_11 : decode cX3_limit 11 = .ok (.aload_n 2, 1) := by decide +kernel
theorem dX3_limit_12 : decode cX3_limit 12 = .ok (.iconst 0, 1) := by decide +kernel
theorem dX3_limit_13 : decode cX3_limit 13 = .ok (.invokestatic 203, 3) := by decide +kernel
theorem dX3_limit_16 : decode cX3_limit 16 = .ok (.isub, 1) := by decide +kernel
theorem dX3_limit_17 : decode cX3_limit 17 = .ok (.invokestatic 165, 3) := by decide +kernel
theorem dX3_limit_20 : decode cX3_limit 20 = .ok (.ireturn, 1) := by decide +kernel
theorem dX3_errorAfter_0 : decode cX3_errorAfter 0 = .ok (.aload_n 0, 1) := by decide +kernel
theorem dX3_errorAfter_1 : decode cX3_errorAfter 1 = .ok (.getfield 176, 3) := by decide +kernel
theorem dX3_errorAfter_4 : decode cX3_errorAfter 4 = .ok (.lconst 0, 1) := by decide +kernel
theorem dX3_errorAfter_5 : decode cX3_errorAfter 5 = .ok (.lcmp, 1) := by decide +kernel
theorem dX3_errorAfter_6 : decode cX3_errorAfter 6 = .ok (.ifCond .gt 9, 3) := by decide +kernel
theorem dX3_errorAfter_9 : decode cX3_errorAfter 9 = .ok (.aload_n 1, 1) := by decide +kernel
theorem dX3_errorAfter_10 : decode cX3_errorAfter 10 = .ok (.getfield 155, 3) := by decide +kernel
theorem dX3_errorAfter_13 : decode cX3_errorAfter 13 = .ok (.i2l, 1) := by decide +kernel
theorem dX3_errorAfter_14 : decode cX3_errorAfter 14 = .ok (.lreturn, 1) := by decide +kernel
theorem dX3_errorAfter_15 : decode cX3_errorAfter 15 = .ok (.aload_n 1, 1) := by decide +kernel
theorem dX3_errorAfter_16 : decode cX3_errorAfter 16 = .ok (.getfield 155, 3) := by decide +kernel
theorem dX3_errorAfter_19 : decode cX3_errorAfter 19 = .ok (.i2l, 1) := by decide +kernel
theorem dX3_errorAfter_20 : decode cX3_errorAfter 20 = .ok (.aload_n 0, 1) := by decide +kernel
theorem dX3_errorAfter_21 : decode cX3_errorAfter 21 = .ok (.getfield 172, 3) := by decide +kernel
theorem dX3_errorAfter_24 : decode cX3_errorAfter 24 = .ok (.iload_n 2, 1) := by decide +kernel
theorem dX3_errorAfter_25 : decode cX3_errorAfter 25 = .ok (.i2l, 1) := by decide +kernel
theorem dX3_errorAfter_26 : decode cX3_errorAfter 26 = .ok (.lmul, 1) := by decide +kernel
theorem dX3_errorAfter_27 : decode cX3_errorAfter 27 = .ok (.aload_n 0, 1) := by decide +kernel
theorem dX3_errorAfter_28 : decode cX3_errorAfter 28 = .ok (.getfield 176, 3) := by decide +kernel
theorem dX3_errorAfter_31 : decode cX3_errorAfter 31 = .ok (.invokestatic 206, 3) := by decide +kernel
theorem dX3_errorAfter_34 : decode cX3_errorAfter 34 = .ok (.ladd, 1) := by decide +kernel
theorem dX3_errorAfter_35 : decode cX3_errorAfter 35 = .ok (.lreturn, 1) := by decide +kernel
theorem dX3_isOutAfter_0 : decode cX3_isOutAfter 0 = .ok (.aload_n 0, 1) := by decide +kernel
theorem dX3_isOutAfter_1 : decode cX3_isOutAfter 1 = .ok (.aload_n 1, 1) := by decide +kernel
theorem dX3_isOutAfter_2 : decode cX3_isOutAfter 2 = .ok (.iload_n 2, 1) := by decide +kernel
theorem dX3_isOutAfter_3 : decode cX3_isOutAfter 3 = .ok (.invokestatic 195, 3) := by decide +kernel
theorem dX3_isOutAfter_6 : decode cX3_isOutAfter 6 = .ok (.invokestatic 210, 3) := by decide +kernel
theorem dX3_isOutAfter_9 : decode cX3_isOutAfter 9 = .ok (.aload_n 0, 1) := by decide +kernel
theorem dX3_isOutAfter_10 : decode cX3_isOutAfter 10 = .ok (.getfield 129, 3) := by decide +kernel
theorem dX3_isOutAfter_13 : decode cX3_isOutAfter 13 = .ok (.i2l, 1) := by decide +kernel
theorem dX3_isOutAfter_14 : decode cX3_isOutAfter 14 = .ok (.lcmp, 1) := by decide +kernel
theorem dX3_isOutAfter_15 : decode cX3_isOutAfter 15 = .ok (.ifCond .le 7, 3) := by decide +kernel
theorem dX3_isOutAfter_18 : decode cX3_isOutAfter 18 = .ok (.iconst 1, 1) := by decide +kernel
theorem dX3_isOutAfter_19 : decode cX3_isOutAfter 19 = .ok (.goto 4, 3) := by decide +kernel
theorem dX3_isOutAfter_22 : decode cX3_isOutAfter 22 = .ok (.iconst 0, 1) := by decide +kernel
theorem dX3_isOutAfter_23 : decode cX3_isOutAfter 23 = .ok (.ireturn, 1) := by decide +kernel
theorem dX3_uncertaintyWithChain_0 : decode cX3_uncertaintyWithChain 0 = .ok (.aload_n 0, 1) := by decide +kernel
theorem dX3_uncertaintyWithChain_1 : decode cX3_uncertaintyWithChain 1 = .ok (.ifnull 9, 3) := by decide +kernel
theorem dX3_uncertaintyWithChain_4 : decode cX3_uncertaintyWithChain 4 = .ok (.iload_n 1, 1) := by decide +kernel
theorem dX3_uncertaintyWithChain_5 : decode cX3_uncertaintyWithChain 5 = .ok (.bipush 12, 2) := by decide +kernel
theorem dX3_uncertaintyWithChain_7 : decode cX3_uncertaintyWithChain 7 = .ok (.if_icmp .lt 5, 3) := by decide +kernel
theorem dX3_uncertaintyWithChain_10 : decode cX3_uncertaintyWithChain 10 = .ok (.iconst 0, 1) := by decide +kernel
theorem dX3_uncertaintyWithChain_11 : decode cX3_uncertaintyWithChain 11 = .ok (.ireturn, 1) := by decide +kernel
theorem dX3_uncertaintyWithChain_12 : decode cX3_uncertaintyWithChain 12 = .ok (.aload_n 0, 1) := by decide +kernel
theorem dX3_uncertaintyWithChain_13 : decode cX3_uncertaintyWithChain 13 = .ok (.getfield 50, 3) := by decide +kernel
theorem dX3_uncertaintyWithChain_16 : decode cX3_uncertaintyWithChain 16 = .ok (.iload_n 1, 1) := by decide +kernel
theorem dX3_uncertaintyWithChain_17 : decode cX3_uncertaintyWithChain 17 = .ok (.iconst 1, 1) := by decide +kernel
theorem dX3_uncertaintyWithChain_18 : decode cX3_uncertaintyWithChain 18 = .ok (.iadd, 1) := by decide +kernel
theorem dX3_uncertaintyWithChain_19 : decode cX3_uncertaintyWithChain 19 = .ok (.invokestatic 203, 3) := by decide +kernel
theorem dX3_uncertaintyWithChain_22 : decode cX3_uncertaintyWithChain 22 = .ok (.istore_n 2, 1) := by decide +kernel
theorem dX3_uncertaintyWithChain_23 : decode cX3_uncertaintyWithChain 23 = .ok (.aload_n 0, 1) := by decide +kernel
theorem dX3_uncertaintyWithChain_24 : decode cX3_uncertaintyWithChain 24 = .ok (.getfield 213, 3) := by decide +kernel
theorem dX3_uncertaintyWithChain_27 : decode cX3_uncertaintyWithChain 27 = .ok (.aload_n 0, 1) := by decide +kernel
theorem dX3_uncertaintyWithChain_28 : decode cX3_uncertaintyWithChain 28 = .ok (.getfield 213, 3) := by decide +kernel
theorem dX3_uncertaintyWithChain_31 : decode cX3_uncertaintyWithChain 31 = .ok (.imul, 1) := by decide +kernel
theorem dX3_uncertaintyWithChain_32 : decode cX3_uncertaintyWithChain 32 = .ok (.iload_n 2, 1) := by decide +kernel
theorem dX3_uncertaintyWithChain_33 : decode cX3_uncertaintyWithChain 33 = .ok (.iload_n 2, 1) := by decide +kernel
theorem dX3_uncertaintyWithChain_34 : decode cX3_uncertaintyWithChain 34 = .ok (.imul, 1) := by decide +kernel
theorem dX3_uncertaintyWithChain_35 : decode cX3_uncertaintyWithChain 35 = .ok (.iadd, 1) := by decide +kernel
theorem dX3_uncertaintyWithChain_36 : decode cX3_uncertaintyWithChain 36 = .ok (.invokestatic 216, 3) := by decide +kernel
theorem dX3_uncertaintyWithChain_39 : decode cX3_uncertaintyWithChain 39 = .ok (.ireturn, 1) := by decide +kernel
theorem dX3_leastRoot_0 : decode cX3_leastRoot 0 = .ok (.iload_n 0, 1) := by decide +kernel
theorem dX3_leastRoot_1 : decode cX3_leastRoot 1 = .ok (.ifCond .gt 5, 3) := by decide +kernel
theorem dX3_leastRoot_4 : decode cX3_leastRoot 4 = .ok (.iconst 0, 1) := by decide +kernel
theorem dX3_leastRoot_5 : decode cX3_leastRoot 5 = .ok (.ireturn, 1) := by decide +kernel
theorem dX3_leastRoot_6 : decode cX3_leastRoot 6 = .ok (.iconst 0, 1) := by decide +kernel
theorem dX3_leastRoot_7 : decode cX3_leastRoot 7 = .ok (.istore_n 1, 1) := by decide +kernel
theorem dX3_leastRoot_8 : decode cX3_leastRoot 8 = .ok (.sipush 8192, 3) := by decide +kernel
theorem dX3_leastRoot_11 : decode cX3_leastRoot 11 = .ok (.istore_n 2, 1) := by decide +kernel
theorem dX3_leastRoot_12 : decode cX3_leastRoot 12 = .ok (.iload_n 2, 1) := by decide +kernel
theorem dX3_leastRoot_13 : decode cX3_leastRoot 13 = .ok (.ifCond .le 25, 3) := by decide +kernel
theorem dX3_leastRoot_16 : decode cX3_leastRoot 16 = .ok (.iload_n 1, 1) := by decide +kernel
theorem dX3_leastRoot_17 : decode cX3_leastRoot 17 = .ok (.iload_n 2, 1) := by decide +kernel
theorem dX3_leastRoot_18 : decode cX3_leastRoot 18 = .ok (.iadd, 1) := by decide +kernel
theorem dX3_leastRoot_19 : decode cX3_leastRoot 19 = .ok (.iload_n 1, 1) := by decide +kernel
theorem dX3_leastRoot_20 : decode cX3_leastRoot 20 = .ok (.iload_n 2, 1) := by decide +kernel
theorem dX3_leastRoot_21 : decode cX3_leastRoot 21 = .ok (.iadd, 1) := by decide +kernel
theorem dX3_leastRoot_22 : decode cX3_leastRoot 22 = .ok (.imul, 1) := by decide +kernel
theorem dX3_leastRoot_23 : decode cX3_leastRoot 23 = .ok (.iload_n 0, 1) := by decide +kernel
theorem dX3_leastRoot_24 : decode cX3_leastRoot 24 = .ok (.if_icmp .ge 7, 3) := by decide +kernel
theorem dX3_leastRoot_27 : decode cX3_leastRoot 27 = .ok (.iload_n 1, 1) := by decide +kernel
theorem dX3_leastRoot_28 : decode cX3_leastRoot 28 = .ok (.iload_n 2, 1) := by decide +kernel
theorem dX3_leastRoot_29 : decode cX3_leastRoot 29 = .ok (.iadd, 1) := by decide +kernel
theorem dX3_leastRoot_30 : decode cX3_leastRoot 30 = .ok (.istore_n 1, 1) := by decide +kernel
theorem dX3_leastRoot_31 : decode cX3_leastRoot 31 = .ok (.iload_n 2, 1) := by decide +kernel
theorem dX3_leastRoot_32 : decode cX3_leastRoot 32 = .ok (.iconst 2, 1) := by decide +kernel
theorem dX3_leastRoot_33 : decode cX3_leastRoot 33 = .ok (.idiv, 1) := by decide +kernel
theorem dX3_leastRoot_34 : decode cX3_leastRoot 34 = .ok (.istore_n 2, 1) := by decide +kernel
theorem dX3_leastRoot_35 : decode cX3_leastRoot 35 = .ok (.goto (-23), 3) := by decide +kernel
theorem dX3_leastRoot_38 : decode cX3_leastRoot 38 = .ok (.iload_n 1, 1) := by decide +kernel
theorem dX3_leastRoot_39 : decode cX3_leastRoot 39 = .ok (.iconst 1, 1) := by decide +kernel
theorem dX3_leastRoot_40 : decode cX3_leastRoot 40 = .ok (.iadd, 1) := by decide +kernel
theorem dX3_leastRoot_41 : decode cX3_leastRoot 41 = .ok (.ireturn, 1) := by decide +kernel
theorem dX3_measurements_0 : decode cX3_measurements 0 = .ok (.aload_n 0, 1) := by decide +kernel
theorem dX3_measurements_1 : decode cX3_measurements 1 = .ok (.getfield 113, 3) := by decide +kernel
theorem dX3_measurements_4 : decode cX3_measurements 4 = .ok (.ireturn, 1) := by decide +kernel
theorem dX3_isCalledBack_0 : decode cX3_isCalledBack 0 = .ok (.iload_n 1, 1) := by decide +kernel
theorem dX3_isCalledBack_1 : decode cX3_isCalledBack 1 = .ok (.ifCond .lt 12, 3) := by decide +kernel
theorem dX3_isCalledBack_4 : decode cX3_isCalledBack 4 = .ok (.iload_n 1, 1) := by decide +kernel
theorem dX3_isCalledBack_5 : decode cX3_isCalledBack 5 = .ok (.aload_n 0, 1) := by decide +kernel
theorem dX3_isCalledBack_6 : decode cX3_isCalledBack 6 = .ok (.getfield 17, 3) := by decide +kernel
theorem dX3_isCalledBack_9 : decode cX3_isCalledBack 9 = .ok (.arraylength, 1) := by decide +kernel
theorem dX3_isCalledBack_10 : decode cX3_isCalledBack 10 = .ok (.if_icmp .lt 13, 3) := by decide +kernel
theorem dX3_isCalledBack_13 : decode cX3_isCalledBack 13 = .ok (.new 72, 3) := by decide +kernel
theorem dX3_isCalledBack_16 : decode cX3_isCalledBack 16 = .ok (.dup, 1) := by decide +kernel
theorem dX3_isCalledBack_17 : decode cX3_isCalledBack 17 = .ok (.ldc 219, 2) := by decide +kernel
theorem dX3_isCalledBack_19 : decode cX3_isCalledBack 19 = .ok (.invokespecial 76, 3) := by decide +kernel
theorem dX3_isCalledBack_22 : decode cX3_isCalledBack 22 = .ok (.athrow, 1) := by decide +kernel
theorem dX3_isCalledBack_23 : decode cX3_isCalledBack 23 = .ok (.aload_n 0, 1) := by decide +kernel
theorem dX3_isCalledBack_24 : decode cX3_isCalledBack 24 = .ok (.getfield 17, 3) := by decide +kernel
theorem dX3_isCalledBack_27 : decode cX3_isCalledBack 27 = .ok (.iload_n 1, 1) := by decide +kernel
theorem dX3_isCalledBack_28 : decode cX3_isCalledBack 28 = .ok (.aaload, 1) := by decide +kernel
theorem dX3_isCalledBack_29 : decode cX3_isCalledBack 29 = .ok (.astore_n 2, 1) := by decide +kernel
theorem dX3_isCalledBack_30 : decode cX3_isCalledBack 30 = .ok (.aload_n 2, 1) := by decide +kernel
theorem dX3_isCalledBack_31 : decode cX3_isCalledBack 31 = .ok (.ifnonnull 13, 3) := by decide +kernel
theorem dX3_isCalledBack_34 : decode cX3_isCalledBack 34 = .ok (.new 72, 3) := by decide +kernel
theorem dX3_isCalledBack_37 : decode cX3_isCalledBack 37 = .ok (.dup, 1) := by decide +kernel
theorem dX3_isCalledBack_38 : decode cX3_isCalledBack 38 = .ok (.ldc 219, 2) := by decide +kernel
theorem dX3_isCalledBack_40 : decode cX3_isCalledBack 40 = .ok (.invokespecial 76, 3) := by decide +kernel
theorem dX3_isCalledBack_43 : decode cX3_isCalledBack 43 = .ok (.athrow, 1) := by decide +kernel
theorem dX3_isCalledBack_44 : decode cX3_isCalledBack 44 = .ok (.aload_n 2, 1) := by decide +kernel
theorem dX3_isCalledBack_45 : decode cX3_isCalledBack 45 = .ok (.getfield 221, 3) := by decide +kernel
theorem dX3_isCalledBack_48 : decode cX3_isCalledBack 48 = .ok (.ireturn, 1) := by decide +kernel
theorem dX3_calledBack_0 : decode cX3_calledBack 0 = .ok (.aload_n 0, 1) := by decide +kernel
theorem dX3_calledBack_1 : decode cX3_calledBack 1 = .ok (.getfield 224, 3) := by decide +kernel
theorem dX3_calledBack_4 : decode cX3_calledBack 4 = .ok (.ireturn, 1) := by decide +kernel
theorem dX3_calledBackByLog_0 : decode cX3_calledBackByLog 0 = .ok (.iconst 0, 1) := by decide +kernel
theorem dX3_calledBackByLog_1 : decode cX3_calledBackByLog 1 = .ok (.istore_n 1, 1) := by decide +kernel
theorem dX3_calledBackByLog_2 : decode cX3_calledBackByLog 2 = .ok (.iconst 0, 1) := by decide +kernel
theorem dX3_calledBackByLog_3 : decode cX3_calledBackByLog 3 = .ok (.istore_n 2, 1) := by decide +kernel
theorem dX3_calledBackByLog_4 : decode cX3_calledBackByLog 4 = .ok (.iload_n 2, 1) := by decide +kernel
theorem dX3_calledBackByLog_5 : decode cX3_calledBackByLog 5 = .ok (.aload_n 0, 1) := by decide +kernel
theorem dX3_calledBackByLog_6 : decode cX3_calledBackByLog 6 = .ok (.getfield 113, 3) := by decide +kernel
theorem dX3_calledBackByLog_9 : decode cX3_calledBackByLog 9 = .ok (.if_icmp .ge 43, 3) := by decide +kernel
theorem dX3_calledBackByLog_12 : decode cX3_calledBackByLog 12 = .ok (.iload_n 2, 1) := by decide +kernel
theorem dX3_calledBackByLog_13 : decode cX3_calledBackByLog 13 = .ok (.aload_n 0, 1) := by decide +kernel
theorem dX3_calledBackByLog_14 : decode cX3_calledBackByLog 14 = .ok (.getfield 17, 3) := by decide +kernel
theorem dX3_calledBackByLog_17 : decode cX3_calledBackByLog 17 = .ok (.arraylength, 1) := by decide +kernel
theorem dX3_calledBackByLog_18 : decode cX3_calledBackByLog 18 = .ok (.if_icmp .ge 34, 3) := by decide +kernel
theorem dX3_calledBackByLog_21 : decode cX3_calledBackByLog 21 = .ok (.aload_n 0, 1) := by decide +kernel
theorem dX3_calledBackByLog_22 : decode cX3_calledBackByLog 22 = .ok (.getfield 17, 3) := by decide +kernel
theorem dX3_calledBackByLog_25 : decode cX3_calledBackByLog 25 = .ok (.iload_n 2, 1) := by decide +kernel
theorem dX3_calledBackByLog_26 : decode cX3_calledBackByLog 26 = .ok (.aaload, 1) := by decide +kernel
theorem dX3_calledBackByLog_27 : decode cX3_calledBackByLog 27 = .ok (.ifnull 19, 3) := by decide +kernel
theorem dX3_calledBackByLog_30 : decode cX3_calledBackByLog 30 = .ok (.aload_n 0, 1) := by decide +kernel
theorem dX3_calledBackByLog_31 : decode cX3_calledBackByLog 31 = .ok (.aload_n 0, 1) := by decide +kernel
theorem dX3_calledBackByLog_32 : decode cX3_calledBackByLog 32 = .ok (.getfield 17, 3) := by decide +kernel
theorem dX3_calledBackByLog_35 : decode cX3_calledBackByLog 35 = .ok (.iload_n 2, 1) := by decide +kernel
theorem dX3_calledBackByLog_36 : decode cX3_calledBackByLog 36 = .ok (.aaload, 1) := by decide +kernel
theorem dX3_calledBackByLog_37 : decode cX3_calledBackByLog 37 = .ok (.invokevirtual 227, 3) := by decide +kernel
theorem dX3_calledBackByLog_40 : decode cX3_calledBackByLog 40 = .ok (.ifCond .eq 6, 3) := by decide +kernel
theorem dX3_calledBackByLog_43 : decode cX3_calledBackByLog 43 = .ok (.iinc 1 1, 3) := by decide +kernel
theorem dX3_calledBackByLog_46 : decode cX3_calledBackByLog 46 = .ok (.iinc 2 1, 3) := by decide +kernel
theorem dX3_calledBackByLog_49 : decode cX3_calledBackByLog 49 = .ok (.goto (-45), 3) := by decide +kernel
theorem dX3_calledBackByLog_52 : decode cX3_calledBackByLog 52 = .ok (.iload_n 1, 1) := by decide +kernel
theorem dX3_calledBackByLog_53 : decode cX3_calledBackByLog 53 = .ok (.ireturn, 1) := by decide +kernel
theorem dX3_atStake_0 : decode cX3_atStake 0 = .ok (.aload_n 0, 1) := by decide +kernel
theorem dX3_atStake_1 : decode cX3_atStake 1 = .ok (.iload_n 1, 1) := by decide +kernel
theorem dX3_atStake_2 : decode cX3_atStake 2 = .ok (.invokevirtual 54, 3) := by decide +kernel
theorem dX3_atStake_5 : decode cX3_atStake 5 = .ok (.astore_n 2, 1) := by decide +kernel
theorem dX3_atStake_6 : decode cX3_atStake 6 = .ok (.aload_n 2, 1) := by decide +kernel
theorem dX3_atStake_7 : decode cX3_atStake 7 = .ok (.getfield 95, 3) := by decide +kernel
theorem dX3_atStake_10 : decode cX3_atStake 10 = .ok (.ifnonnull 7, 3) := by decide +kernel
theorem dX3_atStake_13 : decode cX3_atStake 13 = .ok (.iconst 0, 1) := by decide +kernel
theorem dX3_atStake_14 : decode cX3_atStake 14 = .ok (.goto 11, 3) := by decide +kernel
theorem dX3_atStake_17 : decode cX3_atStake 17 = .ok (.aload_n 0, 1) := by decide +kernel
theorem dX3_atStake_18 : decode cX3_atStake 18 = .ok (.aload_n 2, 1) := by decide +kernel
theorem dX3_atStake_19 : decode cX3_atStake 19 = .ok (.getfield 95, 3) := by decide +kernel
theorem dX3_atStake_22 : decode cX3_atStake 22 = .ok (.invokevirtual 231, 3) := by decide +kernel
theorem dX3_atStake_25 : decode cX3_atStake 25 = .ok (.ireturn, 1) := by decide +kernel
theorem dX3_restsOn_0 : decode cX3_restsOn 0 = .ok (.aload_n 0, 1) := by decide +kernel
theorem dX3_restsOn_1 : decode cX3_restsOn 1 = .ok (.astore_n 3, 1) := by decide +kernel
theorem dX3_restsOn_2 : decode cX3_restsOn 2 = .ok (.aload_n 3, 1) := by decide +kernel
theorem dX3_restsOn_3 : decode cX3_restsOn 3 = .ok (.ifnull 28, 3) := by decide +kernel
theorem dX3_restsOn_6 : decode cX3_restsOn 6 = .ok (.aload_n 3, 1) := by decide +kernel
theorem dX3_restsOn_7 : decode cX3_restsOn 7 = .ok (.aload_n 1, 1) := by decide +kernel
theorem dX3_restsOn_8 : decode cX3_restsOn 8 = .ok (.if_acmp .ne 5, 3) := by decide +kernel
theorem dX3_restsOn_11 : decode cX3_restsOn 11 = .ok (.iconst 1, 1) := by decide +kernel
theorem dX3_restsOn_12 : decode cX3_restsOn 12 = .ok (.ireturn, 1) := by decide +kernel
theorem dX3_restsOn_13 : decode cX3_restsOn 13 = .ok (.aload_n 3, 1) := by decide +kernel
theorem dX3_restsOn_14 : decode cX3_restsOn 14 = .ok (.getfield 162, 3) := by decide +kernel
theorem dX3_restsOn_17 : decode cX3_restsOn 17 = .ok (.iload_n 2, 1) := by decide +kernel
theorem dX3_restsOn_18 : decode cX3_restsOn 18 = .ok (.if_icmp .ge 5, 3) := by decide +kernel
theorem dX3_restsOn_21 : decode cX3_restsOn 21 = .ok (.iconst 0, 1) := by decide +kernel
theorem dX3_restsOn_22 : decode cX3_restsOn 22 = .ok (.ireturn, 1) := by decide +kernel
theorem dX3_restsOn_23 : decode cX3_restsOn 23 = .ok (.aload_n 3, 1) := by decide +kernel
theorem dX3_restsOn_24 : decode cX3_restsOn 24 = .ok (.getfield 234, 3) := by decide +kernel
theorem dX3_restsOn_27 : decode cX3_restsOn 27 = .ok (.astore_n 3, 1) := by decide +kernel
theorem dX3_restsOn_28 : decode cX3_restsOn 28 = .ok (.goto (-26), 3) := by decide +kernel
theorem dX3_restsOn_31 : decode cX3_restsOn 31 = .ok (.iconst 0, 1) := by decide +kernel
theorem dX3_restsOn_32 : decode cX3_restsOn 32 = .ok (.ireturn, 1) := by decide +kernel
theorem dX3_isAtStake_0 : decode cX3_isAtStake 0 = .ok (.aload_n 1, 1) := by decide +kernel
theorem dX3_isAtStake_1 : decode cX3_isAtStake 1 = .ok (.ifnull 29, 3) := by decide +kernel
theorem dX3_isAtStake_4 : decode cX3_isAtStake 4 = .ok (.aload_n 1, 1) := by decide +kernel
theorem dX3_isAtStake_5 : decode cX3_isAtStake 5 = .ok (.getfield 221, 3) := by decide +kernel
theorem dX3_isAtStake_8 : decode cX3_isAtStake 8 = .ok (.ifCond .ne 22, 3) := by decide +kernel
theorem dX3_isAtStake_11 : decode cX3_isAtStake 11 = .ok (.aload_n 1, 1) := by decide +kernel
theorem dX3_isAtStake_12 : decode cX3_isAtStake 12 = .ok (.getfield 237, 3) := by decide +kernel
theorem dX3_isAtStake_15 : decode cX3_isAtStake 15 = .ok (.aload_n 2, 1) := by decide +kernel
theorem dX3_isAtStake_16 : decode cX3_isAtStake 16 = .ok (.aload_n 0, 1) := by decide +kernel
theorem dX3_isAtStake_17 : decode cX3_isAtStake 17 = .ok (.getfield 99, 3) := by decide +kernel
theorem dX3_isAtStake_20 : decode cX3_isAtStake 20 = .ok (.invokestatic 238, 3) := by decide +kernel
theorem dX3_isAtStake_23 : decode cX3_isAtStake 23 = .ok (.ifCond .eq 7, 3) := by decide +kernel
theorem dX3_isAtStake_26 : decode cX3_isAtStake 26 = .ok (.iconst 1, 1) := by decide +kernel
theorem dX3_isAtStake_27 : decode cX3_isAtStake 27 = .ok (.goto 4, 3) := by decide +kernel
theorem dX3_isAtStake_30 : decode cX3_isAtStake 30 = .ok (.iconst 0, 1) := by decide +kernel
theorem dX3_isAtStake_31 : decode cX3_isAtStake 31 = .ok (.ireturn, 1) := by decide +kernel
theorem dX3_countAtStake_0 : decode cX3_countAtStake 0 = .ok (.iconst 0, 1) := by decide +kernel
theorem dX3_countAtStake_1 : decode cX3_countAtStake 1 = .ok (.istore_n 2, 1) := by decide +kernel
theorem dX3_countAtStake_2 : decode cX3_countAtStake 2 = .ok (.iconst 0, 1) := by decide +kernel
theorem dX3_countAtStake_3 : decode cX3_countAtStake 3 = .ok (.istore_n 3, 1) := by decide +kernel
theorem dX3_countAtStake_4 : decode cX3_countAtStake 4 = .ok (.iload_n 3, 1) := by decide +kernel
theorem dX3_countAtStake_5 : decode cX3_countAtStake 5 = .ok (.aload_n 0, 1) := by decide +kernel
theorem dX3_countAtStake_6 : decode cX3_countAtStake 6 = .ok (.getfield 113, 3) := by decide +kernel
theorem dX3_countAtStake_9 : decode cX3_countAtStake 9 = .ok (.if_icmp .ge 35, 3) := by decide +kernel
theorem dX3_countAtStake_12 : decode cX3_countAtStake 12 = .ok (.iload_n 3, 1) := by decide +kernel
theorem dX3_countAtStake_13 : decode cX3_countAtStake 13 = .ok (.aload_n 0, 1) := by decide +kernel
theorem dX3_countAtStake_14 : decode cX3_countAtStake 14 = .ok (.getfield 17, 3) := by decide +kernel
theorem dX3_countAtStake_17 : decode cX3_countAtStake 17 = .ok (.arraylength, 1) := by decide +kernel
theorem dX3_countAtStake_18 : decode cX3_countAtStake 18 = .ok (.if_icmp .ge 26, 3) := by decide +kernel
theorem dX3_countAtStake_21 : decode cX3_countAtStake 21 = .ok (.aload_n 0, 1) := by decide +kernel
theorem dX3_countAtStake_22 : decode cX3_countAtStake 22 = .ok (.aload_n 0, 1) := by decide +kernel
theorem dX3_countAtStake_23 : decode cX3_countAtStake 23 = .ok (.getfield 17, 3) := by decide +kernel
theorem dX3_countAtStake_26 : decode cX3_countAtStake 26 = .ok (.iload_n 3, 1) := by decide +kernel
theorem dX3_countAtStake_27 : decode cX3_countAtStake 27 = .ok (.aaload, 1) := by decide +kernel
theorem dX3_countAtStake_28 : decode cX3_countAtStake 28 = .ok (.aload_n 1, 1) := by decide +kernel
theorem dX3_countAtStake_29 : decode cX3_countAtStake 29 = .ok (.invokevirtual 242, 3) := by decide +kernel
theorem dX3_countAtStake_32 : decode cX3_countAtStake 32 = .ok (.ifCond .eq 6, 3) := by decide +kernel
theorem dX3_countAtStake_35 : decode cX3_countAtStake 35 = .ok (.iinc 2 1, 3) := by decide +kernel
theorem dX3_countAtStake_38 : decode cX3_countAtStake 38 = .ok (.iinc 3 1, 3) := by decide +kernel
theorem dX3_countAtStake_41 : decode cX3_countAtStake 41 = .ok (.goto (-37), 3) := by decide +kernel
theorem dX3_countAtStake_44 : decode cX3_countAtStake 44 = .ok (.iload_n 2, 1) := by decide +kernel
theorem dX3_countAtStake_45 : decode cX3_countAtStake 45 = .ok (.ireturn, 1) := by decide +kernel
theorem dX3_callBack_0 : decode cX3_callBack 0 = .ok (.iconst 0, 1) := by decide +kernel
theorem dX3_callBack_1 : decode cX3_callBack 1 = .ok (.istore_n 2, 1) := by decide +kernel
theorem dX3_callBack_2 : decode cX3_callBack 2 = .ok (.iconst 0, 1) := by decide +kernel
theorem dX3_callBack_3 : decode cX3_callBack 3 = .ok (.istore_n 3, 1) := by decide +kernel
theorem dX3_callBack_4 : decode cX3_callBack 4 = .ok (.iload_n 3, 1) := by decide +kernel
theorem dX3_callBack_5 : decode cX3_callBack 5 = .ok (.aload_n 0, 1) := by decide +kernel
theorem dX3_callBack_6 : decode cX3_callBack 6 = .ok (.getfield 113, 3) := by decide +kernel
theorem dX3_callBack_9 : decode cX3_callBack 9 = .ok (.if_icmp .ge 50, 3) := by decide +kernel
theorem dX3_callBack_12 : decode cX3_callBack 12 = .ok (.iload_n 3, 1) := by decide +kernel
theorem dX3_callBack_13 : decode cX3_callBack 13 = .ok (.aload_n 0, 1) := by decide +kernel
theorem dX3_callBack_14 : decode cX3_callBack 14 = .ok (.getfield 17, 3) := by decide +kernel
theorem dX3_callBack_17 : decode cX3_callBack 17 = .ok (.arraylength, 1) := by decide +kernel
theorem dX3_callBack_18 : decode cX3_callBack 18 = .ok (.if_icmp .ge 41, 3) := by decide +kernel
theorem dX3_callBack_21 : decode cX3_callBack 21 = .ok (.aload_n 0, 1) := by decide +kernel
theorem dX3_callBack_22 : decode cX3_callBack 22 = .ok (.getfield 17, 3) := by decide +kernel
theorem dX3_callBack_25 : decode cX3_callBack 25 = .ok (.iload_n 3, 1) := by decide +kernel
theorem dX3_callBack_26 : decode cX3_callBack 26 = .ok (.aaload, 1) := by decide +kernel
theorem dX3_callBack_27 : decode cX3_callBack 27 = .ok (.astore 4, 2) := by decide +kernel
theorem dX3_callBack_29 : decode cX3_callBack 29 = .ok (.aload 4, 2) := by decide +kernel
theorem dX3_callBack_31 : decode cX3_callBack 31 = .ok (.ifnull 22, 3) := by decide +kernel
theorem dX3_callBack_34 : decode cX3_callBack 34 = .ok (.aload_n 0, 1) := by decide +kernel
theorem dX3_callBack_35 : decode cX3_callBack 35 = .ok (.aload 4, 2) := by decide +kernel
theorem dX3_callBack_37 : decode cX3_callBack 37 = .ok (.aload_n 1, 1) := by decide +kernel
theorem dX3_callBack_38 : decode cX3_callBack 38 = .ok (.invokevirtual 242, 3) := by decide +kernel
theorem dX3_callBack_41 : decode cX3_callBack 41 = .ok (.ifCond .eq 12, 3) := by decide +kernel
theorem dX3_callBack_44 : decode cX3_callBack 44 = .ok (.aload 4, 2) := by decide +kernel
theorem dX3_callBack_46 : decode cX3_callBack 46 = .ok (.iconst 1, 1) := by decide +kernel
theorem dX3_callBack_47 : decode cX3_callBack 47 = .ok (.putfield 221, 3) := by decide +kernel
theorem dX3_callBack_50 : decode cX3_callBack 50 = .ok (.iinc 2 1, 3) := by decide +kernel
theorem dX3_callBack_53 : decode cX3_callBack 53 = .ok (.iinc 3 1, 3) := by decide +kernel
theorem dX3_callBack_56 : decode cX3_callBack 56 = .ok (.goto (-52), 3) := by decide +kernel
theorem dX3_callBack_59 : decode cX3_callBack 59 = .ok (.aload_n 0, 1) := by decide +kernel
theorem dX3_callBack_60 : decode cX3_callBack 60 = .ok (.dup, 1) := by decide +kernel
theorem dX3_callBack_61 : decode cX3_callBack 61 = .ok (.getfield 224, 3) := by decide +kernel
theorem dX3_callBack_64 : decode cX3_callBack 64 = .ok (.iload_n 2, 1) := by decide +kernel
theorem dX3_callBack_65 : decode cX3_callBack 65 = .ok (.iadd, 1) := by decide +kernel
theorem dX3_callBack_66 : decode cX3_callBack 66 = .ok (.putfield 224, 3) := by decide +kernel
theorem dX3_callBack_69 : decode cX3_callBack 69 = .ok (.aload_n 0, 1) := by decide +kernel
theorem dX3_callBack_70 : decode cX3_callBack 70 = .ok (.getfield 11, 3) := by decide +kernel
theorem dX3_callBack_73 : decode cX3_callBack 73 = .ok (.astore_n 3, 1) := by decide +kernel
theorem dX3_callBack_74 : decode cX3_callBack 74 = .ok (.aload_n 3, 1) := by decide +kernel
theorem dX3_callBack_75 : decode cX3_callBack 75 = .ok (.arraylength, 1) := by decide +kernel
theorem dX3_callBack_76 : decode cX3_callBack 76 = .ok (.istore 4, 2) := by decide +kernel
theorem dX3_callBack_78 : decode cX3_callBack 78 = .ok (.iconst 0, 1) := by decide +kernel
theorem dX3_callBack_79 : decode cX3_callBack 79 = .ok (.istore 5, 2) := by decide +kernel
theorem dX3_callBack_81 : decode cX3_callBack 81 = .ok (.iload 5, 2) := by decide +kernel
theorem dX3_callBack_83 : decode cX3_callBack 83 = .ok (.iload 4, 2) := by decide +kernel
theorem dX3_callBack_85 : decode cX3_callBack 85 = .ok (.if_icmp .ge 56, 3) := by decide +kernel
theorem dX3_callBack_88 : decode cX3_callBack 88 = .ok (.aload_n 3, 1) := by decide +kernel
theorem dX3_callBack_89 : decode cX3_callBack 89 = .ok (.iload 5, 2) := by decide +kernel
theorem dX3_callBack_91 : decode cX3_callBack 91 = .ok (.aaload, 1) := by decide +kernel
theorem dX3_callBack_92 : decode cX3_callBack 92 = .ok (.astore 6, 2) := by decide +kernel
theorem dX3_callBack_94 : decode cX3_callBack 94 = .ok (.aload 6, 2) := by decide +kernel
theorem dX3_callBack_96 : decode cX3_callBack 96 = .ok (.ifnull 39, 3) := by decide +kernel
theorem dX3_callBack_99 : decode cX3_callBack 99 = .ok (.aload 6, 2) := by decide +kernel
theorem dX3_callBack_101 : decode cX3_callBack 101 = .ok (.getfield 95, 3) := by decide +kernel
theorem dX3_callBack_104 : decode cX3_callBack 104 = .ok (.ifnull 31, 3) := by decide +kernel
theorem dX3_callBack_107 : decode cX3_callBack 107 = .ok (.aload 6, 2) := by decide +kernel
theorem dX3_callBack_109 : decode cX3_callBack 109 = .ok (.getfield 95, 3) := by decide +kernel
theorem dX3_callBack_112 : decode cX3_callBack 112 = .ok (.getfield 234, 3) := by decide +kernel
theorem dX3_callBack_115 : decode cX3_callBack 115 = .ok (.aload_n 1, 1) := by decide +kernel
theorem dX3_callBack_116 : decode cX3_callBack 116 = .ok (.aload_n 0, 1) := by decide +kernel
theorem dX3_callBack_117 : decode cX3_callBack 117 = .ok (.getfield 99, 3) := by decide +kernel
theorem dX3_callBack_120 : decode cX3_callBack 120 = .ok (.invokestatic 238, 3) := by decide +kernel
theorem dX3_callBack_123 : decode cX3_callBack 123 = .ok (.ifCond .eq 12, 3) := by decide +kernel
theorem dX3_callBack_126 : decode cX3_callBack 126 = .ok (.aload 6, 2) := by decide +kernel
theorem dX3_callBack_128 : decode cX3_callBack 128 = .ok (.getfield 95, 3) := by decide +kernel
theorem dX3_callBack_131 : decode cX3_callBack 131 = .ok (.iconst 1, 1) := by decide +kernel
theorem dX3_callBack_132 : decode cX3_callBack 132 = .ok (.putfield 186, 3) := by decide +kernel
theorem dX3_callBack_135 : decode cX3_callBack 135 = .ok (.iinc 5 1, 3) := by decide +kernel
theorem dX3_callBack_138 : decode cX3_callBack 138 = .ok (.goto (-57), 3) := by decide +kernel
theorem dX3_callBack_141 : decode cX3_callBack 141 = .ok (.iload_n 2, 1) := by decide +kernel
theorem dX3_callBack_142 : decode cX3_callBack 142 = .ok (.ireturn, 1) := by decide +kernel
theorem dX3_logRecalls_0 : decode cX3_logRecalls 0 = .ok (.iconst 0, 1) := by decide +kernel
theorem dX3_logRecalls_1 : decode cX3_logRecalls 1 = .ok (.istore_n 2, 1) := by decide +kernel
theorem dX3_logRecalls_2 : decode cX3_logRecalls 2 = .ok (.iload_n 2, 1) := by decide +kernel
theorem dX3_logRecalls_3 : decode cX3_logRecalls 3 = .ok (.aload_n 0, 1) := by decide +kernel
theorem dX3_logRecalls_4 : decode cX3_logRecalls 4 = .ok (.getfield 92, 3) := by decide +kernel
theorem dX3_logRecalls_7 : decode cX3_logRecalls 7 = .ok (.if_icmp .ge 67, 3) := by decide +kernel
theorem dX3_logRecalls_10 : decode cX3_logRecalls 10 = .ok (.iload_n 2, 1) := by decide +kernel
theorem dX3_logRecalls_11 : decode cX3_logRecalls 11 = .ok (.aload_n 0, 1) := by decide +kernel
theorem dX3_logRecalls_12 : decode cX3_logRecalls 12 = .ok (.getfield 23, 3) := by decide +kernel
theorem dX3_logRecalls_15 : decode cX3_logRecalls 15 = .ok (.arraylength, 1) := by decide +kernel
theorem dX3_logRecalls_16 : decode cX3_logRecalls 16 = .ok (.if_icmp .ge 58, 3) := by decide +kernel
theorem dX3_logRecalls_19 : decode cX3_logRecalls 19 = .ok (.aload_n 0, 1) := by decide +kernel
theorem dX3_logRecalls_20 : decode cX3_logRecalls 20 = .ok (.getfield 23, 3) := by decide +kernel
theorem dX3_logRecalls_23 : decode cX3_logRecalls 23 = .ok (.iload_n 2, 1) := by decide +kernel
theorem dX3_logRecalls_24 : decode cX3_logRecalls 24 = .ok (.aaload, 1) := by decide +kernel
theorem dX3_logRecalls_25 : decode cX3_logRecalls 25 = .ok (.astore_n 3, 1) := by decide +kernel
theorem dX3_logRecalls_26 : decode cX3_logRecalls 26 = .ok (.aload_n 3, 1) := by decide +kernel
theorem dX3_logRecalls_27 : decode cX3_logRecalls 27 = .ok (.ifnull 41, 3) := by decide +kernel
theorem dX3_logRecalls_30 : decode cX3_logRecalls 30 = .ok (.aload_n 3, 1) := by decide +kernel
theorem dX3_logRecalls_31 : decode cX3_logRecalls 31 = .ok (.getfield 132, 3) := by decide +kernel
theorem dX3_logRecalls_34 : decode cX3_logRecalls 34 = .ok (.ifCond .eq 34, 3) := by decide +kernel
theorem dX3_logRecalls_37 : decode cX3_logRecalls 37 = .ok (.aload_n 3, 1) := by decide +kernel
theorem dX3_logRecalls_38 : decode cX3_logRecalls 38 = .ok (.getfield 161, 3) := by decide +kernel
theorem dX3_logRecalls_41 : decode cX3_logRecalls 41 = .ok (.aload_n 1, 1) := by decide +kernel
theorem dX3_logRecalls_42 : decode cX3_logRecalls 42 = .ok (.getfield 246, 3) := by decide +kernel
theorem dX3_logRecalls_45 : decode cX3_logRecalls 45 = .ok (.if_icmp .le 23, 3) := by decide +kernel
theorem dX3_logRecalls_48 : decode cX3_logRecalls 48 = .ok (.aload_n 1, 1) := by decide +kernel
theorem dX3_logRecalls_49 : decode cX3_logRecalls 49 = .ok (.getfield 237, 3) := by decide +kernel
theorem dX3_logRecalls_52 : decode cX3_logRecalls 52 = .ok (.aload_n 3, 1) := by decide +kernel
theorem dX3_logRecalls_53 : decode cX3_logRecalls 53 = .ok (.getfield 179, 3) := by decide +kernel
theorem dX3_logRecalls_56 : decode cX3_logRecalls 56 = .ok (.aload_n 3, 1) := by decide +kernel
theorem dX3_logRecalls_57 : decode cX3_logRecalls 57 = .ok (.getfield 161, 3) := by decide +kernel
theorem dX3_logRecalls_60 : decode cX3_logRecalls 60 = .ok (.invokestatic 238, 3) := by decide +kernel
theorem dX3_logRecalls_63 : decode cX3_logRecalls 63 = .ok (.ifCond .eq 5, 3) := by decide +kernel
theorem dX3_logRecalls_66 : decode cX3_logRecalls 66 = .ok (.iconst 1, 1) := by decide +kernel
theorem dX3_logRecalls_67 : decode cX3_logRecalls 67 = .ok (.ireturn, 1) := by decide +kernel
theorem dX3_logRecalls_68 : decode cX3_logRecalls 68 = .ok (.iinc 2 1, 3) := by decide +kernel
theorem dX3_logRecalls_71 : decode cX3_logRecalls 71 = .ok (.goto (-69), 3) := by decide +kernel
theorem dX3_logRecalls_74 : decode cX3_logRecalls 74 = .ok (.iconst 0, 1) := by decide +kernel
theorem dX3_logRecalls_75 : decode cX3_logRecalls 75 = .ok (.ireturn, 1) := by decide +kernel
theorem dX3_benchDay_0 : decode cX3_benchDay 0 = .ok (.aload_n 0, 1) := by decide +kernel
theorem dX3_benchDay_1 : decode cX3_benchDay 1 = .ok (.iload_n 1, 1) := by decide +kernel
theorem dX3_benchDay_2 : decode cX3_benchDay 2 = .ok (.invokevirtual 54, 3) := by decide +kernel
theorem dX3_benchDay_5 : decode cX3_benchDay 5 = .ok (.astore_n 3, 1) := by decide +kernel
theorem dX3_benchDay_6 : decode cX3_benchDay 6 = .ok (.iload_n 2, 1) := by decide +kernel
theorem dX3_benchDay_7 : decode cX3_benchDay 7 = .ok (.iconst 1, 1) := by decide +kernel
theorem dX3_benchDay_8 : decode cX3_benchDay 8 = .ok (.if_icmp .lt 9, 3) := by decide +kernel
theorem dX3_benchDay_11 : decode cX3_benchDay 11 = .ok (.iload_n 2, 1) := by decide +kernel
theorem dX3_benchDay_12 : decode cX3_benchDay 12 = .ok (.bipush 12, 2) := by decide +kernel
theorem dX3_benchDay_14 : decode cX3_benchDay 14 = .ok (.if_icmp .le 13, 3) := by decide +kernel
theorem dX3_benchDay_17 : decode cX3_benchDay 17 = .ok (.new 31, 3) := by decide +kernel
theorem dX3_benchDay_20 : decode cX3_benchDay 20 = .ok (.dup, 1) := by decide +kernel
theorem dX3_benchDay_21 : decode cX3_benchDay 21 = .ok (.ldc 247, 2) := by decide +kernel
theorem dX3_benchDay_23 : decode cX3_benchDay 23 = .ok (.invokespecial 35, 3) := by decide +kernel
theorem dX3_benchDay_26 : decode cX3_benchDay 26 = .ok (.athrow, 1) := by decide +kernel
theorem dX3_benchDay_27 : decode cX3_benchDay 27 = .ok (.aload_n 3, 1) := by decide +kernel
theorem dX3_benchDay_28 : decode cX3_benchDay 28 = .ok (.getfield 95, 3) := by decide +kernel
theorem dX3_benchDay_31 : decode cX3_benchDay 31 = .ok (.ifnonnull 7, 3) := by decide +kernel
theorem dX3_benchDay_34 : decode cX3_benchDay 34 = .ok (.iconst (-1), 1) := by decide +kernel
theorem dX3_benchDay_35 : decode cX3_benchDay 35 = .ok (.goto 19, 3) := by decide +kernel
theorem dX3_benchDay_38 : decode cX3_benchDay 38 = .ok (.aload_n 0, 1) := by decide +kernel
theorem dX3_benchDay_39 : decode cX3_benchDay 39 = .ok (.getfield 69, 3) := by decide +kernel
theorem dX3_benchDay_42 : decode cX3_benchDay 42 = .ok (.aload_n 0, 1) := by decide +kernel
theorem dX3_benchDay_43 : decode cX3_benchDay 43 = .ok (.aload_n 3, 1) := by decide +kernel
theorem dX3_benchDay_44 : decode cX3_benchDay 44 = .ok (.aload_n 3, 1) := by decide +kernel
theorem dX3_benchDay_45 : decode cX3_benchDay 45 = .ok (.getfield 95, 3) := by decide +kernel
theorem dX3_benchDay_48 : decode cX3_benchDay 48 = .ok (.invokevirtual 249, 3) := by decide +kernel
theorem dX3_benchDay_51 : decode cX3_benchDay 51 = .ok (.iload_n 2, 1) := by decide +kernel
theorem dX3_benchDay_52 : decode cX3_benchDay 52 = .ok (.idiv, 1) := by decide +kernel
theorem dX3_benchDay_53 : decode cX3_benchDay 53 = .ok (.iadd, 1) := by decide +kernel
theorem dX3_benchDay_54 : decode cX3_benchDay 54 = .ok (.ireturn, 1) := by decide +kernel
theorem dX3_late_0 : decode cX3_late 0 = .ok (.iload_n 1, 1) := by decide +kernel
theorem dX3_late_1 : decode cX3_late 1 = .ok (.iconst 1, 1) := by decide +kernel
theorem dX3_late_2 : decode cX3_late 2 = .ok (.if_icmp .lt 9, 3) := by decide +kernel
theorem dX3_late_5 : decode cX3_late 5 = .ok (.iload_n 1, 1) := by decide +kernel
theorem dX3_late_6 : decode cX3_late 6 = .ok (.bipush 12, 2) := by decide +kernel
theorem dX3_late_8 : decode cX3_late 8 = .ok (.if_icmp .le 13, 3) := by decide +kernel
theorem dX3_late_11 : decode cX3_late 11 = .ok (.new 31, 3) := by decide +kernel
theorem dX3_late_14 : decode cX3_late 14 = .ok (.dup, 1) := by decide +kernel
theorem dX3_late_15 : decode cX3_late 15 = .ok (.ldc 247, 2) := by decide +kernel
theorem dX3_late_17 : decode cX3_late 17 = .ok (.invokespecial 35, 3) := by decide +kernel
theorem dX3_late_20 : decode cX3_late 20 = .ok (.athrow, 1) := by decide +kernel
theorem dX3_late_21 : decode cX3_late 21 = .ok (.iconst 0, 1) := by decide +kernel
theorem dX3_late_22 : decode cX3_late 22 = .ok (.istore_n 2, 1) := by decide +kernel
theorem dX3_late_23 : decode cX3_late 23 = .ok (.aload_n 0, 1) := by decide +kernel
theorem dX3_late_24 : decode cX3_late 24 = .ok (.getfield 11, 3) := by decide +kernel
theorem dX3_late_27 : decode cX3_late 27 = .ok (.astore_n 3, 1) := by decide +kernel
theorem dX3_late_28 : decode cX3_late 28 = .ok (.aload_n 3, 1) := by decide +kernel
theorem dX3_late_29 : decode cX3_late 29 = .ok (.arraylength, 1) := by decide +kernel
theorem dX3_late_30 : decode cX3_late 30 = .ok (.istore 4, 2) := by decide +kernel
theorem dX3_late_32 : decode cX3_late 32 = .ok (.iconst 0, 1) := by decide +kernel
theorem dX3_late_33 : decode cX3_late 33 = .ok (.istore 5, 2) := by decide +kernel
theorem dX3_late_35 : decode cX3_late 35 = .ok (.iload 5, 2) := by decide +kernel
theorem dX3_late_37 : decode cX3_late 37 = .ok (.iload 4, 2) := by decide +kernel
theorem dX3_late_39 : decode cX3_late 39 = .ok (.if_icmp .ge 62, 3) := by decide +kernel
theorem dX3_late_42 : decode cX3_late 42 = .ok (.aload_n 3, 1) := by decide +kernel
theorem dX3_late_43 : decode cX3_late 43 = .ok (.iload 5, 2) := by decide +kernel
theorem dX3_late_45 : decode cX3_late 45 = .ok (.aaload, 1) := by decide +kernel
theorem dX3_late_46 : decode cX3_late 46 = .ok (.astore 6, 2) := by decide +kernel
theorem dX3_late_48 : decode cX3_late 48 = .ok (.aload 6, 2) := by decide +kernel
theorem dX3_late_50 : decode cX3_late 50 = .ok (.ifnull 45, 3) := by decide +kernel
theorem dX3_late_53 : decode cX3_late 53 = .ok (.aload 6, 2) := by decide +kernel
theorem dX3_late_55 : decode cX3_late 55 = .ok (.getfield 95, 3) := by decide +kernel
theorem dX3_late_58 : decode cX3_late 58 = .ok (.ifnull 37, 3) := by decide +kernel
theorem dX3_late_61 : decode cX3_late 61 = .ok (.aload_n 0, 1) := by decide +kernel
theorem dX3_late_62 : decode cX3_late 62 = .ok (.getfield 69, 3) := by decide +kernel
theorem dX3_late_65 : decode cX3_late 65 = .ok (.aload_n 0, 1) := by decide +kernel
theorem dX3_late_66 : decode cX3_late 66 = .ok (.aload 6, 2) := by decide +kernel
theorem dX3_late_68 : decode cX3_late 68 = .ok (.aload 6, 2) := by decide +kernel
theorem dX3_late_70 : decode cX3_late 70 = .ok (.getfield 95, 3) := by decide +kernel
theorem dX3_late_73 : decode cX3_late 73 = .ok (.invokevirtual 249, 3) := by decide +kernel
theorem dX3_late_76 : decode cX3_late 76 = .ok (.iload_n 1, 1) := by decide +kernel
theorem dX3_late_77 : decode cX3_late 77 = .ok (.idiv, 1) := by decide +kernel
theorem dX3_late_78 : decode cX3_late 78 = .ok (.iadd, 1) := by decide +kernel
theorem dX3_late_79 : decode cX3_late 79 = .ok (.aload 6, 2) := by decide +kernel
theorem dX3_late_81 : decode cX3_late 81 = .ok (.aload 6, 2) := by decide +kernel
theorem dX3_late_83 : decode cX3_late 83 = .ok (.getfield 95, 3) := by decide +kernel
theorem dX3_late_86 : decode cX3_late 86 = .ok (.invokestatic 182, 3) := by decide +kernel
theorem dX3_late_89 : decode cX3_late 89 = .ok (.if_icmp .le 6, 3) := by decide +kernel
theorem dX3_late_92 : decode cX3_late 92 = .ok (.iinc 2 1, 3) := by decide +kernel
theorem dX3_late_95 : decode cX3_late 95 = .ok (.iinc 5 1, 3) := by decide +kernel
theorem dX3_late_98 : decode cX3_late 98 = .ok (.goto (-63), 3) := by decide +kernel
theorem dX3_late_101 : decode cX3_late 101 = .ok (.iload_n 2, 1) := by decide +kernel
theorem dX3_late_102 : decode cX3_late 102 = .ok (.ireturn, 1) := by decide +kernel
theorem dX3_countAhead_0 : decode cX3_countAhead 0 = .ok (.aload_n 1, 1) := by decide +kernel
theorem dX3_countAhead_1 : decode cX3_countAhead 1 = .ok (.aload_n 2, 1) := by decide +kernel
theorem dX3_countAhead_2 : decode cX3_countAhead 2 = .ok (.invokestatic 182, 3) := by decide +kernel
theorem dX3_countAhead_5 : decode cX3_countAhead 5 = .ok (.istore_n 3, 1) := by decide +kernel
theorem dX3_countAhead_6 : decode cX3_countAhead 6 = .ok (.iconst 0, 1) := by decide +kernel
theorem dX3_countAhead_7 : decode cX3_countAhead 7 = .ok (.istore 4, 2) := by decide +kernel
theorem dX3_countAhead_9 : decode cX3_countAhead 9 = .ok (.aload_n 0, 1) := by decide +kernel
theorem dX3_countAhead_10 : decode cX3_countAhead 10 = .ok (.getfield 11, 3) := by decide +kernel
theorem dX3_countAhead_13 : decode cX3_countAhead 13 = .ok (.astore 5, 2) := by decide +kernel
theorem dX3_countAhead_15 : decode cX3_countAhead 15 = .ok (.aload 5, 2) := by decide +kernel
theorem dX3_countAhead_17 : decode cX3_countAhead 17 = .ok (.arraylength, 1) := by decide +kernel
theorem dX3_countAhead_18 : decode cX3_countAhead 18 = .ok (.istore 6, 2) := by decide +kernel
theorem dX3_countAhead_20 : decode cX3_countAhead 20 = .ok (.iconst 0, 1) := by decide +kernel
theorem dX3_countAhead_21 : decode cX3_countAhead 21 = .ok (.istore 7, 2) := by decide +kernel
theorem dX3_countAhead_23 : decode cX3_countAhead 23 = .ok (.iload 7, 2) := by decide +kernel
theorem dX3_countAhead_25 : decode cX3_countAhead 25 = .ok (.iload 6, 2) := by decide +kernel
theorem dX3_countAhead_27 : decode cX3_countAhead 27 = .ok (.if_icmp .ge 68, 3) := by decide +kernel
theorem dX3_countAhead_30 : decode cX3_countAhead 30 = .ok (.aload 5, 2) := by decide +kernel
theorem dX3_countAhead_32 : decode cX3_countAhead 32 = .ok (.iload 7, 2) := by decide +kernel
theorem dX3_countAhead_34 : decode cX3_countAhead 34 = .ok (.aaload, 1) := by decide +kernel
theorem dX3_countAhead_35 : decode cX3_countAhead 35 = .ok (.astore 8, 2) := by decide +kernel
theorem dX3_countAhead_37 : decode cX3_countAhead 37 = .ok (.aload 8, 2) := by decide +kernel
theorem dX3_countAhead_39 : decode cX3_countAhead 39 = .ok (.ifnull 50, 3) := by decide +kernel
theorem dX3_countAhead_42 : decode cX3_countAhead 42 = .ok (.aload 8, 2) := by decide +kernel
theorem dX3_countAhead_44 : decode cX3_countAhead 44 = .ok (.getfield 95, 3) := by decide +kernel
theorem dX3_countAhead_47 : decode cX3_countAhead 47 = .ok (.ifnull 42, 3) := by decide +kernel
theorem dX3_countAhead_50 : decode cX3_countAhead 50 = .ok (.aload 8, 2) := by decide +kernel
theorem dX3_countAhead_52 : decode cX3_countAhead 52 = .ok (.aload 8, 2) := by decide +kernel
theorem dX3_countAhead_54 : decode cX3_countAhead 54 = .ok (.getfield 95, 3) := by decide +kernel
theorem dX3_countAhead_57 : decode cX3_countAhead 57 = .ok (.invokestatic 182, 3) := by decide +kernel
theorem dX3_countAhead_60 : decode cX3_countAhead 60 = .ok (.istore 9, 2) := by decide +kernel
theorem dX3_countAhead_62 : decode cX3_countAhead 62 = .ok (.iload 9, 2) := by decide +kernel
theorem dX3_countAhead_64 : decode cX3_countAhead 64 = .ok (.iload_n 3, 1) := by decide +kernel
theorem dX3_countAhead_65 : decode cX3_countAhead 65 = .ok (.if_icmp .lt 21, 3) := by decide +kernel
theorem dX3_countAhead_68 : decode cX3_countAhead 68 = .ok (.iload 9, 2) := by decide +kernel
theorem dX3_countAhead_70 : decode cX3_countAhead 70 = .ok (.iload_n 3, 1) := by decide +kernel
theorem dX3_countAhead_71 : decode cX3_countAhead 71 = .ok (.if_icmp .ne 18, 3) := by decide +kernel
theorem dX3_countAhead_74 : decode cX3_countAhead 74 = .ok (.aload 8, 2) := by decide +kernel
theorem dX3_countAhead_76 : decode cX3_countAhead 76 = .ok (.getfield 77, 3) := by decide +kernel
theorem dX3_countAhead_79 : decode cX3_countAhead 79 = .ok (.aload_n 1, 1) := by decide +kernel
theorem dX3_countAhead_80 : decode cX3_countAhead 80 = .ok (.getfield 77, 3) := by decide +kernel
theorem dX3_countAhead_83 : decode cX3_countAhead 83 = .ok (.if_icmp .ge 6, 3) := by decide +kernel
theorem dX3_countAhead_86 : decode cX3_countAhead 86 = .ok (.iinc 4 1, 3) := by decide +kernel
theorem dX3_countAhead_89 : decode cX3_countAhead 89 = .ok (.iinc 7 1, 3) := by decide +kernel
theorem dX3_countAhead_92 : decode cX3_countAhead 92 = .ok (.goto (-69), 3) := by decide +kernel
theorem dX3_countAhead_95 : decode cX3_countAhead 95 = .ok (.iload 4, 2) := by decide +kernel
theorem dX3_countAhead_97 : decode cX3_countAhead 97 = .ok (.ireturn, 1) := by decide +kernel
theorem dX4_init_0 : decode cX4_init 0 = .ok (.aload_n 0, 1) := by decide +kernel
theorem dX4_init_1 : decode cX4_init 1 = .ok (.invokespecial 1, 3) := by decide +kernel
theorem dX4_init_4 : decode cX4_init 4 = .ok (.aload_n 0, 1) := by decide +kernel
theorem dX4_init_5 : decode cX4_init 5 = .ok (.bipush 12, 2) := by decide +kernel
theorem dX4_init_7 : decode cX4_init 7 = .ok (.newarray .int, 2) := by decide +kernel
theorem dX4_init_9 : decode cX4_init 9 = .ok (.putfield 7, 3) := by decide +kernel
theorem dX4_init_12 : decode cX4_init 12 = .ok (.aload_n 0, 1) := by decide +kernel
theorem dX4_init_13 : decode cX4_init 13 = .ok (.bipush 12, 2) := by decide +kernel
theorem dX4_init_15 : decode cX4_init 15 = .ok (.newarray .int, 2) := by decide +kernel
theorem dX4_init_17 : decode cX4_init 17 = .ok (.putfield 13, 3) := by decide +kernel
theorem dX4_init_20 : decode cX4_init 20 = .ok (.aload_n 0, 1) := by decide +kernel
theorem dX4_init_21 : decode cX4_init 21 = .ok (.bipush 12, 2) := by decide +kernel
theorem dX4_init_23 : decode cX4_init 23 = .ok (.newarray .int, 2) := by decide +kernel
theorem dX4_init_25 : decode cX4_init 25 = .ok (.putfield 16, 3) := by decide +kernel
theorem dX4_init_28 : decode cX4_init 28 = .ok (.aload_n 0, 1) := by decide +kernel
theorem dX4_init_29 : decode cX4_init 29 = .ok (.bipush 12, 2) := by decide +kernel
theorem dX4_init_31 : decode cX4_init 31 = .ok (.newarray .int, 2) := by decide +kernel
theorem dX4_init_33 : decode cX4_init 33 = .ok (.putfield 19, 3) := by decide +kernel
theorem dX4_init_36 : decode cX4_init 36 = .ok (.aload_n 0, 1) := by decide +kernel
theorem dX4_init_37 : decode cX4_init 37 = .ok (.bipush 12, 2) := by decide +kernel
theorem dX4_init_39 : decode cX4_init 39 = .ok (.newarray .int, 2) := by decide +kernel
theorem dX4_init_41 : decode cX4_init 41 = .ok (.putfield 22, 3) := by decide +kernel
theorem dX4_init_44 : decode cX4_init 44 = .ok (.aload_n 0, 1) := by decide +kernel
theorem dX4_init_45 : decode cX4_init 45 = .ok (.bipush 12, 2) := by decide +kernel
theorem dX4_init_47 : decode cX4_init 47 = .ok (.newarray .int, 2) := by decide +kernel
theorem dX4_init_49 : decode cX4_init 49 = .ok (.putfield 25, 3) := by decide +kernel
theorem dX4_init_52 : decode cX4_init 52 = .ok (.aload_n 0, 1) := by decide +kernel
theorem dX4_init_53 : decode cX4_init 53 = .ok (.bipush 12, 2) := by decide +kernel
theorem dX4_init_55 : decode cX4_init 55 = .ok (.newarray .int, 2) := by decide +kernel
theorem dX4_init_57 : decode cX4_init 57 = .ok (.putfield 28, 3) := by decide +kernel
theorem dX4_init_60 : decode cX4_init 60 = .ok (.aload_n 0, 1) := by decide +kernel
theorem dX4_init_61 : decode cX4_init 61 = .ok (.bipush 12, 2) := by decide +kernel
theorem dX4_init_63 : decode cX4_init 63 = .ok (.newarray .int, 2) := by decide +kernel
theorem dX4_init_65 : decode cX4_init 65 = .ok (.putfield 31, 3) := by decide +kernel
theorem dX4_init_68 : decode cX4_init 68 = .ok (.aload_n 0, 1) := by decide +kernel
theorem dX4_init_69 : decode cX4_init 69 = .ok (.bipush 12, 2) := by decide +kernel
theorem dX4_init_71 : decode cX4_init 71 = .ok (.newarray .int, 2) := by decide +kernel
theorem dX4_init_73 : decode cX4_init 73 = .ok (.putfield 34, 3) := by decide +kernel
theorem dX4_init_76 : decode cX4_init 76 = .ok (.aload_n 0, 1) := by decide +kernel
theorem dX4_init_77 : decode cX4_init 77 = .ok (.bipush 12, 2) := by decide +kernel
theorem dX4_init_79 : decode cX4_init 79 = .ok (.newarray .boolean, 2) := by decide +kernel
theorem dX4_init_81 : decode cX4_init 81 = .ok (.putfield 37, 3) := by decide +kernel
theorem dX4_init_84 : decode cX4_init 84 = .ok (.aload_n 0, 1) := by decide +kernel
theorem dX4_init_85 : decode cX4_init 85 = .ok (.bipush 12, 2) := by decide +kernel
theorem dX4_init_87 : decode cX4_init 87 = .ok (.newarray .int, 2) := by decide +kernel
theorem dX4_init_89 : decode cX4_init 89 = .ok (.putfield 41, 3) := by decide +kernel
theorem dX4_init_92 : decode cX4_init 92 = .ok (.aload_n 0, 1) := by decide +kernel
theorem dX4_init_93 : decode cX4_init 93 = .ok (.bipush 12, 2) := by decide +kernel
theorem dX4_init_95 : decode cX4_init 95 = .ok (.newarray .int, 2) := by decide +kernel
theorem dX4_init_97 : decode cX4_init 97 = .ok (.putfield 44, 3) := by decide +kernel
theorem dX4_init_100 : decode cX4_init 100 = .ok (.aload_n 0, 1) := by decide +kernel
theorem dX4_init_101 : decode cX4_init 101 = .ok (.bipush 96, 2) := by decide +kernel
theorem dX4_init_103 : decode cX4_init 103 = .ok (.newarray .int, 2) := by decide +kernel
theorem dX4_init_105 : decode cX4_init 105 = .ok (.putfield 47, 3) := by decide +kernel
theorem dX4_init_108 : decode cX4_init 108 = .ok (.aload_n 0, 1) := by decide +kernel
theorem dX4_init_109 : decode cX4_init 109 = .ok (.bipush 96, 2) := by decide +kernel
theorem dX4_init_111 : decode cX4_init 111 = .ok (.newarray .int, 2) := by decide +kernel
theorem dX4_init_113 : decode cX4_init 113 = .ok (.putfield 50, 3) := by decide +kernel
theorem dX4_init_116 : decode cX4_init 116 = .ok (.aload_n 0, 1) := by decide +kernel
theorem dX4_init_117 : decode cX4_init 117 = .ok (.sipush 200, 3) := by decide +kernel
theorem dX4_init_120 : decode cX4_init 120 = .ok (.newarray .int, 2) := by decide +kernel
theorem dX4_init_122 : decode cX4_init 122 = .ok (.putfield 53, 3) := by decide +kernel
theorem dX4_init_125 : decode cX4_init 125 = .ok (.aload_n 0, 1) := by decide +kernel
theorem dX4_init_126 : decode cX4_init 126 = .ok (.sipush 200, 3) := by decide +kernel
theorem dX4_init_129 : decode cX4_init 129 = .ok (.newarray .int, 2) := by decide +kernel
theorem dX4_init_131 : decode cX4_init 131 = .ok (.putfield 56, 3) := by decide +kernel
theorem dX4_init_134 : decode cX4_init 134 = .ok (.aload_n 0, 1) := by decide +kernel
theorem dX4_init_135 : decode cX4_init 135 = .ok (.sipush 200, 3) := by decide +kernel
theorem dX4_init_138 : decode cX4_init 138 = .ok (.newarray .boolean, 2) := by decide +kernel
theorem dX4_init_140 : decode cX4_init 140 = .ok (.putfield 59, 3) := by decide +kernel
theorem dX4_init_143 : decode cX4_init 143 = .ok (.return_, 1) := by decide +kernel
theorem dX4_thrown_0 : decode cX4_thrown 0 = .ok (.aload_n 0, 1) := by decide +kernel
theorem dX4_thrown_1 : decode cX4_thrown 1 = .ok (.getfield 62, 3) := by decide +kernel
theorem dX4_thrown_4 : decode cX4_thrown 4 = .ok (.ireturn, 1) := by decide +kernel
theorem dX4_holds_0 : decode cX4_holds 0 = .ok (.aload_n 0, 1) := by decide +kernel
theorem dX4_holds_1 : decode cX4_holds 1 = .ok (.iload_n 1, 1) := by decide +kernel
theorem dX4_holds_2 : decode cX4_holds 2 = .ok (.putfield 62, 3) := by decide +kernel
theorem dX4_holds_5 : decode cX4_holds 5 = .ok (.iload_n 1, 1) := by decide +kernel
theorem dX4_holds_6 : decode cX4_holds 6 = .ok (.ifCond .ne 7, 3) := by decide +kernel
theorem dX4_holds_9 : decode cX4_holds 9 = .ok (.iconst 1, 1) := by decide +kernel
theorem dX4_holds_10 : decode cX4_holds 10 = .ok (.goto 4, 3) := by decide +kernel
theorem dX4_holds_13 : decode cX4_holds 13 = .ok (.iconst 0, 1) := by decide +kernel
theorem dX4_holds_14 : decode cX4_holds 14 = .ok (.ireturn, 1) := by decide +kernel
theorem dX4_isInstrument_0 : decode cX4_isInstrument 0 = .ok (.iload_n 1, 1) := by decide +kernel
theorem dX4_isInstrument_1 : decode cX4_isInstrument 1 = .ok (.ifCond .lt 15, 3) := by decide +kernel
theorem dX4_isInstrument_4 : decode cX4_isInstrument 4 = .ok (.iload_n 1, 1) := by decide +kernel
theorem dX4_isInstrument_5 : decode cX4_isInstrument 5 = .ok (.aload_n 0, 1) := by decide +kernel
theorem dX4_isInstrument_6 : decode cX4_isInstrument 6 = .ok (.getfield 66, 3) := by decide +kernel
theorem dX4_isInstrument_9 : decode cX4_isInstrument 9 = .ok (.if_icmp .ge 7, 3) := by decide +kernel
theorem dX4_isInstrument_12 : decode cX4_isInstrument 12 = .ok (.iconst 1, 1) := by decide +kernel
theorem dX4_isInstrument_13 : decode cX4_isInstrument 13 = .ok (.goto 4, 3) := by decide +kernel
theorem dX4_isInstrument_16 : decode cX4_isInstrument 16 = .ok (.iconst 0, 1) := by decide +kernel
theorem dX4_isInstrument_17 : decode cX4_isInstrument 17 = .ok (.ireturn, 1) := by decide +kernel
theorem dX4_unsigned_0 : decode cX4_unsigned 0 = .ok (.iload_n 0, 1) := by decide +kernel
theorem dX4_unsigned_1 : decode cX4_unsigned 1 = .ok (.ifCond .ge 8, 3) := by decide +kernel
theorem dX4_unsigned_4 : decode cX4_unsigned 4 = .ok (.iload_n 0, 1) := by decide +kernel
theorem dX4_unsigned_5 : decode cX4_unsigned 5 = .ok (.ineg, 1) := by decide +kernel
theorem dX4_unsigned_6 : decode cX4_unsigned 6 = .ok (.goto 4, 3) := by decide +kernel
theorem dX4_unsigned_9 : decode cX4_unsigned 9 = .ok (.iload_n 0, 1) := by decide +kernel
theorem dX4_unsigned_10 : decode cX4_unsigned 10 = .ok (.ireturn, 1) := by decide +kernel
theorem dX4_isCalibrated_0 : decode cX4_isCalibrated 0 = .ok (.aload_n 0, 1) := by decide +kernel
theorem dX4_isCalibrated_1 : decode cX4_isCalibrated 1 = .ok (.getfield 22, 3) := by decide +kernel
theorem dX4_isCalibrated_4 : decode cX4_isCalibrated 4 = .ok (.iload_n 1, 1) := by decide +kernel
theorem dX4_isCalibrated_5 : decode cX4_isCalibrated 5 = .ok (.iaload, 1) := by decide +kernel
theorem dX4_isCalibrated_6 : decode cX4_isCalibrated 6 = .ok (.ifCond .le 7, 3) := by decide +kernel
theorem dX4_isCalibrated_9 : decode cX4_isCalibrated 9 = .ok (.iconst 1, 1) := by decide +kernel
theorem dX4_isCalibrated_10 : decode cX4_isCalibrated 10 = .ok (.goto 4, 3) := by decide +kernel
theorem dX4_isCalibrated_13 : decode cX4_isCalibrated 13 = .ok (.iconst 0, 1) := by decide +kernel
theorem dX4_isCalibrated_14 : decode cX4_isCalibrated 14 = .ok (.ireturn, 1) := by decide +kernel
theorem dX4_tell_0 : decode cX4_tell 0 = .ok (.iload_n 1, 1) := by decide +kernel
theorem dX4_tell_1 : decode cX4_tell 1 = .ok (.iconst (-1), 1) := by decide +kernel
theorem dX4_tell_2 : decode cX4_tell 2 = .ok (.if_icmp .eq 11, 3) := by decide +kernel
theorem dX4_tell_5 : decode cX4_tell 5 = .ok (.aload_n 0, 1) := by decide +kernel
theorem dX4_tell_6 : decode cX4_tell 6 = .ok (.iload_n 1, 1) := by decide +kernel
theorem dX4_tell_7 : decode cX4_tell 7 = .ok (.invokevirtual 69, 3) := by decide +kernel
theorem dX4_tell_10 : decode cX4_tell 10 = .ok (.ifCond .eq 7, 3) := by decide +kernel
theorem dX4_tell_13 : decode cX4_tell 13 = .ok (.iconst 1, 1) := by decide +kernel
theorem dX4_tell_14 : decode cX4_tell 14 = .ok (.goto 4, 3) := by decide +kernel
theorem dX4_tell_17 : decode cX4_tell 17 = .ok (.iconst 0, 1) := by decide +kernel
theorem dX4_tell_18 : decode cX4_tell 18 = .ok (.istore 5, 2) := by decide +kernel
theorem dX4_tell_20 : decode cX4_tell 20 = .ok (.iload_n 2, 1) := by decide +kernel
theorem dX4_tell_21 : decode cX4_tell 21 = .ok (.iconst 1, 1) := by decide +kernel
theorem dX4_tell_22 : decode cX4_tell 22 = .ok (.if_icmp .lt 39, 3) := by decide +kernel
theorem dX4_tell_25 : decode cX4_tell 25 = .ok (.iload_n 2, 1) := by decide +kernel
theorem dX4_tell_26 : decode cX4_tell 26 = .ok (.sipush 9999, 3) := by decide +kernel
theorem dX4_tell_29 : decode cX4_tell 29 = .ok (.if_icmp .gt 32, 3) := by decide +kernel
theorem dX4_tell_32 : decode cX4_tell 32 = .ok (.iload_n 3, 1) := by decide +kernel
theorem dX4_tell_33 : decode cX4_tell 33 = .ok (.ifCond .lt 28, 3) := by decide +kernel
theorem dX4_tell_36 : decode cX4_tell 36 = .ok (.iload_n 3, 1) := by decide +kernel
theorem dX4_tell_37 : decode cX4_tell 37 = .ok (.sipush 999, 3) := by decide +kernel
theorem dX4_tell_40 : decode cX4_tell 40 = .ok (.if_icmp .gt 21, 3) := by decide +kernel
theorem dX4_tell_43 : decode cX4_tell 43 = .ok (.iload 4, 2) := by decide +kernel
theorem dX4_tell_45 : decode cX4_tell 45 = .ok (.iconst 1, 1) := by decide +kernel
theorem dX4_tell_46 : decode cX4_tell 46 = .ok (.if_icmp .lt 15, 3) := by decide +kernel
theorem dX4_tell_49 : decode cX4_tell 49 = .ok (.iload 4, 2) := by decide +kernel
theorem dX4_tell_51 : decode cX4_tell 51 = .ok (.sipush 999, 3) := by decide +kernel
theorem dX4_tell_54 : decode cX4_tell 54 = .ok (.if_icmp .gt 7, 3) := by decide +kernel
theorem dX4_tell_57 : decode cX4_tell 57 = .ok (.iconst 1, 1) := by decide +kernel
theorem dX4_tell_58 : decode cX4_tell 58 = .ok (.goto 4, 3) := by decide +kernel
theorem dX4_tell_61 : decode cX4_tell 61 = .ok (.iconst 0, 1) := by decide +kernel
theorem dX4_tell_62 : decode cX4_tell 62 = .ok (.istore 6, 2) := by decide +kernel
theorem dX4_tell_64 : decode cX4_tell 64 = .ok (.aload_n 0, 1) := by decide +kernel
theorem dX4_tell_65 : decode cX4_tell 65 = .ok (.iload 5, 2) := by decide +kernel
theorem dX4_tell_67 : decode cX4_tell 67 = .ok (.ifCond .ne 7, 3) := by decide +kernel
theorem dX4_tell_70 : decode cX4_tell 70 = .ok (.iconst 1, 1) := by decide +kernel
theorem dX4_tell_71 : decode cX4_tell 71 = .ok (.goto 26, 3) := by decide +kernel
theorem dX4_tell_74 : decode cX4_tell 74 = .ok (.iload 6, 2) := by decide +kernel
theorem dX4_tell_76 : decode cX4_tell 76 = .ok (.ifCond .ne 7, 3) := by decide +kernel
theorem dX4_tell_79 : decode cX4_tell 79 = .ok (.iconst 2, 1) := by decide +kernel
theorem dX4_tell_80 : decode cX4_tell 80 = .ok (.goto 17, 3) := by decide +kernel
theorem dX4_tell_83 : decode cX4_tell 83 = .ok (.aload_n 0, 1) := by decide +kernel
theorem dX4_tell_84 : decode cX4_tell 84 = .ok (.getfield 66, 3) := by decide +kernel
theorem dX4_tell_87 : decode cX4_tell 87 = .ok (.bipush 12, 2) := by decide +kernel
theorem dX4_tell_89 : decode cX4_tell 89 = .ok (.if_icmp .ne 7, 3) := by decide +kernel
theorem dX4_tell_92 : decode cX4_tell 92 = .ok (.iconst 3, 1) := by decide +kernel
theorem dX4_tell_93 : decode cX4_tell 93 = .ok (.goto 4, 3) := by decide +kernel
theorem dX4_tell_96 : decode cX4_tell 96 = .ok (.iconst 0, 1) := by decide +kernel
theorem dX4_tell_97 : decode cX4_tell 97 = .ok (.invokevirtual 73, 3) := by decide +kernel
theorem dX4_tell_100 : decode cX4_tell 100 = .ok (.ifCond .ne 5, 3) := by decide +kernel
theorem dX4_tell_103 : decode cX4_tell 103 = .ok (.iconst 0, 1) := by decide +kernel
theorem dX4_tell_104 : decode cX4_tell 104 = .ok (.ireturn, 1) := by decide +kernel
theorem dX4_tell_105 : decode cX4_tell 105 = .ok (.aload_n 0, 1) := by decide +kernel
theorem dX4_tell_106 : decode cX4_tell 106 = .ok (.getfield 7, 3) := by decide +kernel
theorem dX4_tell_109 : decode cX4_tell 109 = .ok (.aload_n 0, 1) := by decide +kernel
theorem dX4_tell_110 : decode cX4_tell 110 = .ok (.getfield 66, 3) := by decide +kernel
theorem dX4_tell_113 : decode cX4_tell 113 = .ok (.iload_n 1, 1) := by decide +kernel
theorem dX4_tell_114 : decode cX4_tell 114 = .ok (.iastore, 1) := by decide +kernel
theorem dX4_tell_115 : decode cX4_tell 115 = .ok (.aload_n 0, 1) := by decide +kernel
theorem dX4_tell_116 : decode cX4_tell 116 = .ok (.getfield 13, 3) := by decide +kernel
theorem dX4_tell_119 : decode cX4_tell 119 = .ok (.aload_n 0, 1) := by decide +kernel
theorem dX4_tell_120 : decode cX4_tell 120 = .ok (.getfield 66, 3) := by decide +kernel
theorem dX4_tell_123 : decode cX4_tell 123 = .ok (.iload_n 2, 1) := by decide +kernel
theorem dX4_tell_124 : decode cX4_tell 124 = .ok (.iastore, 1) := by decide +kernel
theorem dX4_tell_125 : decode cX4_tell 125 = .ok (.aload_n 0, 1) := by decide +kernel
theorem dX4_tell_126 : decode cX4_tell 126 = .ok (.getfield 16, 3) := by decide +kernel
theorem dX4_tell_129 : decode cX4_tell 129 = .ok (.aload_n 0, 1) := by decide +kernel
theorem dX4_tell_130 : decode cX4_tell 130 = .ok (.getfield 66, 3) := by decide +kernel
theorem dX4_tell_133 : decode cX4_tell 133 = .ok (.iload_n 3, 1) := by decide +kernel
theorem dX4_tell_134 : decode cX4_tell 134 = .ok (.iastore, 1) := by decide +kernel
theorem dX4_tell_135 : decode cX4_tell 135 = .ok (.aload_n 0, 1) := by decide +kernel
theorem dX4_tell_136 : decode cX4_tell 136 = .ok (.getfield 19, 3) := by decide +kernel
theorem dX4_tell_139 : decode cX4_tell 139 = .ok (.aload_n 0, 1) := by decide +kernel
theorem dX4_tell_140 : decode cX4_tell 140 = .ok (.getfield 66, 3) := by decide +kernel
theorem dX4_tell_143 : decode cX4_tell 143 = .ok (.iload 4, 2) := by decide +kernel
theorem dX4_tell_145 : decode cX4_tell 145 = .ok (.iastore, 1) := by decide +kernel
theorem dX4_tell_146 : decode cX4_tell 146 = .ok (.aload_n 0, 1) := by decide +kernel
theorem dX4_tell_147 : decode cX4_tell 147 = .ok (.dup, 1) := by decide +kernel
theorem dX4_tell_148 : decode cX4_tell 148 = .ok (.getfield 66, 3) := by decide +kernel
theorem dX4_tell_151 : decode cX4_tell 151 = .ok (.iconst 1, 1) := by decide +kernel
theorem dX4_tell_152 : decode cX4_tell 152 = .ok (.iadd, 1) := by decide +kernel
theorem dX4_tell_153 : decode cX4_tell 153 = .ok (.putfield 66, 3) := by decide +kernel
theorem dX4_tell_156 : decode cX4_tell 156 = .ok (.aload_n 0, 1) := by decide +kernel
theorem dX4_tell_157 : decode cX4_tell 157 = .ok (.getfield 66, 3) := by decide +kernel
theorem dX4_tell_160 : decode cX4_tell 160 = .ok (.iconst 1, 1) := by decide +kernel
theorem dX4_tell_161 : decode cX4_tell 161 = .ok (.isub, 1) := by decide +kernel
theorem dX4_tell_162 : decode cX4_tell 162 = .ok (.ireturn, 1) := by decide +kernel
theorem dX4_isInChain_0 : decode cX4_isInChain 0 = .ok (.iload_n 2, 1) := by decide +kernel
theorem dX4_isInChain_1 : decode cX4_isInChain 1 = .ok (.istore_n 3, 1) := by decide +kernel
theorem dX4_isInChain_2 : decode cX4_isInChain 2 = .ok (.iload_n 3, 1) := by decide +kernel
theorem dX4_isInChain_3 : decode cX4_isInChain 3 = .ok (.iconst (-1), 1) := by decide +kernel
theorem dX4_isInChain_4 : decode cX4_isInChain 4 = .ok (.if_icmp .eq 18, 3) := by decide +kernel
theorem dX4_isInChain_7 : decode cX4_isInChain 7 = .ok (.iload_n 3, 1) := by decide +kernel
theorem dX4_isInChain_8 : decode cX4_isInChain 8 = .ok (.iload_n 1, 1) := by decide +kernel
theorem dX4_isInChain_9 : decode cX4_isInChain 9 = .ok (.if_icmp .eq 13, 3) := by decide +kernel
theorem dX4_isInChain_12 : decode cX4_isInChain 12 = .ok (.aload_n 0, 1) := by decide +kernel
theorem dX4_isInChain_13 : decode cX4_isInChain 13 = .ok (.getfield 7, 3) := by decide +kernel
theorem dX4_isInChain_16 : decode cX4_isInChain 16 = .ok (.iload_n 3, 1) := by decide +kernel
theorem dX4_isInChain_17 : decode cX4_isInChain 17 = .ok (.iaload, 1) := by decide +kernel
theorem dX4_isInChain_18 : decode cX4_isInChain 18 = .ok (.istore_n 3, 1) := by decide +kernel
theorem dX4_isInChain_19 : decode cX4_isInChain 19 = .ok (.goto (-17), 3) := by decide +kernel
theorem dX4_isInChain_22 : decode cX4_isInChain 22 = .ok (.iload_n 3, 1) := by decide +kernel
theorem dX4_isInChain_23 : decode cX4_isInChain 23 = .ok (.iload_n 1, 1) := by decide +kernel
theorem dX4_isInChain_24 : decode cX4_isInChain 24 = .ok (.if_icmp .ne 7, 3) := by decide +kernel
theorem dX4_isInChain_27 : decode cX4_isInChain 27 = .ok (.iconst 1, 1) := by decide +kernel
theorem dX4_isInChain_28 : decode cX4_isInChain 28 = .ok (.goto 4, 3) := by decide +kernel
theorem dX4_isInChain_31 : decode cX4_isInChain 31 = .ok (.iconst 0, 1) := by decide +kernel
theorem dX4_isInChain_32 : decode cX4_isInChain 32 = .ok (.ireturn, 1) := by decide +kernel
theorem dX4_refer_0 : decode cX4_refer 0 = .ok (.aload_n 0, 1) := by decide +kernel
theorem dX4_refer_1 : decode cX4_refer 1 = .ok (.iload_n 1, 1) := by decide +kernel
theorem dX4_refer_2 : decode cX4_refer 2 = .ok (.invokevirtual 69, 3) := by decide +kernel
theorem dX4_refer_5 : decode cX4_refer 5 = .ok (.ifCond .eq 20, 3) := by decide +kernel
theorem dX4_refer_8 : decode cX4_refer 8 = .ok (.iload_n 2, 1) := by decide +kernel
theorem dX4_refer_9 : decode cX4_refer 9 = .ok (.iconst (-1), 1) := by decide +kernel
theorem dX4_refer_10 : decode cX4_refer 10 = .ok (.if_icmp .eq 11, 3) := by decide +kernel
theorem dX4_refer_13 : decode cX4_refer 13 = .ok (.aload_n 0, 1) := by decide +kernel
theorem dX4_refer_14 : decode cX4_refer 14 = .ok (.iload_n 2, 1) := by decide +kernel
theorem dX4_refer_15 : decode cX4_refer 15 = .ok (.invokevirtual 69, 3) := by decide +kernel
theorem dX4_refer_18 : decode cX4_refer 18 = .ok (.ifCond .eq 7, 3) := by decide +kernel
theorem dX4_refer_21 : decode cX4_refer 21 = .ok (.iconst 1, 1) := by decide +kernel
theorem dX4_refer_22 : decode cX4_refer 22 = .ok (.goto 4, 3) := by decide +kernel
theorem dX4_refer_25 : decode cX4_refer 25 = .ok (.iconst 0, 1) := by decide +kernel
theorem dX4_refer_26 : decode cX4_refer 26 = .ok (.istore_n 3, 1) := by decide +kernel
theorem dX4_refer_27 : decode cX4_refer 27 = .ok (.aload_n 0, 1) := by decide +kernel
theorem dX4_refer_28 : decode cX4_refer 28 = .ok (.iload_n 3, 1) := by decide +kernel
theorem dX4_refer_29 : decode cX4_refer 29 = .ok (.ifCond .ne 7, 3) := by decide +kernel
theorem dX4_refer_32 : decode cX4_refer 32 = .ok (.iconst 1, 1) := by decide +kernel
theorem dX4_refer_33 : decode cX4_refer 33 = .ok (.goto 22, 3) := by decide +kernel
theorem dX4_refer_36 : decode cX4_refer 36 = .ok (.iload_n 2, 1) := by decide +kernel
theorem dX4_refer_37 : decode cX4_refer 37 = .ok (.iconst (-1), 1) := by decide +kernel
theorem dX4_refer_38 : decode cX4_refer 38 = .ok (.if_icmp .eq 16, 3) := by decide +kernel
theorem dX4_refer_41 : decode cX4_refer 41 = .ok (.aload_n 0, 1) := by decide +kernel
theorem dX4_refer_42 : decode cX4_refer 42 = .ok (.iload_n 1, 1) := by decide +kernel
theorem dX4_refer_43 : decode cX4_refer 43 = .ok (.iload_n 2, 1) := by decide +kernel
theorem dX4_refer_44 : decode cX4_refer 44 = .ok (.invokevirtual 76, 3) := by decide +kernel
theorem dX4_refer_47 : decode cX4_refer 47 = .ok (.ifCond .eq 7, 3) := by decide +kernel
theorem dX4_refer_50 : decode cX4_refer 50 = .ok (.iconst 2, 1) := by decide +kernel
theorem dX4_refer_51 : decode cX4_refer 51 = .ok (.goto 4, 3) := by decide +kernel
theorem dX4_refer_54 : decode cX4_refer 54 = .ok (.iconst 0, 1) := by decide +kernel
theorem dX4_refer_55 : decode cX4_refer 55 = .ok (.invokevirtual 73, 3) := by decide +kernel
theorem dX4_refer_58 : decode cX4_refer 58 = .ok (.ifCond .ne 5, 3) := by decide +kernel
theorem dX4_refer_61 : decode cX4_refer 61 = .ok (.iconst 0, 1) := by decide +kernel
theorem dX4_refer_62 : decode cX4_refer 62 = .ok (.ireturn, 1) := by decide +kernel
theorem dX4_refer_63 : decode cX4_refer 63 = .ok (.aload_n 0, 1) := by decide +kernel
theorem dX4_refer_64 : decode cX4_refer 64 = .ok (.getfield 7, 3) := by decide +kernel
theorem dX4_refer_67 : decode cX4_refer 67 = .ok (.iload_n 1, 1) := by decide +kernel
theorem dX4_refer_68 : decode cX4_refer 68 = .ok (.iaload, 1) := by decide +kernel
theorem dX4_refer_69 : decode cX4_refer 69 = .ok (.istore 4, 2) := by decide +kernel
theorem dX4_refer_71 : decode cX4_refer 71 = .ok (.aload_n 0, 1) := by decide +kernel
theorem dX4_refer_72 : decode cX4_refer 72 = .ok (.getfield 7, 3) := by decide +kernel
theorem dX4_refer_75 : decode cX4_refer 75 = .ok (.iload_n 1, 1) := by decide +kernel
theorem dX4_refer_76 : decode cX4_refer 76 = .ok (.iload_n 2, 1) := by decide +kernel
theorem dX4_refer_77 : decode cX4_refer 77 = .ok (.iastore, 1) := by decide +kernel
theorem dX4_refer_78 : decode cX4_refer 78 = .ok (.iload 4, 2) := by decide +kernel
theorem dX4_refer_80 : decode cX4_refer 80 = .ok (.ireturn, 1) := by decide +kernel
theorem dX4_pass_0 : decode cX4_pass 0 = .ok (.aload_n 0, 1) := by decide +kernel
theorem dX4_pass_1 : decode cX4_pass 1 = .ok (.iload_n 1, 1) := by decide +kernel
theorem dX4_pass_2 : decode cX4_pass 2 = .ok (.iconst 1, 1) := by decide +kernel
theorem dX4_pass_3 : decode cX4_pass 3 = .ok (.if_icmp .lt 10, 3) := by decide +kernel
theorem dX4_pass_6 : decode cX4_pass 6 = .ok (.iload_n 1, 1) := by decide +kernel
theorem dX4_pass_7 : decode cX4_pass 7 = .ok (.sipush 999, 3) := by decide +kernel
theorem dX4_pass_10 : decode cX4_pass 10 = .ok (.if_icmp .le 7, 3) := by decide +kernel
theorem dX4_pass_13 : decode cX4_pass 13 = .ok (.iconst 1, 1) := by decide +kernel
theorem dX4_pass_14 : decode cX4_pass 14 = .ok (.goto 4, 3) := by decide +kernel
theorem dX4_pass_17 : decode cX4_pass 17 = .ok (.iconst 0, 1) := by decide +kernel
theorem dX4_pass_18 : decode cX4_pass 18 = .ok (.invokevirtual 73, 3) := by decide +kernel
theorem dX4_pass_21 : decode cX4_pass 21 = .ok (.ifCond .ne 5, 3) := by decide +kernel
theorem dX4_pass_24 : decode cX4_pass 24 = .ok (.iconst 0, 1) := by decide +kernel
theorem dX4_pass_25 : decode cX4_pass 25 = .ok (.ireturn, 1) := by decide +kernel
theorem dX4_pass_26 : decode cX4_pass 26 = .ok (.aload_n 0, 1) := by decide +kernel
theorem dX4_pass_27 : decode cX4_pass 27 = .ok (.dup, 1) := by decide +kernel
theorem dX4_pass_28 : decode cX4_pass 28 = .ok (.getfield 80, 3) := by decide +kernel
theorem dX4_pass_31 : decode cX4_pass 31 = .ok (.iload_n 1, 1) := by decide +kernel
theorem dX4_pass_32 : decode cX4_pass 32 = .ok (.iadd, 1) := by decide +kernel
theorem dX4_pass_33 : decode cX4_pass 33 = .ok (.putfield 80, 3) := by decide +kernel
theorem dX4_pass_36 : decode cX4_pass 36 = .ok (.aload_n 0, 1) := by decide +kernel
theorem dX4_pass_37 : decode cX4_pass 37 = .ok (.getfield 80, 3) := by decide +kernel
theorem dX4_pass_40 : decode cX4_pass 40 = .ok (.ireturn, 1) := by decide +kernel
theorem dX4_today_0 : decode cX4_today 0 = .ok (.aload_n 0, 1) := by decide +kernel
theorem dX4_today_1 : decode cX4_today 1 = .ok (.iconst 0, 1) := by decide +kernel
theorem dX4_today_2 : decode cX4_today 2 = .ok (.putfield 62, 3) := by decide +kernel
theorem dX4_today_5 : decode cX4_today 5 = .ok (.aload_n 0, 1) := by decide +kernel
theorem dX4_today_6 : decode cX4_today 6 = .ok (.getfield 80, 3) := by decide +kernel
theorem dX4_today_9 : decode cX4_today 9 = .ok (.ireturn, 1) := by decide +kernel
theorem dX4_instruments_0 : decode cX4_instruments 0 = .ok (.aload_n 0, 1) := by decide +kernel
theorem dX4_instruments_1 : decode cX4_instruments 1 = .ok (.iconst 0, 1) := by decide +kernel
theorem dX4_instruments_2 : decode cX4_instruments 2 = .ok (.putfield 62, 3) := by decide +kernel
theorem dX4_instruments_5 : decode cX4_instruments 5 = .ok (.aload_n 0, 1) := by decide +kernel
theorem dX4_instruments_6 : decode cX4_instruments 6 = .ok (.getfield 66, 3) := by decide +kernel
theorem dX4_instruments_9 : decode cX4_instruments 9 = .ok (.ireturn, 1) := by decide +kernel
theorem dX4_isInForce_0 : decode cX4_isInForce 0 = .ok (.aload_n 0, 1) := by decide +kernel
theorem dX4_isInForce_1 : decode cX4_isInForce 1 = .ok (.iload_n 1, 1) := by decide +kernel
theorem dX4_isInForce_2 : decode cX4_isInForce 2 = .ok (.invokevirtual 83, 3) := by decide +kernel
theorem dX4_isInForce_5 : decode cX4_isInForce 5 = .ok (.ifCond .eq 29, 3) := by decide +kernel
theorem dX4_isInForce_8 : decode cX4_isInForce 8 = .ok (.aload_n 0, 1) := by decide +kernel
theorem dX4_isInForce_9 : decode cX4_isInForce 9 = .ok (.getfield 80, 3) := by decide +kernel
theorem dX4_isInForce_12 : decode cX4_isInForce 12 = .ok (.aload_n 0, 1) := by decide +kernel
theorem dX4_isInForce_13 : decode cX4_isInForce 13 = .ok (.getfield 31, 3) := by decide +kernel
theorem dX4_isInForce_16 : decode cX4_isInForce 16 = .ok (.iload_n 1, 1) := by decide +kernel
theorem dX4_isInForce_17 : decode cX4_isInForce 17 = .ok (.iaload, 1) := by decide +kernel
theorem dX4_isInForce_18 : decode cX4_isInForce 18 = .ok (.if_icmp .gt 16, 3) := by decide +kernel
theorem dX4_isInForce_21 : decode cX4_isInForce 21 = .ok (.aload_n 0, 1) := by decide +kernel
theorem dX4_isInForce_22 : decode cX4_isInForce 22 = .ok (.getfield 37, 3) := by decide +kernel
theorem dX4_isInForce_25 : decode cX4_isInForce 25 = .ok (.iload_n 1, 1) := by decide +kernel
theorem dX4_isInForce_26 : decode cX4_isInForce 26 = .ok (.baload, 1) := by decide +kernel
theorem dX4_isInForce_27 : decode cX4_isInForce 27 = .ok (.ifCond .ne 7, 3) := by decide +kernel
theorem dX4_isInForce_30 : decode cX4_isInForce 30 = .ok (.iconst 1, 1) := by decide +kernel
theorem dX4_isInForce_31 : decode cX4_isInForce 31 = .ok (.goto 4, 3) := by decide +kernel
theorem dX4_isInForce_34 : decode cX4_isInForce 34 = .ok (.iconst 0, 1) := by decide +kernel
theorem dX4_isInForce_35 : decode cX4_isInForce 35 = .ok (.ireturn, 1) := by decide +kernel
theorem dX4_firstDistrusted_0 : decode cX4_firstDistrusted 0 = .ok (.iload_n 1, 1) := by decide +kernel
theorem dX4_firstDistrusted_1 : decode cX4_firstDistrusted 1 = .ok (.istore_n 2, 1) := by decide +kernel
theorem dX4_firstDistrusted_2 : decode cX4_firstDistrusted 2 = .ok (.iload_n 2, 1) := by decide +kernel
theorem dX4_firstDistrusted_3 : decode cX4_firstDistrusted 3 = .ok (.iconst (-1), 1) := by decide +kernel
theorem dX4_firstDistrusted_4 : decode cX4_firstDistrusted 4 = .ok (.if_icmp .eq 21, 3) := by decide +kernel
theorem dX4_firstDistrusted_7 : decode cX4_firstDistrusted 7 = .ok (.aload_n 0, 1) := by decide +kernel
theorem dX4_firstDistrusted_8 : decode cX4_firstDistrusted 8 = .ok (.iload_n 2, 1) := by decide +kernel
theorem dX4_firstDistrusted_9 : decode cX4_firstDistrusted 9 = .ok (.invokevirtual 86, 3) := by decide +kernel
theorem dX4_firstDistrusted_12 : decode cX4_firstDistrusted 12 = .ok (.ifCond .eq 13, 3) := by decide +kernel
theorem dX4_firstDistrusted_15 : decode cX4_firstDistrusted 15 = .ok (.aload_n 0, 1) := by decide +kernel
theorem dX4_firstDistrusted_16 : decode cX4_firstDistrusted 16 = .ok (.getfield 7, 3) := by decide +kernel
theorem dX4_firstDistrusted_19 : decode cX4_firstDistrusted 19 = .ok (.iload_n 2, 1) := by decide +kernel
theorem dX4_firstDistrusted_20 : decode cX4_firstDistrusted 20 = .ok (.iaload, 1) := by decide +kernel
theorem dX4_firstDistrusted_21 : decode cX4_firstDistrusted 21 = .ok (.istore_n 2, 1) := by decide +kernel
theorem dX4_firstDistrusted_22 : decode cX4_firstDistrusted 22 = .ok (.goto (-20), 3) := by decide +kernel
theorem dX4_firstDistrusted_25 : decode cX4_firstDistrusted 25 = .ok (.iload_n 2, 1) := by decide +kernel
theorem dX4_firstDistrusted_26 : decode cX4_firstDistrusted 26 = .ok (.ireturn, 1) := by decide +kernel
theorem dX4_reached_0 : decode cX4_reached 0 = .ok (.iconst 1, 1) := by decide +kernel
theorem dX4_reached_1 : decode cX4_reached 1 = .ok (.iload_n 1, 1) := by decide +kernel
theorem dX4_reached_2 : decode cX4_reached 2 = .ok (.ishl, 1) := by decide +kernel
theorem dX4_reached_3 : decode cX4_reached 3 = .ok (.istore_n 2, 1) := by decide +kernel
theorem dX4_reached_4 : decode cX4_reached 4 = .ok (.iconst 0, 1) := by decide +kernel
theorem dX4_reached_5 : decode cX4_reached 5 = .ok (.istore_n 3, 1) := by decide +kernel
theorem dX4_reached_6 : decode cX4_reached 6 = .ok (.iload_n 3, 1) := by decide +kernel
theorem dX4_reached_7 : decode cX4_reached 7 = .ok (.iload_n 2, 1) := by decide +kernel
theorem dX4_reached_8 : decode cX4_reached 8 = .ok (.if_icmp .eq 100, 3) := by decide +kernel
theorem dX4_reached_11 : decode cX4_reached 11 = .ok (.iload_n 2, 1) := by decide +kernel
theorem dX4_reached_12 : decode cX4_reached 12 = .ok (.istore_n 3, 1) := by decide +kernel
theorem dX4_reached_13 : decode cX4_reached 13 = .ok (.iconst 0, 1) := by decide +kernel
theorem dX4_reached_14 : decode cX4_reached 14 = .ok (.istore 4, 2) := by decide +kernel
theorem dX4_reached_16 : decode cX4_reached 16 = .ok (.iload 4, 2) := by decide +kernel
theorem dX4_reached_18 : decode cX4_reached 18 = .ok (.aload_n 0, 1) := by decide +kernel
theorem dX4_reached_19 : decode cX4_reached 19 = .ok (.getfield 66, 3) := by decide +kernel
theorem dX4_reached_22 : decode cX4_reached 22 = .ok (.if_icmp .ge 83, 3) := by decide +kernel
theorem dX4_reached_25 : decode cX4_reached 25 = .ok (.aload_n 0, 1) := by decide +kernel
theorem dX4_reached_26 : decode cX4_reached 26 = .ok (.getfield 25, 3) := by decide +kernel
theorem dX4_reached_29 : decode cX4_reached 29 = .ok (.iload 4, 2) := by decide +kernel
theorem dX4_reached_31 : decode cX4_reached 31 = .ok (.iaload, 1) := by decide +kernel
theorem dX4_reached_32 : decode cX4_reached 32 = .ok (.istore 5, 2) := by decide +kernel
theorem dX4_reached_34 : decode cX4_reached 34 = .ok (.aload_n 0, 1) := by decide +kernel
theorem dX4_reached_35 : decode cX4_reached 35 = .ok (.iload 4, 2) := by decide +kernel
theorem dX4_reached_37 : decode cX4_reached 37 = .ok (.invokevirtual 83, 3) := by decide +kernel
theorem dX4_reached_40 : decode cX4_reached 40 = .ok (.ifCond .eq 40, 3) := by decide +kernel
theorem dX4_reached_43 : decode cX4_reached 43 = .ok (.iload 5, 2) := by decide +kernel
theorem dX4_reached_45 : decode cX4_reached 45 = .ok (.iconst (-1), 1) := by decide +kernel
theorem dX4_reached_46 : decode cX4_reached 46 = .ok (.if_icmp .eq 34, 3) := by decide +kernel
theorem dX4_reached_49 : decode cX4_reached 49 = .ok (.iload_n 3, 1) := by decide +kernel
theorem dX4_reached_50 : decode cX4_reached 50 = .ok (.iload 5, 2) := by decide +kernel
theorem dX4_reached_52 : decode cX4_reached 52 = .ok (.ishr, 1) := by decide +kernel
theorem dX4_reached_53 : decode cX4_reached 53 = .ok (.iconst 1, 1) := by decide +kernel
theorem dX4_reached_54 : decode cX4_reached 54 = .ok (.iand, 1) := by decide +kernel
theorem dX4_reached_55 : decode cX4_reached 55 = .ok (.iconst 1, 1) := by decide +kernel
theorem dX4_reached_56 : decode cX4_reached 56 = .ok (.if_icmp .ne 24, 3) := by decide +kernel
theorem dX4_reached_59 : decode cX4_reached 59 = .ok (.aload_n 0, 1) := by decide +kernel
theorem dX4_reached_60 : decode cX4_reached 60 = .ok (.getfield 22, 3) := by decide +kernel
theorem dX4_reached_63 : decode cX4_reached 63 = .ok (.iload 4, 2) := by decide +kernel
theorem dX4_reached_65 : decode cX4_reached 65 = .ok (.iaload, 1) := by decide +kernel
theorem dX4_reached_66 : decode cX4_reached 66 = .ok (.aload_n 0, 1) := by decide +kernel
theorem dX4_reached_67 : decode cX4_reached 67 = .ok (.getfield 22, 3) := by decide +kernel
theorem dX4_reached_70 : decode cX4_reached 70 = .ok (.iload 5, 2) := by decide +kernel
theorem dX4_reached_72 : decode cX4_reached 72 = .ok (.iaload, 1) := by decide +kernel
theorem dX4_reached_73 : decode cX4_reached 73 = .ok (.if_icmp .le 7, 3) := by decide +kernel
theorem dX4_reached_76 : decode cX4_reached 76 = .ok (.iconst 1, 1) := by decide +kernel
theorem dX4_reached_77 : decode cX4_reached 77 = .ok (.goto 4, 3) := by decide +kernel
theorem dX4_reached_80 : decode cX4_reached 80 = .ok (.iconst 0, 1) := by decide +kernel
theorem dX4_reached_81 : decode cX4_reached 81 = .ok (.istore 6, 2) := by decide +kernel
theorem dX4_reached_83 : decode cX4_reached 83 = .ok (.iload_n 2, 1) := by decide +kernel
theorem dX4_reached_84 : decode cX4_reached 84 = .ok (.iload 6, 2) := by decide +kernel
theorem dX4_reached_86 : decode cX4_reached 86 = .ok (.ifCond .eq 10, 3) := by decide +kernel
theorem dX4_reached_89 : decode cX4_reached 89 = .ok (.iconst 1, 1) := by decide +kernel
theorem dX4_reached_90 : decode cX4_reached 90 = .ok (.iload 4, 2) := by decide +kernel
theorem dX4_reached_92 : decode cX4_reached 92 = .ok (.ishl, 1) := by decide +kernel
theorem dX4_reached_93 : decode cX4_reached 93 = .ok (.goto 4, 3) := by decide +kernel
theorem dX4_reached_96 : decode cX4_reached 96 = .ok (.iconst 0, 1) := by decide +kernel
theorem dX4_reached_97 : decode cX4_reached 97 = .ok (.ior, 1) := by decide +kernel
theorem dX4_reached_98 : decode cX4_reached 98 = .ok (.istore_n 2, 1) := by decide +kernel
theorem dX4_reached_99 : decode cX4_reached 99 = .ok (.iinc 4 1, 3) := by decide +kernel
theorem dX4_reached_102 : decode cX4_reached 102 = .ok (.goto (-86), 3) := by decide +kernel
theorem dX4_reached_105 : decode cX4_reached 105 = .ok (.goto (-99), 3) := by decide +kernel
theorem dX4_reached_108 : decode cX4_reached 108 = .ok (.iload_n 2, 1) := by decide +kernel
theorem dX4_reached_109 : decode cX4_reached 109 = .ok (.ireturn, 1) := by decide +kernel
theorem dX4_recalls_0 : decode cX4_recalls 0 = .ok (.iconst 0, 1) := by decide +kernel
theorem dX4_recalls_1 : decode cX4_recalls 1 = .ok (.istore_n 3, 1) := by decide +kernel
theorem dX4_recalls_2 : decode cX4_recalls 2 = .ok (.iconst 0, 1) := by decide +kernel
theorem dX4_recalls_3 : decode cX4_recalls 3 = .ok (.istore 4, 2) := by decide +kernel
theorem dX4_recalls_5 : decode cX4_recalls 5 = .ok (.iload 4, 2) := by decide +kernel
theorem dX4_recalls_7 : decode cX4_recalls 7 = .ok (.aload_n 0, 1) := by decide +kernel
theorem dX4_recalls_8 : decode cX4_recalls 8 = .ok (.getfield 89, 3) := by decide +kernel
theorem dX4_recalls_11 : decode cX4_recalls 11 = .ok (.if_icmp .ge 66, 3) := by decide +kernel
theorem dX4_recalls_14 : decode cX4_recalls 14 = .ok (.aload_n 0, 1) := by decide +kernel
theorem dX4_recalls_15 : decode cX4_recalls 15 = .ok (.getfield 53, 3) := by decide +kernel
theorem dX4_recalls_18 : decode cX4_recalls 18 = .ok (.iload 4, 2) := by decide +kernel
theorem dX4_recalls_20 : decode cX4_recalls 20 = .ok (.iaload, 1) := by decide +kernel
theorem dX4_recalls_21 : decode cX4_recalls 21 = .ok (.istore 5, 2) := by decide +kernel
theorem dX4_recalls_23 : decode cX4_recalls 23 = .ok (.iload_n 1, 1) := by decide +kernel
theorem dX4_recalls_24 : decode cX4_recalls 24 = .ok (.iload 5, 2) := by decide +kernel
theorem dX4_recalls_26 : decode cX4_recalls 26 = .ok (.ishr, 1) := by decide +kernel
theorem dX4_recalls_27 : decode cX4_recalls 27 = .ok (.iconst 1, 1) := by decide +kernel
theorem dX4_recalls_28 : decode cX4_recalls 28 = .ok (.iand, 1) := by decide +kernel
theorem dX4_recalls_29 : decode cX4_recalls 29 = .ok (.iconst 1, 1) := by decide +kernel
theorem dX4_recalls_30 : decode cX4_recalls 30 = .ok (.if_icmp .ne 41, 3) := by decide +kernel
theorem dX4_recalls_33 : decode cX4_recalls 33 = .ok (.aload_n 0, 1) := by decide +kernel
theorem dX4_recalls_34 : decode cX4_recalls 34 = .ok (.getfield 56, 3) := by decide +kernel
theorem dX4_recalls_37 : decode cX4_recalls 37 = .ok (.iload 4, 2) := by decide +kernel
theorem dX4_recalls_39 : decode cX4_recalls 39 = .ok (.iaload, 1) := by decide +kernel
theorem dX4_recalls_40 : decode cX4_recalls 40 = .ok (.aload_n 0, 1) := by decide +kernel
theorem dX4_recalls_41 : decode cX4_recalls 41 = .ok (.getfield 22, 3) := by decide +kernel
theorem dX4_recalls_44 : decode cX4_recalls 44 = .ok (.iload 5, 2) := by decide +kernel
theorem dX4_recalls_46 : decode cX4_recalls 46 = .ok (.iaload, 1) := by decide +kernel
theorem dX4_recalls_47 : decode cX4_recalls 47 = .ok (.if_icmp .le 24, 3) := by decide +kernel
theorem dX4_recalls_50 : decode cX4_recalls 50 = .ok (.aload_n 0, 1) := by decide +kernel
theorem dX4_recalls_51 : decode cX4_recalls 51 = .ok (.getfield 59, 3) := by decide +kernel
theorem dX4_recalls_54 : decode cX4_recalls 54 = .ok (.iload 4, 2) := by decide +kernel
theorem dX4_recalls_56 : decode cX4_recalls 56 = .ok (.baload, 1) := by decide +kernel
theorem dX4_recalls_57 : decode cX4_recalls 57 = .ok (.ifCond .ne 14, 3) := by decide +kernel
theorem dX4_recalls_60 : decode cX4_recalls 60 = .ok (.iinc 3 1, 3) := by decide +kernel
theorem dX4_recalls_63 : decode cX4_recalls 63 = .ok (.aload_n 0, 1) := by decide +kernel
theorem dX4_recalls_64 : decode cX4_recalls 64 = .ok (.getfield 59, 3) := by decide +kernel
theorem dX4_recalls_67 : decode cX4_recalls 67 = .ok (.iload 4, 2) := by decide +kernel
theorem dX4_recalls_69 : decode cX4_recalls 69 = .ok (.iload_n 2, 1) := by decide +kernel
theorem dX4_recalls_70 : decode cX4_recalls 70 = .ok (.bastore, 1) := by decide +kernel
theorem dX4_recalls_71 : decode cX4_recalls 71 = .ok (.iinc 4 1, 3) := by decide +kernel
theorem dX4_recalls_74 : decode cX4_recalls 74 = .ok (.goto (-69), 3) := by decide +kernel
theorem dX4_recalls_77 : decode cX4_recalls 77 = .ok (.iload_n 3, 1) := by decide +kernel
theorem dX4_recalls_78 : decode cX4_recalls 78 = .ok (.ireturn, 1) := by decide +kernel
theorem dX4_fails_0 : decode cX4_fails 0 = .ok (.aload_n 0, 1) := by decide +kernel
theorem dX4_fails_1 : decode cX4_fails 1 = .ok (.iload_n 1, 1) := by decide +kernel
theorem dX4_fails_2 : decode cX4_fails 2 = .ok (.invokevirtual 92, 3) := by decide +kernel
theorem dX4_fails_5 : decode cX4_fails 5 = .ok (.istore_n 2, 1) := by decide +kernel
theorem dX4_fails_6 : decode cX4_fails 6 = .ok (.aload_n 0, 1) := by decide +kernel
theorem dX4_fails_7 : decode cX4_fails 7 = .ok (.getfield 41, 3) := by decide +kernel
theorem dX4_fails_10 : decode cX4_fails 10 = .ok (.iload_n 1, 1) := by decide +kernel
theorem dX4_fails_11 : decode cX4_fails 11 = .ok (.dup2, 1) := by decide +kernel
theorem dX4_fails_12 : decode cX4_fails 12 = .ok (.iaload, 1) := by decide +kernel
theorem dX4_fails_13 : decode cX4_fails 13 = .ok (.iconst 1, 1) := by decide +kernel
theorem dX4_fails_14 : decode cX4_fails 14 = .ok (.iadd, 1) := by decide +kernel
theorem dX4_fails_15 : decode cX4_fails 15 = .ok (.iastore, 1) := by decide +kernel
theorem dX4_fails_16 : decode cX4_fails 16 = .ok (.iconst 0, 1) := by decide +kernel
theorem dX4_fails_17 : decode cX4_fails 17 = .ok (.istore_n 3, 1) := by decide +kernel
theorem dX4_fails_18 : decode cX4_fails 18 = .ok (.iload_n 3, 1) := by decide +kernel
theorem dX4_fails_19 : decode cX4_fails 19 = .ok (.aload_n 0, 1) := by decide +kernel
theorem dX4_fails_20 : decode cX4_fails 20 = .ok (.getfield 66, 3) := by decide +kernel
theorem dX4_fails_23 : decode cX4_fails 23 = .ok (.if_icmp .ge 43, 3) := by decide +kernel
theorem dX4_fails_26 : decode cX4_fails 26 = .ok (.aload_n 0, 1) := by decide +kernel
theorem dX4_fails_27 : decode cX4_fails 27 = .ok (.getfield 37, 3) := by decide +kernel
theorem dX4_fails_30 : decode cX4_fails 30 = .ok (.iload_n 3, 1) := by decide +kernel
theorem dX4_fails_31 : decode cX4_fails 31 = .ok (.aload_n 0, 1) := by decide +kernel
theorem dX4_fails_32 : decode cX4_fails 32 = .ok (.getfield 37, 3) := by decide +kernel
theorem dX4_fails_35 : decode cX4_fails 35 = .ok (.iload_n 3, 1) := by decide +kernel
theorem dX4_fails_36 : decode cX4_fails 36 = .ok (.baload, 1) := by decide +kernel
theorem dX4_fails_37 : decode cX4_fails 37 = .ok (.ifCond .ne 17, 3) := by decide +kernel
theorem dX4_fails_40 : decode cX4_fails 40 = .ok (.iload_n 2, 1) := by decide +kernel
theorem dX4_fails_41 : decode cX4_fails 41 = .ok (.iload_n 3, 1) := by decide +kernel
theorem dX4_fails_42 : decode cX4_fails 42 = .ok (.ishr, 1) := by decide +kernel
theorem dX4_fails_43 : decode cX4_fails 43 = .ok (.iconst 1, 1) := by decide +kernel
theorem dX4_fails_44 : decode cX4_fails 44 = .ok (.iand, 1) := by decide +kernel
theorem dX4_fails_45 : decode cX4_fails 45 = .ok (.iconst 1, 1) := by decide +kernel
theorem dX4_fails_46 : decode cX4_fails 46 = .ok (.if_icmp .ne 12, 3) := by decide +kernel
theorem dX4_fails_49 : decode cX4_fails 49 = .ok (.iload_n 3, 1) := by decide +kernel
theorem dX4_fails_50 : decode cX4_fails 50 = .ok (.iload_n 1, 1) := by decide +kernel
theorem dX4_fails_51 : decode cX4_fails 51 = .ok (.if_icmp .eq 7, 3) := by decide +kernel
theorem dX4_fails_54 : decode cX4_fails 54 = .ok (.iconst 1, 1) := by decide +kernel
theorem dX4_fails_55 : decode cX4_fails 55 = .ok (.goto 4, 3) := by decide +kernel
theorem dX4_fails_58 : decode cX4_fails 58 = .ok (.iconst 0, 1) := by decide +kernel
theorem dX4_fails_59 : decode cX4_fails 59 = .ok (.bastore, 1) := by decide +kernel
theorem dX4_fails_60 : decode cX4_fails 60 = .ok (.iinc 3 1, 3) := by decide +kernel
theorem dX4_fails_63 : decode cX4_fails 63 = .ok (.goto (-45), 3) := by decide +kernel
theorem dX4_fails_66 : decode cX4_fails 66 = .ok (.aload_n 0, 1) := by decide +kernel
theorem dX4_fails_67 : decode cX4_fails 67 = .ok (.iload_n 2, 1) := by decide +kernel
theorem dX4_fails_68 : decode cX4_fails 68 = .ok (.iconst 1, 1) := by decide +kernel
theorem dX4_fails_69 : decode cX4_fails 69 = .ok (.invokevirtual 96, 3) := by decide +kernel
theorem dX4_fails_72 : decode cX4_fails 72 = .ok (.ireturn, 1) := by decide +kernel
theorem dX4_laysPoint_0 : decode cX4_laysPoint 0 = .ok (.bipush 8, 2) := by decide +kernel
theorem dX4_laysPoint_2 : decode cX4_laysPoint 2 = .ok (.iload_n 1, 1) := by decide +kernel
theorem dX4_laysPoint_3 : decode cX4_laysPoint 3 = .ok (.imul, 1) := by decide +kernel
theorem dX4_laysPoint_4 : decode cX4_laysPoint 4 = .ok (.istore 4, 2) := by decide +kernel
theorem dX4_laysPoint_6 : decode cX4_laysPoint 6 = .ok (.aload_n 0, 1) := by decide +kernel
theorem dX4_laysPoint_7 : decode cX4_laysPoint 7 = .ok (.getfield 44, 3) := by decide +kernel
theorem dX4_laysPoint_10 : decode cX4_laysPoint 10 = .ok (.iload_n 1, 1) := by decide +kernel
theorem dX4_laysPoint_11 : decode cX4_laysPoint 11 = .ok (.iaload, 1) := by decide +kernel
theorem dX4_laysPoint_12 : decode cX4_laysPoint 12 = .ok (.bipush 8, 2) := by decide +kernel
theorem dX4_laysPoint_14 : decode cX4_laysPoint 14 = .ok (.if_icmp .ne 67, 3) := by decide +kernel
theorem dX4_laysPoint_17 : decode cX4_laysPoint 17 = .ok (.iload 4, 2) := by decide +kernel
theorem dX4_laysPoint_19 : decode cX4_laysPoint 19 = .ok (.istore 5, 2) := by decide +kernel
theorem dX4_laysPoint_21 : decode cX4_laysPoint 21 = .ok (.iload 5, 2) := by decide +kernel
theorem dX4_laysPoint_23 : decode cX4_laysPoint 23 = .ok (.iload 4, 2) := by decide +kernel
theorem dX4_laysPoint_25 : decode cX4_laysPoint 25 = .ok (.bipush 8, 2) := by decide +kernel
theorem dX4_laysPoint_27 : decode cX4_laysPoint 27 = .ok (.iadd, 1) := by decide +kernel
theorem dX4_laysPoint_28 : decode cX4_laysPoint 28 = .ok (.iconst 1, 1) := by decide +kernel
theorem dX4_laysPoint_29 : decode cX4_laysPoint 29 = .ok (.isub, 1) := by decide +kernel
theorem dX4_laysPoint_30 : decode cX4_laysPoint 30 = .ok (.if_icmp .ge 41, 3) := by decide +kernel
theorem dX4_laysPoint_33 : decode cX4_laysPoint 33 = .ok (.aload_n 0, 1) := by decide +kernel
theorem dX4_laysPoint_34 : decode cX4_laysPoint 34 = .ok (.getfield 47, 3) := by decide +kernel
theorem dX4_laysPoint_37 : decode cX4_laysPoint 37 = .ok (.iload 5, 2) := by decide +kernel
theorem dX4_laysPoint_39 : decode cX4_laysPoint 39 = .ok (.aload_n 0, 1) := by decide +kernel
theorem dX4_laysPoint_40 : decode cX4_laysPoint 40 = .ok (.getfield 47, 3) := by decide +kernel
theorem dX4_laysPoint_43 : decode cX4_laysPoint 43 = .ok (.iload 5, 2) := by decide +kernel
theorem dX4_laysPoint_45 : decode cX4_laysPoint 45 = .ok (.iconst 1, 1) := by decide +kernel
theorem dX4_laysPoint_46 : decode cX4_laysPoint 46 = .ok (.iadd, 1) := by decide +kernel
theorem dX4_laysPoint_47 : decode cX4_laysPoint 47 = .ok (.iaload, 1) := by decide +kernel
theorem dX4_laysPoint_48 : decode cX4_laysPoint 48 = .ok (.iastore, 1) := by decide +kernel
theorem dX4_laysPoint_49 : decode cX4_laysPoint 49 = .ok (.aload_n 0, 1) := by decide +kernel
theorem dX4_laysPoint_50 : decode cX4_laysPoint 50 = .ok (.getfield 50, 3) := by decide +kernel
theorem dX4_laysPoint_53 : decode cX4_laysPoint 53 = .ok (.iload 5, 2) := by decide +kernel
theorem dX4_laysPoint_55 : decode cX4_laysPoint 55 = .ok (.aload_n 0, 1) := by decide +kernel
theorem dX4_laysPoint_56 : decode cX4_laysPoint 56 = .ok (.getfield 50, 3) := by decide +kernel
theorem dX4_laysPoint_59 : decode cX4_laysPoint 59 = .ok (.iload 5, 2) := by decide +kernel
theorem dX4_laysPoint_61 : decode cX4_laysPoint 61 = .ok (.iconst 1, 1) := by decide +kernel
theorem dX4_laysPoint_62 : decode cX4_laysPoint 62 = .ok (.iadd, 1) := by decide +kernel
theorem dX4_laysPoint_63 : decode cX4_laysPoint 63 = .ok (.iaload, 1) := by decide +kernel
theorem dX4_laysPoint_64 : decode cX4_laysPoint 64 = .ok (.iastore, 1) := by decide +kernel
theorem dX4_laysPoint_65 : decode cX4_laysPoint 65 = .ok (.iinc 5 1, 3) := by decide +kernel
theorem dX4_laysPoint_68 : decode cX4_laysPoint 68 = .ok (.goto (-47), 3) := by decide +kernel
theorem dX4_laysPoint_71 : decode cX4_laysPoint 71 = .ok (.aload_n 0, 1) := by decide +kernel
theorem dX4_laysPoint_72 : decode cX4_laysPoint 72 = .ok (.getfield 44, 3) := by decide +kernel
theorem dX4_laysPoint_75 : decode cX4_laysPoint 75 = .ok (.iload_n 1, 1) := by decide +kernel
theorem dX4_laysPoint_76 : decode cX4_laysPoint 76 = .ok (.dup2, 1) := by decide +kernel
theorem dX4_laysPoint_77 : decode cX4_laysPoint 77 = .ok (.iaload, 1) := by decide +kernel
theorem dX4_laysPoint_78 : decode cX4_laysPoint 78 = .ok (.iconst 1, 1) := by decide +kernel
theorem dX4_laysPoint_79 : decode cX4_laysPoint 79 = .ok (.isub, 1) := by decide +kernel
theorem dX4_laysPoint_80 : decode cX4_laysPoint 80 = .ok (.iastore, 1) := by decide +kernel
theorem dX4_laysPoint_81 : decode cX4_laysPoint 81 = .ok (.aload_n 0, 1) := by decide +kernel
theorem dX4_laysPoint_82 : decode cX4_laysPoint 82 = .ok (.getfield 47, 3) := by decide +kernel
theorem dX4_laysPoint_85 : decode cX4_laysPoint 85 = .ok (.iload 4, 2) := by decide +kernel
theorem dX4_laysPoint_87 : decode cX4_laysPoint 87 = .ok (.aload_n 0, 1) := by decide +kernel
theorem dX4_laysPoint_88 : decode cX4_laysPoint 88 = .ok (.getfield 44, 3) := by decide +kernel
theorem dX4_laysPoint_91 : decode cX4_laysPoint 91 = .ok (.iload_n 1, 1) := by decide +kernel
theorem dX4_laysPoint_92 : decode cX4_laysPoint 92 = .ok (.iaload, 1) := by decide +kernel
theorem dX4_laysPoint_93 : decode cX4_laysPoint 93 = .ok (.iadd, 1) := by decide +kernel
theorem dX4_laysPoint_94 : decode cX4_laysPoint 94 = .ok (.iload_n 2, 1) := by decide +kernel
theorem dX4_laysPoint_95 : decode cX4_laysPoint 95 = .ok (.iastore, 1) := by decide +kernel
theorem dX4_laysPoint_96 : decode cX4_laysPoint 96 = .ok (.aload_n 0, 1) := by decide +kernel
theorem dX4_laysPoint_97 : decode cX4_laysPoint 97 = .ok (.getfield 50, 3) := by decide +kernel
theorem dX4_laysPoint_100 : decode cX4_laysPoint 100 = .ok (.iload 4, 2) := by decide +kernel
theorem dX4_laysPoint_102 : decode cX4_laysPoint 102 = .ok (.aload_n 0, 1) := by decide +kernel
theorem dX4_laysPoint_103 : decode cX4_laysPoint 103 = .ok (.getfield 44, 3) := by decide +kernel
theorem dX4_laysPoint_106 : decode cX4_laysPoint 106 = .ok (.iload_n 1, 1) := by decide +kernel
theorem dX4_laysPoint_107 : decode cX4_laysPoint 107 = .ok (.iaload, 1) := by decide +kernel
theorem dX4_laysPoint_108 : decode cX4_laysPoint 108 = .ok (.iadd, 1) := by decide +kernel
theorem dX4_laysPoint_109 : decode cX4_laysPoint 109 = .ok (.iload_n 3, 1) := by decide +kernel
theorem dX4_laysPoint_110 : decode cX4_laysPoint 110 = .ok (.iastore, 1) := by decide +kernel
theorem dX4_laysPoint_111 : decode cX4_laysPoint 111 = .ok (.aload_n 0, 1) := by decide +kernel
theorem dX4_laysPoint_112 : decode cX4_laysPoint 112 = .ok (.getfield 44, 3) := by decide +kernel
theorem dX4_laysPoint_115 : decode cX4_laysPoint 115 = .ok (.iload_n 1, 1) := by decide +kernel
theorem dX4_laysPoint_116 : decode cX4_laysPoint 116 = .ok (.dup2, 1) := by decide +kernel
theorem dX4_laysPoint_117 : decode cX4_laysPoint 117 = .ok (.iaload, 1) := by decide +kernel
theorem dX4_laysPoint_118 : decode cX4_laysPoint 118 = .ok (.iconst 1, 1) := by decide +kernel
theorem dX4_laysPoint_119 : decode cX4_laysPoint 119 = .ok (.iadd, 1) := by decide +kernel
theorem dX4_laysPoint_120 : decode cX4_laysPoint 120 = .ok (.iastore, 1) := by decide +kernel
theorem dX4_laysPoint_121 : decode cX4_laysPoint 121 = .ok (.return_, 1) := by decide +kernel
theorem dX4_isError_0 : decode cX4_isError 0 = .ok (.iload_n 0, 1) := by decide +kernel
theorem dX4_isError_1 : decode cX4_isError 1 = .ok (.ldc 100, 2) := by decide +kernel
theorem dX4_isError_3 : decode cX4_isError 3 = .ok (.if_icmp .lt 13, 3) := by decide +kernel
theorem dX4_isError_6 : decode cX4_isError 6 = .ok (.iload_n 0, 1) := by decide +kernel
theorem dX4_isError_7 : decode cX4_isError 7 = .ok (.ldc 101, 2) := by decide +kernel
theorem dX4_isError_9 : decode cX4_isError 9 = .ok (.if_icmp .gt 7, 3) := by decide +kernel
theorem dX4_isError_12 : decode cX4_isError 12 = .ok (.iconst 1, 1) := by decide +kernel
theorem dX4_isError_13 : decode cX4_isError 13 = .ok (.goto 4, 3) := by decide +kernel
theorem dX4_isError_16 : decode cX4_isError 16 = .ok (.iconst 0, 1) := by decide +kernel
theorem dX4_isError_17 : decode cX4_isError 17 = .ok (.ireturn, 1) := by decide +kernel
theorem dX4_calibrate_0 : decode cX4_calibrate 0 = .ok (.aload_n 0, 1) := by decide +kernel
theorem dX4_calibrate_1 : decode cX4_calibrate 1 = .ok (.iload_n 1, 1) := by decide +kernel
theorem dX4_calibrate_2 : decode cX4_calibrate 2 = .ok (.invokevirtual 69, 3) := by decide +kernel
theorem dX4_calibrate_5 : decode cX4_calibrate 5 = .ok (.istore 4, 2) := by decide +kernel
theorem dX4_calibrate_7 : decode cX4_calibrate 7 = .ok (.iload_n 2, 1) := by decide +kernel
theorem dX4_calibrate_8 : decode cX4_calibrate 8 = .ok (.invokestatic 102, 3) := by decide +kernel
theorem dX4_calibrate_11 : decode cX4_calibrate 11 = .ok (.ifCond .eq 14, 3) := by decide +kernel
theorem dX4_calibrate_14 : decode cX4_calibrate 14 = .ok (.iload_n 3, 1) := by decide +kernel
theorem dX4_calibrate_15 : decode cX4_calibrate 15 = .ok (.invokestatic 102, 3) := by decide +kernel
theorem dX4_calibrate_18 : decode cX4_calibrate 18 = .ok (.ifCond .eq 7, 3) := by decide +kernel
theorem dX4_calibrate_21 : decode cX4_calibrate 21 = .ok (.iconst 1, 1) := by decide +kernel
theorem dX4_calibrate_22 : decode cX4_calibrate 22 = .ok (.goto 4, 3) := by decide +kernel
theorem dX4_calibrate_25 : decode cX4_calibrate 25 = .ok (.iconst 0, 1) := by decide +kernel
theorem dX4_calibrate_26 : decode cX4_calibrate 26 = .ok (.istore 5, 2) := by decide +kernel
theorem dX4_calibrate_28 : decode cX4_calibrate 28 = .ok (.aload_n 0, 1) := by decide +kernel
theorem dX4_calibrate_29 : decode cX4_calibrate 29 = .ok (.iload 4, 2) := by decide +kernel
theorem dX4_calibrate_31 : decode cX4_calibrate 31 = .ok (.ifCond .ne 7, 3) := by decide +kernel
theorem dX4_calibrate_34 : decode cX4_calibrate 34 = .ok (.iconst 1, 1) := by decide +kernel
theorem dX4_calibrate_35 : decode cX4_calibrate 35 = .ok (.goto 31, 3) := by decide +kernel
theorem dX4_calibrate_38 : decode cX4_calibrate 38 = .ok (.iload 5, 2) := by decide +kernel
theorem dX4_calibrate_40 : decode cX4_calibrate 40 = .ok (.ifCond .ne 7, 3) := by decide +kernel
theorem dX4_calibrate_43 : decode cX4_calibrate 43 = .ok (.iconst 2, 1) := by decide +kernel
theorem dX4_calibrate_44 : decode cX4_calibrate 44 = .ok (.goto 22, 3) := by decide +kernel
theorem dX4_calibrate_47 : decode cX4_calibrate 47 = .ok (.aload_n 0, 1) := by decide +kernel
theorem dX4_calibrate_48 : decode cX4_calibrate 48 = .ok (.aload_n 0, 1) := by decide +kernel
theorem dX4_calibrate_49 : decode cX4_calibrate 49 = .ok (.getfield 7, 3) := by decide +kernel
theorem dX4_calibrate_52 : decode cX4_calibrate 52 = .ok (.iload_n 1, 1) := by decide +kernel
theorem dX4_calibrate_53 : decode cX4_calibrate 53 = .ok (.iaload, 1) := by decide +kernel
theorem dX4_calibrate_54 : decode cX4_calibrate 54 = .ok (.invokevirtual 105, 3) := by decide +kernel
theorem dX4_calibrate_57 : decode cX4_calibrate 57 = .ok (.iconst (-1), 1) := by decide +kernel
theorem dX4_calibrate_58 : decode cX4_calibrate 58 = .ok (.if_icmp .eq 7, 3) := by decide +kernel
theorem dX4_calibrate_61 : decode cX4_calibrate 61 = .ok (.iconst 3, 1) := by decide +kernel
theorem dX4_calibrate_62 : decode cX4_calibrate 62 = .ok (.goto 4, 3) := by decide +kernel
theorem dX4_calibrate_65 : decode cX4_calibrate 65 = .ok (.iconst 0, 1) := by decide +kernel
theorem dX4_calibrate_66 : decode cX4_calibrate 66 = .ok (.invokevirtual 73, 3) := by decide +kernel
theorem dX4_calibrate_69 : decode cX4_calibrate 69 = .ok (.ifCond .ne 5, 3) := by decide +kernel
theorem dX4_calibrate_72 : decode cX4_calibrate 72 = .ok (.iconst 0, 1) := by decide +kernel
theorem dX4_calibrate_73 : decode cX4_calibrate 73 = .ok (.ireturn, 1) := by decide +kernel
theorem dX4_calibrate_74 : decode cX4_calibrate 74 = .ok (.iconst 0, 1) := by decide +kernel
theorem dX4_calibrate_75 : decode cX4_calibrate 75 = .ok (.istore 6, 2) := by decide +kernel
theorem dX4_calibrate_77 : decode cX4_calibrate 77 = .ok (.aload_n 0, 1) := by decide +kernel
theorem dX4_calibrate_78 : decode cX4_calibrate 78 = .ok (.iload_n 1, 1) := by decide +kernel
theorem dX4_calibrate_79 : decode cX4_calibrate 79 = .ok (.invokevirtual 83, 3) := by decide +kernel
theorem dX4_calibrate_82 : decode cX4_calibrate 82 = .ok (.ifCond .eq 149, 3) := by decide +kernel
theorem dX4_calibrate_85 : decode cX4_calibrate 85 = .ok (.aload_n 0, 1) := by decide +kernel
theorem dX4_calibrate_86 : decode cX4_calibrate 86 = .ok (.getfield 19, 3) := by decide +kernel
theorem dX4_calibrate_89 : decode cX4_calibrate 89 = .ok (.iload_n 1, 1) := by decide +kernel
theorem dX4_calibrate_90 : decode cX4_calibrate 90 = .ok (.iaload, 1) := by decide +kernel
theorem dX4_calibrate_91 : decode cX4_calibrate 91 = .ok (.istore 7, 2) := by decide +kernel
theorem dX4_calibrate_93 : decode cX4_calibrate 93 = .ok (.iload_n 2, 1) := by decide +kernel
theorem dX4_calibrate_94 : decode cX4_calibrate 94 = .ok (.invokestatic 108, 3) := by decide +kernel
theorem dX4_calibrate_97 : decode cX4_calibrate 97 = .ok (.aload_n 0, 1) := by decide +kernel
theorem dX4_calibrate_98 : decode cX4_calibrate 98 = .ok (.getfield 13, 3) := by decide +kernel
theorem dX4_calibrate_101 : decode cX4_calibrate 101 = .ok (.iload_n 1, 1) := by decide +kernel
theorem dX4_calibrate_102 : decode cX4_calibrate 102 = .ok (.iaload, 1) := by decide +kernel
theorem dX4_calibrate_103 : decode cX4_calibrate 103 = .ok (.if_icmp .le 7, 3) := by decide +kernel
theorem dX4_calibrate_106 : decode cX4_calibrate 106 = .ok (.iconst 1, 1) := by decide +kernel
theorem dX4_calibrate_107 : decode cX4_calibrate 107 = .ok (.goto 4, 3) := by decide +kernel
theorem dX4_calibrate_110 : decode cX4_calibrate 110 = .ok (.iconst 0, 1) := by decide +kernel
theorem dX4_calibrate_111 : decode cX4_calibrate 111 = .ok (.istore 8, 2) := by decide +kernel
theorem dX4_calibrate_113 : decode cX4_calibrate 113 = .ok (.iload 8, 2) := by decide +kernel
theorem dX4_calibrate_115 : decode cX4_calibrate 115 = .ok (.ifCond .eq 28, 3) := by decide +kernel
theorem dX4_calibrate_118 : decode cX4_calibrate 118 = .ok (.aload_n 0, 1) := by decide +kernel
theorem dX4_calibrate_119 : decode cX4_calibrate 119 = .ok (.iload_n 1, 1) := by decide +kernel
theorem dX4_calibrate_120 : decode cX4_calibrate 120 = .ok (.invokevirtual 111, 3) := by decide +kernel
theorem dX4_calibrate_123 : decode cX4_calibrate 123 = .ok (.istore 6, 2) := by decide +kernel
theorem dX4_calibrate_125 : decode cX4_calibrate 125 = .ok (.iload 7, 2) := by decide +kernel
theorem dX4_calibrate_127 : decode cX4_calibrate 127 = .ok (.iconst 2, 1) := by decide +kernel
theorem dX4_calibrate_128 : decode cX4_calibrate 128 = .ok (.idiv, 1) := by decide +kernel
theorem dX4_calibrate_129 : decode cX4_calibrate 129 = .ok (.iconst 1, 1) := by decide +kernel
theorem dX4_calibrate_130 : decode cX4_calibrate 130 = .ok (.if_icmp .ge 7, 3) := by decide +kernel
theorem dX4_calibrate_133 : decode cX4_calibrate 133 = .ok (.iconst 1, 1) := by decide +kernel
theorem dX4_calibrate_134 : decode cX4_calibrate 134 = .ok (.goto 7, 3) := by decide +kernel
theorem dX4_calibrate_137 : decode cX4_calibrate 137 = .ok (.iload 7, 2) := by decide +kernel
theorem dX4_calibrate_139 : decode cX4_calibrate 139 = .ok (.iconst 2, 1) := by decide +kernel
theorem dX4_calibrate_140 : decode cX4_calibrate 140 = .ok (.idiv, 1) := by decide +kernel
theorem dX4_calibrate_141 : decode cX4_calibrate 141 = .ok (.istore 7, 2) := by decide +kernel
theorem dX4_calibrate_143 : decode cX4_calibrate 143 = .ok (.iconst 2, 1) := by decide +kernel
theorem dX4_calibrate_144 : decode cX4_calibrate 144 = .ok (.iload_n 2, 1) := by decide +kernel
theorem dX4_calibrate_145 : decode cX4_calibrate 145 = .ok (.invokestatic 108, 3) := by decide +kernel
theorem dX4_calibrate_148 : decode cX4_calibrate 148 = .ok (.imul, 1) := by decide +kernel
theorem dX4_calibrate_149 : decode cX4_calibrate 149 = .ok (.aload_n 0, 1) := by decide +kernel
theorem dX4_calibrate_150 : decode cX4_calibrate 150 = .ok (.getfield 13, 3) := by decide +kernel
theorem dX4_calibrate_153 : decode cX4_calibrate 153 = .ok (.iload_n 1, 1) := by decide +kernel
theorem dX4_calibrate_154 : decode cX4_calibrate 154 = .ok (.iaload, 1) := by decide +kernel
theorem dX4_calibrate_155 : decode cX4_calibrate 155 = .ok (.if_icmp .gt 31, 3) := by decide +kernel
theorem dX4_calibrate_158 : decode cX4_calibrate 158 = .ok (.iload 7, 2) := by decide +kernel
theorem dX4_calibrate_160 : decode cX4_calibrate 160 = .ok (.iload 7, 2) := by decide +kernel
theorem dX4_calibrate_162 : decode cX4_calibrate 162 = .ok (.iconst 4, 1) := by decide +kernel
theorem dX4_calibrate_163 : decode cX4_calibrate 163 = .ok (.idiv, 1) := by decide +kernel
theorem dX4_calibrate_164 : decode cX4_calibrate 164 = .ok (.iadd, 1) := by decide +kernel
theorem dX4_calibrate_165 : decode cX4_calibrate 165 = .ok (.sipush 999, 3) := by decide +kernel
theorem dX4_calibrate_168 : decode cX4_calibrate 168 = .ok (.if_icmp .le 9, 3) := by decide +kernel
theorem dX4_calibrate_171 : decode cX4_calibrate 171 = .ok (.sipush 999, 3) := by decide +kernel
theorem dX4_calibrate_174 : decode cX4_calibrate 174 = .ok (.goto 10, 3) := by decide +kernel
theorem dX4_calibrate_177 : decode cX4_calibrate 177 = .ok (.iload 7, 2) := by decide +kernel
theorem dX4_calibrate_179 : decode cX4_calibrate 179 = .ok (.iload 7, 2) := by decide +kernel
theorem dX4_calibrate_181 : decode cX4_calibrate 181 = .ok (.iconst 4, 1) := by decide +kernel
theorem dX4_calibrate_182 : decode cX4_calibrate 182 = .ok (.idiv, 1) := by decide +kernel
theorem dX4_calibrate_183 : decode cX4_calibrate 183 = .ok (.iadd, 1) := by decide +kernel
theorem dX4_calibrate_184 : decode cX4_calibrate 184 = .ok (.istore 7, 2) := by decide +kernel
theorem dX4_calibrate_186 : decode cX4_calibrate 186 = .ok (.aload_n 0, 1) := by decide +kernel
theorem dX4_calibrate_187 : decode cX4_calibrate 187 = .ok (.getfield 19, 3) := by decide +kernel
theorem dX4_calibrate_190 : decode cX4_calibrate 190 = .ok (.iload_n 1, 1) := by decide +kernel
theorem dX4_calibrate_191 : decode cX4_calibrate 191 = .ok (.iload 7, 2) := by decide +kernel
theorem dX4_calibrate_193 : decode cX4_calibrate 193 = .ok (.iastore, 1) := by decide +kernel
theorem dX4_calibrate_194 : decode cX4_calibrate 194 = .ok (.aload_n 0, 1) := by decide +kernel
theorem dX4_calibrate_195 : decode cX4_calibrate 195 = .ok (.getfield 80, 3) := by decide +kernel
theorem dX4_calibrate_198 : decode cX4_calibrate 198 = .ok (.aload_n 0, 1) := by decide +kernel
theorem dX4_calibrate_199 : decode cX4_calibrate 199 = .ok (.getfield 28, 3) := by decide +kernel
theorem dX4_calibrate_202 : decode cX4_calibrate 202 = .ok (.iload_n 1, 1) := by decide +kernel
theorem dX4_calibrate_203 : decode cX4_calibrate 203 = .ok (.iaload, 1) := by decide +kernel
theorem dX4_calibrate_204 : decode cX4_calibrate 204 = .ok (.if_icmp .le 27, 3) := by decide +kernel
theorem dX4_calibrate_207 : decode cX4_calibrate 207 = .ok (.aload_n 0, 1) := by decide +kernel
theorem dX4_calibrate_208 : decode cX4_calibrate 208 = .ok (.iload_n 1, 1) := by decide +kernel
theorem dX4_calibrate_209 : decode cX4_calibrate 209 = .ok (.aload_n 0, 1) := by decide +kernel
theorem dX4_calibrate_210 : decode cX4_calibrate 210 = .ok (.getfield 80, 3) := by decide +kernel
theorem dX4_calibrate_213 : decode cX4_calibrate 213 = .ok (.aload_n 0, 1) := by decide +kernel
theorem dX4_calibrate_214 : decode cX4_calibrate 214 = .ok (.getfield 28, 3) := by decide +kernel
theorem dX4_calibrate_217 : decode cX4_calibrate 217 = .ok (.iload_n 1, 1) := by decide +kernel
theorem dX4_calibrate_218 : decode cX4_calibrate 218 = .ok (.iaload, 1) := by decide +kernel
theorem dX4_calibrate_219 : decode cX4_calibrate 219 = .ok (.isub, 1) := by decide +kernel
theorem dX4_calibrate_220 : decode cX4_calibrate 220 = .ok (.iload_n 2, 1) := by decide +kernel
theorem dX4_calibrate_221 : decode cX4_calibrate 221 = .ok (.aload_n 0, 1) := by decide +kernel
theorem dX4_calibrate_222 : decode cX4_calibrate 222 = .ok (.getfield 34, 3) := by decide +kernel
theorem dX4_calibrate_225 : decode cX4_calibrate 225 = .ok (.iload_n 1, 1) := by decide +kernel
theorem dX4_calibrate_226 : decode cX4_calibrate 226 = .ok (.iaload, 1) := by decide +kernel
theorem dX4_calibrate_227 : decode cX4_calibrate 227 = .ok (.isub, 1) := by decide +kernel
theorem dX4_calibrate_228 : decode cX4_calibrate 228 = .ok (.invokevirtual 114, 3) := by decide +kernel
theorem dX4_calibrate_231 : decode cX4_calibrate 231 = .ok (.aload_n 0, 1) := by decide +kernel
theorem dX4_calibrate_232 : decode cX4_calibrate 232 = .ok (.dup, 1) := by decide +kernel
theorem dX4_calibrate_233 : decode cX4_calibrate 233 = .ok (.getfield 118, 3) := by decide +kernel
theorem dX4_calibrate_236 : decode cX4_calibrate 236 = .ok (.iconst 1, 1) := by decide +kernel
theorem dX4_calibrate_237 : decode cX4_calibrate 237 = .ok (.iadd, 1) := by decide +kernel
theorem dX4_calibrate_238 : decode cX4_calibrate 238 = .ok (.putfield 118, 3) := by decide +kernel
theorem dX4_calibrate_241 : decode cX4_calibrate 241 = .ok (.aload_n 0, 1) := by decide +kernel
theorem dX4_calibrate_242 : decode cX4_calibrate 242 = .ok (.getfield 22, 3) := by decide +kernel
theorem dX4_calibrate_245 : decode cX4_calibrate 245 = .ok (.iload_n 1, 1) := by decide +kernel
theorem dX4_calibrate_246 : decode cX4_calibrate 246 = .ok (.aload_n 0, 1) := by decide +kernel
theorem dX4_calibrate_247 : decode cX4_calibrate 247 = .ok (.getfield 118, 3) := by decide +kernel
theorem dX4_calibrate_250 : decode cX4_calibrate 250 = .ok (.iastore, 1) := by decide +kernel
theorem dX4_calibrate_251 : decode cX4_calibrate 251 = .ok (.aload_n 0, 1) := by decide +kernel
theorem dX4_calibrate_252 : decode cX4_calibrate 252 = .ok (.getfield 25, 3) := by decide +kernel
theorem dX4_calibrate_255 : decode cX4_calibrate 255 = .ok (.iload_n 1, 1) := by decide +kernel
theorem dX4_calibrate_256 : decode cX4_calibrate 256 = .ok (.aload_n 0, 1) := by decide +kernel
theorem dX4_calibrate_257 : decode cX4_calibrate 257 = .ok (.getfield 7, 3) := by decide +kernel
theorem dX4_calibrate_260 : decode cX4_calibrate 260 = .ok (.iload_n 1, 1) := by decide +kernel
theorem dX4_calibrate_261 : decode cX4_calibrate 261 = .ok (.iaload, 1) := by decide +kernel
theorem dX4_calibrate_262 : decode cX4_calibrate 262 = .ok (.iastore, 1) := by decide +kernel
theorem dX4_calibrate_263 : decode cX4_calibrate 263 = .ok (.aload_n 0, 1) := by decide +kernel
theorem dX4_calibrate_264 : decode cX4_calibrate 264 = .ok (.getfield 28, 3) := by decide +kernel
theorem dX4_calibrate_267 : decode cX4_calibrate 267 = .ok (.iload_n 1, 1) := by decide +kernel
theorem dX4_calibrate_268 : decode cX4_calibrate 268 = .ok (.aload_n 0, 1) := by decide +kernel
theorem dX4_calibrate_269 : decode cX4_calibrate 269 = .ok (.getfield 80, 3) := by decide +kernel
theorem dX4_calibrate_272 : decode cX4_calibrate 272 = .ok (.iastore, 1) := by decide +kernel
theorem dX4_calibrate_273 : decode cX4_calibrate 273 = .ok (.aload_n 0, 1) := by decide +kernel
theorem dX4_calibrate_274 : decode cX4_calibrate 274 = .ok (.getfield 31, 3) := by decide +kernel
theorem dX4_calibrate_277 : decode cX4_calibrate 277 = .ok (.iload_n 1, 1) := by decide +kernel
theorem dX4_calibrate_278 : decode cX4_calibrate 278 = .ok (.aload_n 0, 1) := by decide +kernel
theorem dX4_calibrate_279 : decode cX4_calibrate 279 = .ok (.getfield 80, 3) := by decide +kernel
theorem dX4_calibrate_282 : decode cX4_calibrate 282 = .ok (.aload_n 0, 1) := by decide +kernel
theorem dX4_calibrate_283 : decode cX4_calibrate 283 = .ok (.getfield 19, 3) := by decide +kernel
theorem dX4_calibrate_286 : decode cX4_calibrate 286 = .ok (.iload_n 1, 1) := by decide +kernel
theorem dX4_calibrate_287 : decode cX4_calibrate 287 = .ok (.iaload, 1) := by decide +kernel
theorem dX4_calibrate_288 : decode cX4_calibrate 288 = .ok (.iadd, 1) := by decide +kernel
theorem dX4_calibrate_289 : decode cX4_calibrate 289 = .ok (.iastore, 1) := by decide +kernel
theorem dX4_calibrate_290 : decode cX4_calibrate 290 = .ok (.aload_n 0, 1) := by decide +kernel
theorem dX4_calibrate_291 : decode cX4_calibrate 291 = .ok (.getfield 34, 3) := by decide +kernel
theorem dX4_calibrate_294 : decode cX4_calibrate 294 = .ok (.iload_n 1, 1) := by decide +kernel
theorem dX4_calibrate_295 : decode cX4_calibrate 295 = .ok (.iload_n 3, 1) := by decide +kernel
theorem dX4_calibrate_296 : decode cX4_calibrate 296 = .ok (.iastore, 1) := by decide +kernel
theorem dX4_calibrate_297 : decode cX4_calibrate 297 = .ok (.aload_n 0, 1) := by decide +kernel
theorem dX4_calibrate_298 : decode cX4_calibrate 298 = .ok (.getfield 37, 3) := by decide +kernel
theorem dX4_calibrate_301 : decode cX4_calibrate 301 = .ok (.iload_n 1, 1) := by decide +kernel
theorem dX4_calibrate_302 : decode cX4_calibrate 302 = .ok (.iconst 0, 1) := by decide +kernel
theorem dX4_calibrate_303 : decode cX4_calibrate 303 = .ok (.bastore, 1) := by decide +kernel
theorem dX4_calibrate_304 : decode cX4_calibrate 304 = .ok (.iload 6, 2) := by decide +kernel
theorem dX4_calibrate_306 : decode cX4_calibrate 306 = .ok (.ireturn, 1) := by decide +kernel
theorem dX4_measure_0 : decode cX4_measure 0 = .ok (.aload_n 0, 1) := by decide +kernel
theorem dX4_measure_1 : decode cX4_measure 1 = .ok (.iload_n 1, 1) := by decide +kernel
theorem dX4_measure_2 : decode cX4_measure 2 = .ok (.invokevirtual 69, 3) := by decide +kernel
theorem dX4_measure_5 : decode cX4_measure 5 = .ok (.istore_n 2, 1) := by decide +kernel
theorem dX4_measure_6 : decode cX4_measure 6 = .ok (.aload_n 0, 1) := by decide +kernel
theorem dX4_measure_7 : decode cX4_measure 7 = .ok (.iload_n 2, 1) := by decide +kernel
theorem dX4_measure_8 : decode cX4_measure 8 = .ok (.ifCond .ne 7, 3) := by decide +kernel
theorem dX4_measure_11 : decode cX4_measure 11 = .ok (.iconst 1, 1) := by decide +kernel
theorem dX4_measure_12 : decode cX4_measure 12 = .ok (.goto 27, 3) := by decide +kernel
theorem dX4_measure_15 : decode cX4_measure 15 = .ok (.aload_n 0, 1) := by decide +kernel
theorem dX4_measure_16 : decode cX4_measure 16 = .ok (.iload_n 1, 1) := by decide +kernel
theorem dX4_measure_17 : decode cX4_measure 17 = .ok (.invokevirtual 105, 3) := by decide +kernel
theorem dX4_measure_20 : decode cX4_measure 20 = .ok (.iconst (-1), 1) := by decide +kernel
theorem dX4_measure_21 : decode cX4_measure 21 = .ok (.if_icmp .ne 13, 3) := by decide +kernel
theorem dX4_measure_24 : decode cX4_measure 24 = .ok (.aload_n 0, 1) := by decide +kernel
theorem dX4_measure_25 : decode cX4_measure 25 = .ok (.getfield 89, 3) := by decide +kernel
theorem dX4_measure_28 : decode cX4_measure 28 = .ok (.sipush 200, 3) := by decide +kernel
theorem dX4_measure_31 : decode cX4_measure 31 = .ok (.if_icmp .ne 7, 3) := by decide +kernel
theorem dX4_measure_34 : decode cX4_measure 34 = .ok (.iconst 2, 1) := by decide +kernel
theorem dX4_measure_35 : decode cX4_measure 35 = .ok (.goto 4, 3) := by decide +kernel
theorem dX4_measure_38 : decode cX4_measure 38 = .ok (.iconst 0, 1) := by decide +kernel
theorem dX4_measure_39 : decode cX4_measure 39 = .ok (.invokevirtual 73, 3) := by decide +kernel
theorem dX4_measure_42 : decode cX4_measure 42 = .ok (.ifCond .ne 5, 3) := by decide +kernel
theorem dX4_measure_45 : decode cX4_measure 45 = .ok (.iconst 0, 1) := by decide +kernel
theorem dX4_measure_46 : decode cX4_measure 46 = .ok (.ireturn, 1) := by decide +kernel
theorem dX4_measure_47 : decode cX4_measure 47 = .ok (.aload_n 0, 1) := by decide +kernel
theorem dX4_measure_48 : decode cX4_measure 48 = .ok (.dup, 1) := by decide +kernel
theorem dX4_measure_49 : decode cX4_measure 49 = .ok (.getfield 118, 3) := by decide +kernel
theorem dX4_measure_52 : decode cX4_measure 52 = .ok (.iconst 1, 1) := by decide +kernel
theorem dX4_measure_53 : decode cX4_measure 53 = .ok (.iadd, 1) := by decide +kernel
theorem dX4_measure_54 : decode cX4_measure 54 = .ok (.putfield 118, 3) := by decide +kernel
theorem dX4_measure_57 : decode cX4_measure 57 = .ok (.aload_n 0, 1) := by decide +kernel
theorem dX4_measure_58 : decode cX4_measure 58 = .ok (.getfield 53, 3) := by decide +kernel
theorem dX4_measure_61 : decode cX4_measure 61 = .ok (.aload_n 0, 1) := by decide +kernel
theorem dX4_measure_62 : decode cX4_measure 62 = .ok (.getfield 89, 3) := by decide +kernel
theorem dX4_measure_65 : decode cX4_measure 65 = .ok (.iload_n 1, 1) := by decide +kernel
theorem dX4_measure_66 : decode cX4_measure 66 = .ok (.iastore, 1) := by decide +kernel
theorem dX4_measure_67 : decode cX4_measure 67 = .ok (.aload_n 0, 1) := by decide +kernel
theorem dX4_measure_68 : decode cX4_measure 68 = .ok (.getfield 56, 3) := by decide +kernel
theorem dX4_measure_71 : decode cX4_measure 71 = .ok (.aload_n 0, 1) := by decide +kernel
theorem dX4_measure_72 : decode cX4_measure 72 = .ok (.getfield 89, 3) := by decide +kernel
theorem dX4_measure_75 : decode cX4_measure 75 = .ok (.aload_n 0, 1) := by decide +kernel
theorem dX4_measure_76 : decode cX4_measure 76 = .ok (.getfield 118, 3) := by decide +kernel
theorem dX4_measure_79 : decode cX4_measure 79 = .ok (.iastore, 1) := by decide +kernel
theorem dX4_measure_80 : decode cX4_measure 80 = .ok (.aload_n 0, 1) := by decide +kernel
theorem dX4_measure_81 : decode cX4_measure 81 = .ok (.dup, 1) := by decide +kernel
theorem dX4_measure_82 : decode cX4_measure 82 = .ok (.getfield 89, 3) := by decide +kernel
theorem dX4_measure_85 : decode cX4_measure 85 = .ok (.iconst 1, 1) := by decide +kernel
theorem dX4_measure_86 : decode cX4_measure 86 = .ok (.iadd, 1) := by decide +kernel
theorem dX4_measure_87 : decode cX4_measure 87 = .ok (.putfield 89, 3) := by decide +kernel
theorem dX4_measure_90 : decode cX4_measure 90 = .ok (.aload_n 0, 1) := by decide +kernel
theorem dX4_measure_91 : decode cX4_measure 91 = .ok (.getfield 89, 3) := by decide +kernel
theorem dX4_measure_94 : decode cX4_measure 94 = .ok (.iconst 1, 1) := by decide +kernel
theorem dX4_measure_95 : decode cX4_measure 95 = .ok (.isub, 1) := by decide +kernel
theorem dX4_measure_96 : decode cX4_measure 96 = .ok (.ireturn, 1) := by decide +kernel
theorem dX4_isAsked_0 : decode cX4_isAsked 0 = .ok (.aload_n 0, 1) := by decide +kernel
theorem dX4_isAsked_1 : decode cX4_isAsked 1 = .ok (.aload_n 0, 1) := by decide +kernel
theorem dX4_isAsked_2 : decode cX4_isAsked 2 = .ok (.iload_n 1, 1) := by decide +kernel
theorem dX4_isAsked_3 : decode cX4_isAsked 3 = .ok (.invokevirtual 69, 3) := by decide +kernel
theorem dX4_isAsked_6 : decode cX4_isAsked 6 = .ok (.ifCond .eq 7, 3) := by decide +kernel
theorem dX4_isAsked_9 : decode cX4_isAsked 9 = .ok (.iconst 0, 1) := by decide +kernel
theorem dX4_isAsked_10 : decode cX4_isAsked 10 = .ok (.goto 4, 3) := by decide +kernel
theorem dX4_isAsked_13 : decode cX4_isAsked 13 = .ok (.iconst 1, 1) := by decide +kernel
theorem dX4_isAsked_14 : decode cX4_isAsked 14 = .ok (.invokevirtual 73, 3) := by decide +kernel
theorem dX4_isAsked_17 : decode cX4_isAsked 17 = .ok (.ireturn, 1) := by decide +kernel
theorem dX4_intervalOf_0 : decode cX4_intervalOf 0 = .ok (.aload_n 0, 1) := by decide +kernel
theorem dX4_intervalOf_1 : decode cX4_intervalOf 1 = .ok (.iload_n 1, 1) := by decide +kernel
theorem dX4_intervalOf_2 : decode cX4_intervalOf 2 = .ok (.invokevirtual 121, 3) := by decide +kernel
theorem dX4_intervalOf_5 : decode cX4_intervalOf 5 = .ok (.ifCond .eq 12, 3) := by decide +kernel
theorem dX4_intervalOf_8 : decode cX4_intervalOf 8 = .ok (.aload_n 0, 1) := by decide +kernel
theorem dX4_intervalOf_9 : decode cX4_intervalOf 9 = .ok (.getfield 19, 3) := by decide +kernel
theorem dX4_intervalOf_12 : decode cX4_intervalOf 12 = .ok (.iload_n 1, 1) := by decide +kernel
theorem dX4_intervalOf_13 : decode cX4_intervalOf 13 = .ok (.iaload, 1) := by decide +kernel
theorem dX4_intervalOf_14 : decode cX4_intervalOf 14 = .ok (.goto 4, 3) := by decide +kernel
theorem dX4_intervalOf_17 : decode cX4_intervalOf 17 = .ok (.iconst 0, 1) := by decide +kernel
theorem dX4_intervalOf_18 : decode cX4_intervalOf 18 = .ok (.ireturn, 1) := by decide +kernel
theorem dX4_dueOf_0 : decode cX4_dueOf 0 = .ok (.aload_n 0, 1) := by decide +kernel
theorem dX4_dueOf_1 : decode cX4_dueOf 1 = .ok (.iload_n 1, 1) := by decide +kernel
theorem dX4_dueOf_2 : decode cX4_dueOf 2 = .ok (.invokevirtual 121, 3) := by decide +kernel
theorem dX4_dueOf_5 : decode cX4_dueOf 5 = .ok (.ifCond .ne 5, 3) := by decide +kernel
theorem dX4_dueOf_8 : decode cX4_dueOf 8 = .ok (.iconst 0, 1) := by decide +kernel
theorem dX4_dueOf_9 : decode cX4_dueOf 9 = .ok (.ireturn, 1) := by decide +kernel
theorem dX4_dueOf_10 : decode cX4_dueOf 10 = .ok (.aload_n 0, 1) := by decide +kernel
theorem dX4_dueOf_11 : decode cX4_dueOf 11 = .ok (.iload_n 1, 1) := by decide +kernel
theorem dX4_dueOf_12 : decode cX4_dueOf 12 = .ok (.invokevirtual 83, 3) := by decide +kernel
theorem dX4_dueOf_15 : decode cX4_dueOf 15 = .ok (.ifCond .eq 12, 3) := by decide +kernel
theorem dX4_dueOf_18 : decode cX4_dueOf 18 = .ok (.aload_n 0, 1) := by decide +kernel
theorem dX4_dueOf_19 : decode cX4_dueOf 19 = .ok (.getfield 31, 3) := by decide +kernel
theorem dX4_dueOf_22 : decode cX4_dueOf 22 = .ok (.iload_n 1, 1) := by decide +kernel
theorem dX4_dueOf_23 : decode cX4_dueOf 23 = .ok (.iaload, 1) := by decide +kernel
theorem dX4_dueOf_24 : decode cX4_dueOf 24 = .ok (.goto 4, 3) := by decide +kernel
theorem dX4_dueOf_27 : decode cX4_dueOf 27 = .ok (.iconst (-1), 1) := by decide +kernel
theorem dX4_dueOf_28 : decode cX4_dueOf 28 = .ok (.ireturn, 1) := by decide +kernel
theorem dX4_isSuspect_0 : decode cX4_isSuspect 0 = .ok (.aload_n 0, 1) := by decide +kernel
theorem dX4_isSuspect_1 : decode cX4_isSuspect 1 = .ok (.iload_n 1, 1) := by decide +kernel
theorem dX4_isSuspect_2 : decode cX4_isSuspect 2 = .ok (.invokevirtual 121, 3) := by decide +kernel
theorem dX4_isSuspect_5 : decode cX4_isSuspect 5 = .ok (.ifCond .eq 16, 3) := by decide +kernel
theorem dX4_isSuspect_8 : decode cX4_isSuspect 8 = .ok (.aload_n 0, 1) := by decide +kernel
theorem dX4_isSuspect_9 : decode cX4_isSuspect 9 = .ok (.getfield 37, 3) := by decide +kernel
theorem dX4_isSuspect_12 : decode cX4_isSuspect 12 = .ok (.iload_n 1, 1) := by decide +kernel
theorem dX4_isSuspect_13 : decode cX4_isSuspect 13 = .ok (.baload, 1) := by decide +kernel
theorem dX4_isSuspect_14 : decode cX4_isSuspect 14 = .ok (.ifCond .eq 7, 3) := by decide +kernel
theorem dX4_isSuspect_17 : decode cX4_isSuspect 17 = .ok (.iconst 1, 1) := by decide +kernel
theorem dX4_isSuspect_18 : decode cX4_isSuspect 18 = .ok (.goto 4, 3) := by decide +kernel
theorem dX4_isSuspect_21 : decode cX4_isSuspect 21 = .ok (.iconst 0, 1) := by decide +kernel
theorem dX4_isSuspect_22 : decode cX4_isSuspect 22 = .ok (.ireturn, 1) := by decide +kernel
theorem dX4_distrusted_0 : decode cX4_distrusted 0 = .ok (.aload_n 0, 1) := by decide +kernel
theorem dX4_distrusted_1 : decode cX4_distrusted 1 = .ok (.iload_n 1, 1) := by decide +kernel
theorem dX4_distrusted_2 : decode cX4_distrusted 2 = .ok (.invokevirtual 121, 3) := by decide +kernel
theorem dX4_distrusted_5 : decode cX4_distrusted 5 = .ok (.ifCond .eq 11, 3) := by decide +kernel
theorem dX4_distrusted_8 : decode cX4_distrusted 8 = .ok (.aload_n 0, 1) := by decide +kernel
theorem dX4_distrusted_9 : decode cX4_distrusted 9 = .ok (.iload_n 1, 1) := by decide +kernel
theorem dX4_distrusted_10 : decode cX4_distrusted 10 = .ok (.invokevirtual 105, 3) := by decide +kernel
theorem dX4_distrusted_13 : decode cX4_distrusted 13 = .ok (.goto 4, 3) := by decide +kernel
theorem dX4_distrusted_16 : decode cX4_distrusted 16 = .ok (.iconst 0, 1) := by decide +kernel
theorem dX4_distrusted_17 : decode cX4_distrusted 17 = .ok (.ireturn, 1) := by decide +kernel
theorem dX4_chain_0 : decode cX4_chain 0 = .ok (.aload_n 0, 1) := by decide +kernel
theorem dX4_chain_1 : decode cX4_chain 1 = .ok (.iload_n 1, 1) := by decide +kernel
theorem dX4_chain_2 : decode cX4_chain 2 = .ok (.invokevirtual 121, 3) := by decide +kernel
theorem dX4_chain_5 : decode cX4_chain 5 = .ok (.ifCond .ne 5, 3) := by decide +kernel
theorem dX4_chain_8 : decode cX4_chain 8 = .ok (.iconst 0, 1) := by decide +kernel
theorem dX4_chain_9 : decode cX4_chain 9 = .ok (.ireturn, 1) := by decide +kernel
theorem dX4_chain_10 : decode cX4_chain 10 = .ok (.iconst 0, 1) := by decide +kernel
theorem dX4_chain_11 : decode cX4_chain 11 = .ok (.istore_n 2, 1) := by decide +kernel
theorem dX4_chain_12 : decode cX4_chain 12 = .ok (.iload_n 1, 1) := by decide +kernel
theorem dX4_chain_13 : decode cX4_chain 13 = .ok (.istore_n 3, 1) := by decide +kernel
theorem dX4_chain_14 : decode cX4_chain 14 = .ok (.iload_n 3, 1) := by decide +kernel
theorem dX4_chain_15 : decode cX4_chain 15 = .ok (.iconst (-1), 1) := by decide +kernel
theorem dX4_chain_16 : decode cX4_chain 16 = .ok (.if_icmp .eq 16, 3) := by decide +kernel
theorem dX4_chain_19 : decode cX4_chain 19 = .ok (.iinc 2 1, 3) := by decide +kernel
theorem dX4_chain_22 : decode cX4_chain 22 = .ok (.aload_n 0, 1) := by decide +kernel
theorem dX4_chain_23 : decode cX4_chain 23 = .ok (.getfield 7, 3) := by decide +kernel
theorem dX4_chain_26 : decode cX4_chain 26 = .ok (.iload_n 3, 1) := by decide +kernel
theorem dX4_chain_27 : decode cX4_chain 27 = .ok (.iaload, 1) := by decide +kernel
theorem dX4_chain_28 : decode cX4_chain 28 = .ok (.istore_n 3, 1) := by decide +kernel
theorem dX4_chain_29 : decode cX4_chain 29 = .ok (.goto (-15), 3) := by decide +kernel
theorem dX4_chain_32 : decode cX4_chain 32 = .ok (.iload_n 2, 1) := by decide +kernel
theorem dX4_chain_33 : decode cX4_chain 33 = .ok (.ireturn, 1) := by decide +kernel
theorem dX4_failures_0 : decode cX4_failures 0 = .ok (.aload_n 0, 1) := by decide +kernel
theorem dX4_failures_1 : decode cX4_failures 1 = .ok (.iload_n 1, 1) := by decide +kernel
theorem dX4_failures_2 : decode cX4_failures 2 = .ok (.invokevirtual 121, 3) := by decide +kernel
theorem dX4_failures_5 : decode cX4_failures 5 = .ok (.ifCond .eq 12, 3) := by decide +kernel
theorem dX4_failures_8 : decode cX4_failures 8 = .ok (.aload_n 0, 1) := by decide +kernel
theorem dX4_failures_9 : decode cX4_failures 9 = .ok (.getfield 41, 3) := by decide +kernel
theorem dX4_failures_12 : decode cX4_failures 12 = .ok (.iload_n 1, 1) := by decide +kernel
theorem dX4_failures_13 : decode cX4_failures 13 = .ok (.iaload, 1) := by decide +kernel
theorem dX4_failures_14 : decode cX4_failures 14 = .ok (.goto 4, 3) := by decide +kernel
theorem dX4_failures_17 : decode cX4_failures 17 = .ok (.iconst 0, 1) := by decide +kernel
theorem dX4_failures_18 : decode cX4_failures 18 = .ok (.ireturn, 1) := by decide +kernel
theorem dX4_products_0 : decode cX4_products 0 = .ok (.lconst 0, 1) := by decide +kernel
theorem dX4_products_1 : decode cX4_products 1 = .ok (.lstore_n 2, 1) := by decide +kernel
theorem dX4_products_2 : decode cX4_products 2 = .ok (.bipush 8, 2) := by decide +kernel
theorem dX4_products_4 : decode cX4_products 4 = .ok (.iload_n 1, 1) := by decide +kernel
theorem dX4_products_5 : decode cX4_products 5 = .ok (.imul, 1) := by decide +kernel
theorem dX4_products_6 : decode cX4_products 6 = .ok (.istore 4, 2) := by decide +kernel
theorem dX4_products_8 : decode cX4_products 8 = .ok (.iload 4, 2) := by decide +kernel
theorem dX4_products_10 : decode cX4_products 10 = .ok (.bipush 8, 2) := by decide +kernel
theorem dX4_products_12 : decode cX4_products 12 = .ok (.iload_n 1, 1) := by decide +kernel
theorem dX4_products_13 : decode cX4_products 13 = .ok (.imul, 1) := by decide +kernel
theorem dX4_products_14 : decode cX4_products 14 = .ok (.aload_n 0, 1) := by decide +kernel
theorem dX4_products_15 : decode cX4_products 15 = .ok (.getfield 44, 3) := by decide +kernel
theorem dX4_products_18 : decode cX4_products 18 = .ok (.iload_n 1, 1) := by decide +kernel
theorem dX4_products_19 : decode cX4_products 19 = .ok (.iaload, 1) := by decide +kernel
theorem dX4_products_20 : decode cX4_products 20 = .ok (.iadd, 1) := by decide +kernel
theorem dX4_products_21 : decode cX4_products 21 = .ok (.if_icmp .ge 29, 3) := by decide +kernel
theorem dX4_products_24 : decode cX4_products 24 = .ok (.lload_n 2, 1) := by decide +kernel
theorem dX4_products_25 : decode cX4_products 25 = .ok (.aload_n 0, 1) := by decide +kernel
theorem dX4_products_26 : decode cX4_products 26 = .ok (.getfield 47, 3) := by decide +kernel
theorem dX4_products_29 : decode cX4_products 29 = .ok (.iload 4, 2) := by decide +kernel
theorem dX4_products_31 : decode cX4_products 31 = .ok (.iaload, 1) := by decide +kernel
theorem dX4_products_32 : decode cX4_products 32 = .ok (.i2l, 1) := by decide +kernel
theorem dX4_products_33 : decode cX4_products 33 = .ok (.aload_n 0, 1) := by decide +kernel
theorem dX4_products_34 : decode cX4_products 34 = .ok (.getfield 50, 3) := by decide +kernel
theorem dX4_products_37 : decode cX4_products 37 = .ok (.iload 4, 2) := by decide +kernel
theorem dX4_products_39 : decode cX4_products 39 = .ok (.iaload, 1) := by decide +kernel
theorem dX4_products_40 : decode cX4_products 40 = .ok (.i2l, 1) := by decide +kernel
theorem dX4_products_41 : decode cX4_products 41 = .ok (.lmul, 1) := by decide +kernel
theorem dX4_products_42 : decode cX4_products 42 = .ok (.ladd, 1) := by decide +kernel
theorem dX4_products_43 : decode cX4_products 43 = .ok (.lstore_n 2, 1) := by decide +kernel
theorem dX4_products_44 : decode cX4_products 44 = .ok (.iinc 4 1, 3) := by decide +kernel
theorem dX4_products_47 : decode cX4_products 47 = .ok (.goto (-39), 3) := by decide +kernel
theorem dX4_products_50 : decode cX4_products 50 = .ok (.lload_n 2, 1) := by decide +kernel
theorem dX4_products_51 : decode cX4_products 51 = .ok (.lreturn, 1) := by decide +kernel
theorem dX4_squares_0 : decode cX4_squares 0 = .ok (.lconst 0, 1) := by decide +kernel
theorem dX4_squares_1 : decode cX4_squares 1 = .ok (.lstore_n 2, 1) := by decide +kernel
theorem dX4_squares_2 : decode cX4_squares 2 = .ok (.bipush 8, 2) := by decide +kernel
theorem dX4_squares_4 : decode cX4_squares 4 = .ok (.iload_n 1, 1) := by decide +kernel
theorem dX4_squares_5 : decode cX4_squares 5 = .ok (.imul, 1) := by decide +kernel
theorem dX4_squares_6 : decode cX4_squares 6 = .ok (.istore 4, 2) := by decide +kernel
theorem dX4_squares_8 : decode cX4_squares 8 = .ok (.iload 4, 2) := by decide +kernel
theorem dX4_squares_10 : decode cX4_squares 10 = .ok (.bipush 8, 2) := by decide +kernel
theorem dX4_squares_12 : decode cX4_squares 12 = .ok (.iload_n 1, 1) := by decide +kernel
theorem dX4_squares_13 : decode cX4_squares 13 = .ok (.imul, 1) := by decide +kernel
theorem dX4_squares_14 : decode cX4_squares 14 = .ok (.aload_n 0, 1) := by decide +kernel
theorem dX4_squares_15 : decode cX4_squares 15 = .ok (.getfield 44, 3) := by decide +kernel
theorem dX4_squares_18 : decode cX4_squares 18 = .ok (.iload_n 1, 1) := by decide +kernel
theorem dX4_squares_19 : decode cX4_squares 19 = .ok (.iaload, 1) := by decide +kernel
theorem dX4_squares_20 : decode cX4_squares 20 = .ok (.iadd, 1) := by decide +kernel
theorem dX4_squares_21 : decode cX4_squares 21 = .ok (.if_icmp .ge 29, 3) := by decide +kernel
theorem dX4_squares_24 : decode cX4_squares 24 = .ok (.lload_n 2, 1) := by decide +kernel
theorem dX4_squares_25 : decode cX4_squares 25 = .ok (.aload_n 0, 1) := by decide +kernel
theorem dX4_squares_26 : decode cX4_squares 26 = .ok (.getfield 47, 3) := by decide +kernel
theorem dX4_squares_29 : decode cX4_squares 29 = .ok (.iload 4, 2) := by decide +kernel
theorem dX4_squares_31 : decode cX4_squares 31 = .ok (.iaload, 1) := by decide +kernel
theorem dX4_squares_32 : decode cX4_squares 32 = .ok (.i2l, 1) := by decide +kernel
theorem dX4_squares_33 : decode cX4_squares 33 = .ok (.aload_n 0, 1) := by decide +kernel
theorem dX4_squares_34 : decode cX4_squares 34 = .ok (.getfield 47, 3) := by decide +kernel
theorem dX4_squares_37 : decode cX4_squares 37 = .ok (.iload 4, 2) := by decide +kernel
theorem dX4_squares_39 : decode cX4_squares 39 = .ok (.iaload, 1) := by decide +kernel
theorem dX4_squares_40 : decode cX4_squares 40 = .ok (.i2l, 1) := by decide +kernel
theorem dX4_squares_41 : decode cX4_squares 41 = .ok (.lmul, 1) := by decide +kernel
theorem dX4_squares_42 : decode cX4_squares 42 = .ok (.ladd, 1) := by decide +kernel
theorem dX4_squares_43 : decode cX4_squares 43 = .ok (.lstore_n 2, 1) := by decide +kernel
theorem dX4_squares_44 : decode cX4_squares 44 = .ok (.iinc 4 1, 3) := by decide +kernel
theorem dX4_squares_47 : decode cX4_squares 47 = .ok (.goto (-39), 3) := by decide +kernel
theorem dX4_squares_50 : decode cX4_squares 50 = .ok (.lload_n 2, 1) := by decide +kernel
theorem dX4_squares_51 : decode cX4_squares 51 = .ok (.lreturn, 1) := by decide +kernel
theorem dX4_slope_0 : decode cX4_slope 0 = .ok (.aload_n 0, 1) := by decide +kernel
theorem dX4_slope_1 : decode cX4_slope 1 = .ok (.iload_n 1, 1) := by decide +kernel
theorem dX4_slope_2 : decode cX4_slope 2 = .ok (.invokevirtual 121, 3) := by decide +kernel
theorem dX4_slope_5 : decode cX4_slope 5 = .ok (.ifCond .eq 12, 3) := by decide +kernel
theorem dX4_slope_8 : decode cX4_slope 8 = .ok (.aload_n 0, 1) := by decide +kernel
theorem dX4_slope_9 : decode cX4_slope 9 = .ok (.getfield 44, 3) := by decide +kernel
theorem dX4_slope_12 : decode cX4_slope 12 = .ok (.iload_n 1, 1) := by decide +kernel
theorem dX4_slope_13 : decode cX4_slope 13 = .ok (.iaload, 1) := by decide +kernel
theorem dX4_slope_14 : decode cX4_slope 14 = .ok (.ifCond .ne 5, 3) := by decide +kernel
theorem dX4_slope_17 : decode cX4_slope 17 = .ok (.dconst 0, 1) := by decide +kernel
theorem dX4_slope_18 : decode cX4_slope 18 = .ok (.dreturn, 1) := by decide +kernel
theorem dX4_slope_19 : decode cX4_slope 19 = .ok (.aload_n 0, 1) := by decide +kernel
theorem dX4_slope_20 : decode cX4_slope 20 = .ok (.iload_n 1, 1) := by decide +kernel
theorem dX4_slope_21 : decode cX4_slope 21 = .ok (.invokevirtual 124, 3) := by decide +kernel
theorem dX4_slope_24 : decode cX4_slope 24 = .ok (.l2d, 1) := by decide +kernel
theorem dX4_slope_25 : decode cX4_slope 25 = .ok (.aload_n 0, 1) := by decide +kernel
theorem dX4_slope_26 : decode cX4_slope 26 = .ok (.iload_n 1, 1) := by decide +kernel
theorem dX4_slope_27 : decode cX4_slope 27 = .ok (.invokevirtual 128, 3) := by decide +kernel
theorem dX4_slope_30 : decode cX4_slope 30 = .ok (.l2d, 1) := by decide +kernel
theorem dX4_slope_31 : decode cX4_slope 31 = .ok (.ddiv, 1) := by decide +kernel
theorem dX4_slope_32 : decode cX4_slope 32 = .ok (.dreturn, 1) := by decide +kernel
theorem dX4_errorAt_0 : decode cX4_errorAt 0 = .ok (.aload_n 0, 1) := by decide +kernel
theorem dX4_errorAt_1 : decode cX4_errorAt 1 = .ok (.getfield 44, 3) := by decide +kernel
theorem dX4_errorAt_4 : decode cX4_errorAt 4 = .ok (.iload_n 1, 1) := by decide +kernel
theorem dX4_errorAt_5 : decode cX4_errorAt 5 = .ok (.iaload, 1) := by decide +kernel
theorem dX4_errorAt_6 : decode cX4_errorAt 6 = .ok (.ifCond .ne 11, 3) := by decide +kernel
theorem dX4_errorAt_9 : decode cX4_errorAt 9 = .ok (.aload_n 0, 1) := by decide +kernel
theorem dX4_errorAt_10 : decode cX4_errorAt 10 = .ok (.getfield 34, 3) := by decide +kernel
theorem dX4_errorAt_13 : decode cX4_errorAt 13 = .ok (.iload_n 1, 1) := by decide +kernel
theorem dX4_errorAt_14 : decode cX4_errorAt 14 = .ok (.iaload, 1) := by decide +kernel
theorem dX4_errorAt_15 : decode cX4_errorAt 15 = .ok (.i2l, 1) := by decide +kernel
theorem dX4_errorAt_16 : decode cX4_errorAt 16 = .ok (.lreturn, 1) := by decide +kernel
theorem dX4_errorAt_17 : decode cX4_errorAt 17 = .ok (.aload_n 0, 1) := by decide +kernel
theorem dX4_errorAt_18 : decode cX4_errorAt 18 = .ok (.iload_n 1, 1) := by decide +kernel
theorem dX4_errorAt_19 : decode cX4_errorAt 19 = .ok (.invokevirtual 124, 3) := by decide +kernel
theorem dX4_errorAt_22 : decode cX4_errorAt 22 = .ok (.iload_n 2, 1) := by decide +kernel
theorem dX4_errorAt_23 : decode cX4_errorAt 23 = .ok (.i2l, 1) := by decide +kernel
theorem dX4_errorAt_24 : decode cX4_errorAt 24 = .ok (.lmul, 1) := by decide +kernel
theorem dX4_errorAt_25 : decode cX4_errorAt 25 = .ok (.lstore_n 3, 1) := by decide +kernel
theorem dX4_errorAt_26 : decode cX4_errorAt 26 = .ok (.aload_n 0, 1) := by decide +kernel
theorem dX4_errorAt_27 : decode cX4_errorAt 27 = .ok (.iload_n 1, 1) := by decide +kernel
theorem dX4_errorAt_28 : decode cX4_errorAt 28 = .ok (.invokevirtual 128, 3) := by decide +kernel
theorem dX4_errorAt_31 : decode cX4_errorAt 31 = .ok (.lstore 5, 2) := by decide +kernel
theorem dX4_errorAt_33 : decode cX4_errorAt 33 = .ok (.lload_n 3, 1) := by decide +kernel
theorem dX4_errorAt_34 : decode cX4_errorAt 34 = .ok (.lload 5, 2) := by decide +kernel
theorem dX4_errorAt_36 : decode cX4_errorAt 36 = .ok (.ldiv, 1) := by decide +kernel
theorem dX4_errorAt_37 : decode cX4_errorAt 37 = .ok (.lstore 7, 2) := by decide +kernel
theorem dX4_errorAt_39 : decode cX4_errorAt 39 = .ok (.aload_n 0, 1) := by decide +kernel
theorem dX4_errorAt_40 : decode cX4_errorAt 40 = .ok (.getfield 34, 3) := by decide +kernel
theorem dX4_errorAt_43 : decode cX4_errorAt 43 = .ok (.iload_n 1, 1) := by decide +kernel
theorem dX4_errorAt_44 : decode cX4_errorAt 44 = .ok (.iaload, 1) := by decide +kernel
theorem dX4_errorAt_45 : decode cX4_errorAt 45 = .ok (.i2l, 1) := by decide +kernel
theorem dX4_errorAt_46 : decode cX4_errorAt 46 = .ok (.lload_n 3, 1) := by decide +kernel
theorem dX4_errorAt_47 : decode cX4_errorAt 47 = .ok (.lload 5, 2) := by decide +kernel
theorem dX4_errorAt_49 : decode cX4_errorAt 49 = .ok (.lrem, 1) := by decide +kernel
theorem dX4_errorAt_50 : decode cX4_errorAt 50 = .ok (.lconst 0, 1) := by decide +kernel
theorem dX4_errorAt_51 : decode cX4_errorAt 51 = .ok (.lcmp, 1) := by decide +kernel
theorem dX4_errorAt_52 : decode cX4_errorAt 52 = .ok (.ifCond .ge 10, 3) := by decide +kernel
theorem dX4_errorAt_55 : decode cX4_errorAt 55 = .ok (.lload 7, 2) := by decide +kernel
theorem dX4_errorAt_57 : decode cX4_errorAt 57 = .ok (.lconst 1, 1) := by decide +kernel
theorem dX4_errorAt_58 : decode cX4_errorAt 58 = .ok (.lsub, 1) := by decide +kernel
theorem dX4_errorAt_59 : decode cX4_errorAt 59 = .ok (.goto 5, 3) := by decide +kernel
theorem dX4_errorAt_62 : decode cX4_errorAt 62 = .ok (.lload 7, 2) := by decide +kernel
theorem dX4_errorAt_64 : decode cX4_errorAt 64 = .ok (.ladd, 1) := by decide +kernel
theorem dX4_errorAt_65 : decode cX4_errorAt 65 = .ok (.lreturn, 1) := by decide +kernel
theorem dX4_expected_0 : decode cX4_expected 0 = .ok (.aload_n 0, 1) := by decide +kernel
theorem dX4_expected_1 : decode cX4_expected 1 = .ok (.iload_n 1, 1) := by decide +kernel
theorem dX4_expected_2 : decode cX4_expected 2 = .ok (.invokevirtual 69, 3) := by decide +kernel
theorem dX4_expected_5 : decode cX4_expected 5 = .ok (.istore_n 3, 1) := by decide +kernel
theorem dX4_expected_6 : decode cX4_expected 6 = .ok (.aload_n 0, 1) := by decide +kernel
theorem dX4_expected_7 : decode cX4_expected 7 = .ok (.iload_n 3, 1) := by decide +kernel
theorem dX4_expected_8 : decode cX4_expected 8 = .ok (.ifCond .ne 7, 3) := by decide +kernel
theorem dX4_expected_11 : decode cX4_expected 11 = .ok (.iconst 1, 1) := by decide +kernel
theorem dX4_expected_12 : decode cX4_expected 12 = .ok (.goto 31, 3) := by decide +kernel
theorem dX4_expected_15 : decode cX4_expected 15 = .ok (.iload_n 2, 1) := by decide +kernel
theorem dX4_expected_16 : decode cX4_expected 16 = .ok (.ifCond .lt 10, 3) := by decide +kernel
theorem dX4_expected_19 : decode cX4_expected 19 = .ok (.iload_n 2, 1) := by decide +kernel
theorem dX4_expected_20 : decode cX4_expected 20 = .ok (.sipush 9999, 3) := by decide +kernel
theorem dX4_expected_23 : decode cX4_expected 23 = .ok (.if_icmp .le 7, 3) := by decide +kernel
theorem dX4_expected_26 : decode cX4_expected 26 = .ok (.iconst 2, 1) := by decide +kernel
theorem dX4_expected_27 : decode cX4_expected 27 = .ok (.goto 16, 3) := by decide +kernel
theorem dX4_expected_30 : decode cX4_expected 30 = .ok (.aload_n 0, 1) := by decide +kernel
theorem dX4_expected_31 : decode cX4_expected 31 = .ok (.iload_n 1, 1) := by decide +kernel
theorem dX4_expected_32 : decode cX4_expected 32 = .ok (.invokevirtual 83, 3) := by decide +kernel
theorem dX4_expected_35 : decode cX4_expected 35 = .ok (.ifCond .eq 7, 3) := by decide +kernel
theorem dX4_expected_38 : decode cX4_expected 38 = .ok (.iconst 0, 1) := by decide +kernel
theorem dX4_expected_39 : decode cX4_expected 39 = .ok (.goto 4, 3) := by decide +kernel
theorem dX4_expected_42 : decode cX4_expected 42 = .ok (.iconst 3, 1) := by decide +kernel
theorem dX4_expected_43 : decode cX4_expected 43 = .ok (.invokevirtual 73, 3) := by decide +kernel
theorem dX4_expected_46 : decode cX4_expected 46 = .ok (.ifCond .ne 5, 3) := by decide +kernel
theorem dX4_expected_49 : decode cX4_expected 49 = .ok (.lconst 0, 1) := by decide +kernel
theorem dX4_expected_50 : decode cX4_expected 50 = .ok (.lreturn, 1) := by decide +kernel
theorem dX4_expected_51 : decode cX4_expected 51 = .ok (.aload_n 0, 1) := by decide +kernel
theorem dX4_expected_52 : decode cX4_expected 52 = .ok (.iload_n 1, 1) := by decide +kernel
theorem dX4_expected_53 : decode cX4_expected 53 = .ok (.iload_n 2, 1) := by decide +kernel
theorem dX4_expected_54 : decode cX4_expected 54 = .ok (.invokevirtual 131, 3) := by decide +kernel
theorem dX4_expected_57 : decode cX4_expected 57 = .ok (.lreturn, 1) := by decide +kernel
theorem dX4_driftsOut_0 : decode cX4_driftsOut 0 = .ok (.aload_n 0, 1) := by decide +kernel
theorem dX4_driftsOut_1 : decode cX4_driftsOut 1 = .ok (.iload_n 1, 1) := by decide +kernel
theorem dX4_driftsOut_2 : decode cX4_driftsOut 2 = .ok (.invokevirtual 121, 3) := by decide +kernel
theorem dX4_driftsOut_5 : decode cX4_driftsOut 5 = .ok (.ifCond .eq 11, 3) := by decide +kernel
theorem dX4_driftsOut_8 : decode cX4_driftsOut 8 = .ok (.aload_n 0, 1) := by decide +kernel
theorem dX4_driftsOut_9 : decode cX4_driftsOut 9 = .ok (.iload_n 1, 1) := by decide +kernel
theorem dX4_driftsOut_10 : decode cX4_driftsOut 10 = .ok (.invokevirtual 83, 3) := by decide +kernel
theorem dX4_driftsOut_13 : decode cX4_driftsOut 13 = .ok (.ifCond .ne 5, 3) := by decide +kernel
theorem dX4_driftsOut_16 : decode cX4_driftsOut 16 = .ok (.iconst (-1), 1) := by decide +kernel
theorem dX4_driftsOut_17 : decode cX4_driftsOut 17 = .ok (.ireturn, 1) := by decide +kernel
theorem dX4_driftsOut_18 : decode cX4_driftsOut 18 = .ok (.iconst 0, 1) := by decide +kernel
theorem dX4_driftsOut_19 : decode cX4_driftsOut 19 = .ok (.istore_n 2, 1) := by decide +kernel
theorem dX4_driftsOut_20 : decode cX4_driftsOut 20 = .ok (.iload_n 2, 1) := by decide +kernel
theorem dX4_driftsOut_21 : decode cX4_driftsOut 21 = .ok (.sipush 9999, 3) := by decide +kernel
theorem dX4_driftsOut_24 : decode cX4_driftsOut 24 = .ok (.if_icmp .gt 43, 3) := by decide +kernel
theorem dX4_driftsOut_27 : decode cX4_driftsOut 27 = .ok (.aload_n 0, 1) := by decide +kernel
theorem dX4_driftsOut_28 : decode cX4_driftsOut 28 = .ok (.iload_n 1, 1) := by decide +kernel
theorem dX4_driftsOut_29 : decode cX4_driftsOut 29 = .ok (.iload_n 2, 1) := by decide +kernel
theorem dX4_driftsOut_30 : decode cX4_driftsOut 30 = .ok (.invokevirtual 131, 3) := by decide +kernel
theorem dX4_driftsOut_33 : decode cX4_driftsOut 33 = .ok (.lstore_n 3, 1) := by decide +kernel
theorem dX4_driftsOut_34 : decode cX4_driftsOut 34 = .ok (.lload_n 3, 1) := by decide +kernel
theorem dX4_driftsOut_35 : decode cX4_driftsOut 35 = .ok (.aload_n 0, 1) := by decide +kernel
theorem dX4_driftsOut_36 : decode cX4_driftsOut 36 = .ok (.getfield 13, 3) := by decide +kernel
theorem dX4_driftsOut_39 : decode cX4_driftsOut 39 = .ok (.iload_n 1, 1) := by decide +kernel
theorem dX4_driftsOut_40 : decode cX4_driftsOut 40 = .ok (.iaload, 1) := by decide +kernel
theorem dX4_driftsOut_41 : decode cX4_driftsOut 41 = .ok (.i2l, 1) := by decide +kernel
theorem dX4_driftsOut_42 : decode cX4_driftsOut 42 = .ok (.lcmp, 1) := by decide +kernel
theorem dX4_driftsOut_43 : decode cX4_driftsOut 43 = .ok (.ifCond .gt 16, 3) := by decide +kernel
theorem dX4_driftsOut_46 : decode cX4_driftsOut 46 = .ok (.lload_n 3, 1) := by decide +kernel
theorem dX4_driftsOut_47 : decode cX4_driftsOut 47 = .ok (.lneg, 1) := by decide +kernel
theorem dX4_driftsOut_48 : decode cX4_driftsOut 48 = .ok (.aload_n 0, 1) := by decide +kernel
theorem dX4_driftsOut_49 : decode cX4_driftsOut 49 = .ok (.getfield 13, 3) := by decide +kernel
theorem dX4_driftsOut_52 : decode cX4_driftsOut 52 = .ok (.iload_n 1, 1) := by decide +kernel
theorem dX4_driftsOut_53 : decode cX4_driftsOut 53 = .ok (.iaload, 1) := by decide +kernel
theorem dX4_driftsOut_54 : decode cX4_driftsOut 54 = .ok (.i2l, 1) := by decide +kernel
theorem dX4_driftsOut_55 : decode cX4_driftsOut 55 = .ok (.lcmp, 1) := by decide +kernel
theorem dX4_driftsOut_56 : decode cX4_driftsOut 56 = .ok (.ifCond .le 5, 3) := by decide +kernel
theorem dX4_driftsOut_59 : decode cX4_driftsOut 59 = .ok (.iload_n 2, 1) := by decide +kernel
theorem dX4_driftsOut_60 : decode cX4_driftsOut 60 = .ok (.ireturn, 1) := by decide +kernel
theorem dX4_driftsOut_61 : decode cX4_driftsOut 61 = .ok (.iinc 2 1, 3) := by decide +kernel
theorem dX4_driftsOut_64 : decode cX4_driftsOut 64 = .ok (.goto (-44), 3) := by decide +kernel
theorem dX4_driftsOut_67 : decode cX4_driftsOut 67 = .ok (.iconst (-1), 1) := by decide +kernel
theorem dX4_driftsOut_68 : decode cX4_driftsOut 68 = .ok (.ireturn, 1) := by decide +kernel
theorem dX4_root_0 : decode cX4_root 0 = .ok (.iconst 0, 1) := by decide +kernel
theorem dX4_root_1 : decode cX4_root 1 = .ok (.istore_n 1, 1) := by decide +kernel
theorem dX4_root_2 : decode cX4_root 2 = .ok (.iload_n 1, 1) := by decide +kernel
theorem dX4_root_3 : decode cX4_root 3 = .ok (.iload_n 1, 1) := by decide +kernel
theorem dX4_root_4 : decode cX4_root 4 = .ok (.imul, 1) := by decide +kernel
theorem dX4_root_5 : decode cX4_root 5 = .ok (.iload_n 0, 1) := by decide +kernel
theorem dX4_root_6 : decode cX4_root 6 = .ok (.if_icmp .ge 9, 3) := by decide +kernel
theorem dX4_root_9 : decode cX4_root 9 = .ok (.iinc 1 1, 3) := by decide +kernel
theorem dX4_root_12 : decode cX4_root 12 = .ok (.goto (-10), 3) := by decide +kernel
theorem dX4_root_15 : decode cX4_root 15 = .ok (.iload_n 1, 1) := by decide +kernel
theorem dX4_root_16 : decode cX4_root 16 = .ok (.ireturn, 1) := by decide +kernel
theorem dX4_withChain_0 : decode cX4_withChain 0 = .ok (.iconst 0, 1) := by decide +kernel
theorem dX4_withChain_1 : decode cX4_withChain 1 = .ok (.istore_n 2, 1) := by decide +kernel
theorem dX4_withChain_2 : decode cX4_withChain 2 = .ok (.iload_n 1, 1) := by decide +kernel
theorem dX4_withChain_3 : decode cX4_withChain 3 = .ok (.istore_n 3, 1) := by decide +kernel
theorem dX4_withChain_4 : decode cX4_withChain 4 = .ok (.aload_n 0, 1) := by decide +kernel
theorem dX4_withChain_5 : decode cX4_withChain 5 = .ok (.getfield 7, 3) := by decide +kernel
theorem dX4_withChain_8 : decode cX4_withChain 8 = .ok (.iload_n 3, 1) := by decide +kernel
theorem dX4_withChain_9 : decode cX4_withChain 9 = .ok (.iaload, 1) := by decide +kernel
theorem dX4_withChain_10 : decode cX4_withChain 10 = .ok (.iconst (-1), 1) := by decide +kernel
theorem dX4_withChain_11 : decode cX4_withChain 11 = .ok (.if_icmp .eq 16, 3) := by decide +kernel
theorem dX4_withChain_14 : decode cX4_withChain 14 = .ok (.iinc 2 1, 3) := by decide +kernel
theorem dX4_withChain_17 : decode cX4_withChain 17 = .ok (.aload_n 0, 1) := by decide +kernel
theorem dX4_withChain_18 : decode cX4_withChain 18 = .ok (.getfield 7, 3) := by decide +kernel
theorem dX4_withChain_21 : decode cX4_withChain 21 = .ok (.iload_n 3, 1) := by decide +kernel
theorem dX4_withChain_22 : decode cX4_withChain 22 = .ok (.iaload, 1) := by decide +kernel
theorem dX4_withChain_23 : decode cX4_withChain 23 = .ok (.istore_n 3, 1) := by decide +kernel
theorem dX4_withChain_24 : decode cX4_withChain 24 = .ok (.goto (-20), 3) := by decide +kernel
theorem dX4_withChain_27 : decode cX4_withChain 27 = .ok (.iconst 0, 1) := by decide +kernel
theorem dX4_withChain_28 : decode cX4_withChain 28 = .ok (.istore_n 3, 1) := by decide +kernel
theorem dX4_withChain_29 : decode cX4_withChain 29 = .ok (.iload_n 2, 1) := by decide +kernel
theorem dX4_withChain_30 : decode cX4_withChain 30 = .ok (.istore 4, 2) := by decide +kernel
theorem dX4_withChain_32 : decode cX4_withChain 32 = .ok (.iload 4, 2) := by decide +kernel
theorem dX4_withChain_34 : decode cX4_withChain 34 = .ok (.ifCond .lt 76, 3) := by decide +kernel
theorem dX4_withChain_37 : decode cX4_withChain 37 = .ok (.iload_n 1, 1) := by decide +kernel
theorem dX4_withChain_38 : decode cX4_withChain 38 = .ok (.istore 5, 2) := by decide +kernel
theorem dX4_withChain_40 : decode cX4_withChain 40 = .ok (.iconst 0, 1) := by decide +kernel
theorem dX4_withChain_41 : decode cX4_withChain 41 = .ok (.istore 6, 2) := by decide +kernel
theorem dX4_withChain_43 : decode cX4_withChain 43 = .ok (.iload 6, 2) := by decide +kernel
theorem dX4_withChain_45 : decode cX4_withChain 45 = .ok (.iload 4, 2) := by decide +kernel
theorem dX4_withChain_47 : decode cX4_withChain 47 = .ok (.if_icmp .ge 18, 3) := by decide +kernel
theorem dX4_withChain_50 : decode cX4_withChain 50 = .ok (.aload_n 0, 1) := by decide +kernel
theorem dX4_withChain_51 : decode cX4_withChain 51 = .ok (.getfield 7, 3) := by decide +kernel
theorem dX4_withChain_54 : decode cX4_withChain 54 = .ok (.iload 5, 2) := by decide +kernel
theorem dX4_withChain_56 : decode cX4_withChain 56 = .ok (.iaload, 1) := by decide +kernel
theorem dX4_withChain_57 : decode cX4_withChain 57 = .ok (.istore 5, 2) := by decide +kernel
theorem dX4_withChain_59 : decode cX4_withChain 59 = .ok (.iinc 6 1, 3) := by decide +kernel
theorem dX4_withChain_62 : decode cX4_withChain 62 = .ok (.goto (-19), 3) := by decide +kernel
theorem dX4_withChain_65 : decode cX4_withChain 65 = .ok (.iload 4, 2) := by decide +kernel
theorem dX4_withChain_67 : decode cX4_withChain 67 = .ok (.iload_n 2, 1) := by decide +kernel
theorem dX4_withChain_68 : decode cX4_withChain 68 = .ok (.if_icmp .ne 13, 3) := by decide +kernel
theorem dX4_withChain_71 : decode cX4_withChain 71 = .ok (.aload_n 0, 1) := by decide +kernel
theorem dX4_withChain_72 : decode cX4_withChain 72 = .ok (.getfield 16, 3) := by decide +kernel
theorem dX4_withChain_75 : decode cX4_withChain 75 = .ok (.iload 5, 2) := by decide +kernel
theorem dX4_withChain_77 : decode cX4_withChain 77 = .ok (.iaload, 1) := by decide +kernel
theorem dX4_withChain_78 : decode cX4_withChain 78 = .ok (.goto 25, 3) := by decide +kernel
theorem dX4_withChain_81 : decode cX4_withChain 81 = .ok (.aload_n 0, 1) := by decide +kernel
theorem dX4_withChain_82 : decode cX4_withChain 82 = .ok (.getfield 16, 3) := by decide +kernel
theorem dX4_withChain_85 : decode cX4_withChain 85 = .ok (.iload 5, 2) := by decide +kernel
theorem dX4_withChain_87 : decode cX4_withChain 87 = .ok (.iaload, 1) := by decide +kernel
theorem dX4_withChain_88 : decode cX4_withChain 88 = .ok (.aload_n 0, 1) := by decide +kernel
theorem dX4_withChain_89 : decode cX4_withChain 89 = .ok (.getfield 16, 3) := by decide +kernel
theorem dX4_withChain_92 : decode cX4_withChain 92 = .ok (.iload 5, 2) := by decide +kernel
theorem dX4_withChain_94 : decode cX4_withChain 94 = .ok (.iaload, 1) := by decide +kernel
theorem dX4_withChain_95 : decode cX4_withChain 95 = .ok (.imul, 1) := by decide +kernel
theorem dX4_withChain_96 : decode cX4_withChain 96 = .ok (.iload_n 3, 1) := by decide +kernel
theorem dX4_withChain_97 : decode cX4_withChain 97 = .ok (.iload_n 3, 1) := by decide +kernel
theorem dX4_withChain_98 : decode cX4_withChain 98 = .ok (.imul, 1) := by decide +kernel
theorem dX4_withChain_99 : decode cX4_withChain 99 = .ok (.iadd, 1) := by decide +kernel
theorem dX4_withChain_100 : decode cX4_withChain 100 = .ok (.invokestatic 135, 3) := by decide +kernel
theorem dX4_withChain_103 : decode cX4_withChain 103 = .ok (.istore_n 3, 1) := by decide +kernel
theorem dX4_withChain_104 : decode cX4_withChain 104 = .ok (.iinc 4 (-1), 3) := by decide +kernel
theorem dX4_withChain_107 : decode cX4_withChain 107 = .ok (.goto (-75), 3) := by decide +kernel
theorem dX4_withChain_110 : decode cX4_withChain 110 = .ok (.iload_n 3, 1) := by decide +kernel
theorem dX4_withChain_111 : decode cX4_withChain 111 = .ok (.ireturn, 1) := by decide +kernel
theorem dX4_uncertainty_0 : decode cX4_uncertainty 0 = .ok (.aload_n 0, 1) := by decide +kernel
theorem dX4_uncertainty_1 : decode cX4_uncertainty 1 = .ok (.iload_n 1, 1) := by decide +kernel
theorem dX4_uncertainty_2 : decode cX4_uncertainty 2 = .ok (.invokevirtual 121, 3) := by decide +kernel
theorem dX4_uncertainty_5 : decode cX4_uncertainty 5 = .ok (.ifCond .eq 11, 3) := by decide +kernel
theorem dX4_uncertainty_8 : decode cX4_uncertainty 8 = .ok (.aload_n 0, 1) := by decide +kernel
theorem dX4_uncertainty_9 : decode cX4_uncertainty 9 = .ok (.iload_n 1, 1) := by decide +kernel
theorem dX4_uncertainty_10 : decode cX4_uncertainty 10 = .ok (.invokevirtual 138, 3) := by decide +kernel
theorem dX4_uncertainty_13 : decode cX4_uncertainty 13 = .ok (.goto 4, 3) := by decide +kernel
theorem dX4_uncertainty_16 : decode cX4_uncertainty 16 = .ok (.iconst 0, 1) := by decide +kernel
theorem dX4_uncertainty_17 : decode cX4_uncertainty 17 = .ok (.ireturn, 1) := by decide +kernel
theorem dX4_limit_0 : decode cX4_limit 0 = .ok (.aload_n 0, 1) := by decide +kernel
theorem dX4_limit_1 : decode cX4_limit 1 = .ok (.iload_n 1, 1) := by decide +kernel
theorem dX4_limit_2 : decode cX4_limit 2 = .ok (.invokevirtual 121, 3) := by decide +kernel
theorem dX4_limit_5 : decode cX4_limit 5 = .ok (.ifCond .ne 5, 3) := by decide +kernel
theorem dX4_limit_8 : decode cX4_limit 8 = .ok (.iconst 0, 1) := by decide +kernel
theorem dX4_limit_9 : decode cX4_limit 9 = .ok (.ireturn, 1) := by decide +kernel
theorem dX4_limit_10 : decode cX4_limit 10 = .ok (.aload_n 0, 1) := by decide +kernel
theorem dX4_limit_11 : decode cX4_limit 11 = .ok (.getfield 13, 3) := by decide +kernel
theorem dX4_limit_14 : decode cX4_limit 14 = .ok (.iload_n 1, 1) := by decide +kernel
theorem dX4_limit_15 : decode cX4_limit 15 = .ok (.iaload, 1) := by decide +kernel
theorem dX4_limit_16 : decode cX4_limit 16 = .ok (.aload_n 0, 1) := by decide +kernel
theorem dX4_limit_17 : decode cX4_limit 17 = .ok (.iload_n 1, 1) := by decide +kernel
theorem dX4_limit_18 : decode cX4_limit 18 = .ok (.invokevirtual 138, 3) := by decide +kernel
theorem dX4_limit_21 : decode cX4_limit 21 = .ok (.isub, 1) := by decide +kernel
theorem dX4_limit_22 : decode cX4_limit 22 = .ok (.istore_n 2, 1) := by decide +kernel
theorem dX4_limit_23 : decode cX4_limit 23 = .ok (.iload_n 2, 1) := by decide +kernel
theorem dX4_limit_24 : decode cX4_limit 24 = .ok (.ifCond .ge 7, 3) := by decide +kernel
theorem dX4_limit_27 : decode cX4_limit 27 = .ok (.iconst 0, 1) := by decide +kernel
theorem dX4_limit_28 : decode cX4_limit 28 = .ok (.goto 4, 3) := by decide +kernel
theorem dX4_limit_31 : decode cX4_limit 31 = .ok (.iload_n 2, 1) := by decide +kernel
theorem dX4_limit_32 : decode cX4_limit 32 = .ok (.ireturn, 1) := by decide +kernel
theorem dX4_measurements_0 : decode cX4_measurements 0 = .ok (.aload_n 0, 1) := by decide +kernel
theorem dX4_measurements_1 : decode cX4_measurements 1 = .ok (.iconst 0, 1) := by decide +kernel
theorem dX4_measurements_2 : decode cX4_measurements 2 = .ok (.putfield 62, 3) := by decide +kernel
theorem dX4_measurements_5 : decode cX4_measurements 5 = .ok (.aload_n 0, 1) := by decide +kernel
theorem dX4_measurements_6 : decode cX4_measurements 6 = .ok (.getfield 89, 3) := by decide +kernel
theorem dX4_measurements_9 : decode cX4_measurements 9 = .ok (.ireturn, 1) := by decide +kernel
theorem dX4_isCalledBack_0 : decode cX4_isCalledBack 0 = .ok (.aload_n 0, 1) := by decide +kernel
theorem dX4_isCalledBack_1 : decode cX4_isCalledBack 1 = .ok (.iload_n 1, 1) := by decide +kernel
theorem dX4_isCalledBack_2 : decode cX4_isCalledBack 2 = .ok (.ifCond .lt 15, 3) := by decide +kernel
theorem dX4_isCalledBack_5 : decode cX4_isCalledBack 5 = .ok (.iload_n 1, 1) := by decide +kernel
theorem dX4_isCalledBack_6 : decode cX4_isCalledBack 6 = .ok (.aload_n 0, 1) := by decide +kernel
theorem dX4_isCalledBack_7 : decode cX4_isCalledBack 7 = .ok (.getfield 89, 3) := by decide +kernel
theorem dX4_isCalledBack_10 : decode cX4_isCalledBack 10 = .ok (.if_icmp .ge 7, 3) := by decide +kernel
theorem dX4_isCalledBack_13 : decode cX4_isCalledBack 13 = .ok (.iconst 0, 1) := by decide +kernel
theorem dX4_isCalledBack_14 : decode cX4_isCalledBack 14 = .ok (.goto 4, 3) := by decide +kernel
theorem dX4_isCalledBack_17 : decode cX4_isCalledBack 17 = .ok (.iconst 1, 1) := by decide +kernel
theorem dX4_isCalledBack_18 : decode cX4_isCalledBack 18 = .ok (.invokevirtual 73, 3) := by decide +kernel
theorem dX4_isCalledBack_21 : decode cX4_isCalledBack 21 = .ok (.ifCond .eq 16, 3) := by decide +kernel
theorem dX4_isCalledBack_24 : decode cX4_isCalledBack 24 = .ok (.aload_n 0, 1) := by decide +kernel
theorem dX4_isCalledBack_25 : decode cX4_isCalledBack 25 = .ok (.getfield 59, 3) := by decide +kernel
theorem dX4_isCalledBack_28 : decode cX4_isCalledBack 28 = .ok (.iload_n 1, 1) := by decide +kernel
theorem dX4_isCalledBack_29 : decode cX4_isCalledBack 29 = .ok (.baload, 1) := by decide +kernel
theorem dX4_isCalledBack_30 : decode cX4_isCalledBack 30 = .ok (.ifCond .eq 7, 3) := by decide +kernel
theorem dX4_isCalledBack_33 : decode cX4_isCalledBack 33 = .ok (.iconst 1, 1) := by decide +kernel
theorem dX4_isCalledBack_34 : decode cX4_isCalledBack 34 = .ok (.goto 4, 3) := by decide +kernel
theorem dX4_isCalledBack_37 : decode cX4_isCalledBack 37 = .ok (.iconst 0, 1) := by decide +kernel
theorem dX4_isCalledBack_38 : decode cX4_isCalledBack 38 = .ok (.ireturn, 1) := by decide +kernel
theorem dX4_calledNow_0 : decode cX4_calledNow 0 = .ok (.iconst 0, 1) := by decide +kernel
theorem dX4_calledNow_1 : decode cX4_calledNow 1 = .ok (.istore_n 1, 1) := by decide +kernel
theorem dX4_calledNow_2 : decode cX4_calledNow 2 = .ok (.iconst 0, 1) := by decide +kernel
theorem dX4_calledNow_3 : decode cX4_calledNow 3 = .ok (.istore_n 2, 1) := by decide +kernel
theorem dX4_calledNow_4 : decode cX4_calledNow 4 = .ok (.iload_n 2, 1) := by decide +kernel
theorem dX4_calledNow_5 : decode cX4_calledNow 5 = .ok (.aload_n 0, 1) := by decide +kernel
theorem dX4_calledNow_6 : decode cX4_calledNow 6 = .ok (.getfield 89, 3) := by decide +kernel
theorem dX4_calledNow_9 : decode cX4_calledNow 9 = .ok (.if_icmp .ge 26, 3) := by decide +kernel
theorem dX4_calledNow_12 : decode cX4_calledNow 12 = .ok (.iload_n 1, 1) := by decide +kernel
theorem dX4_calledNow_13 : decode cX4_calledNow 13 = .ok (.aload_n 0, 1) := by decide +kernel
theorem dX4_calledNow_14 : decode cX4_calledNow 14 = .ok (.getfield 59, 3) := by decide +kernel
theorem dX4_calledNow_17 : decode cX4_calledNow 17 = .ok (.iload_n 2, 1) := by decide +kernel
theorem dX4_calledNow_18 : decode cX4_calledNow 18 = .ok (.baload, 1) := by decide +kernel
theorem dX4_calledNow_19 : decode cX4_calledNow 19 = .ok (.ifCond .eq 7, 3) := by decide +kernel
theorem dX4_calledNow_22 : decode cX4_calledNow 22 = .ok (.iconst 1, 1) := by decide +kernel
theorem dX4_calledNow_23 : decode cX4_calledNow 23 = .ok (.goto 4, 3) := by decide +kernel
theorem dX4_calledNow_26 : decode cX4_calledNow 26 = .ok (.iconst 0, 1) := by decide +kernel
theorem dX4_calledNow_27 : decode cX4_calledNow 27 = .ok (.iadd, 1) := by decide +kernel
theorem dX4_calledNow_28 : decode cX4_calledNow 28 = .ok (.istore_n 1, 1) := by decide +kernel
theorem dX4_calledNow_29 : decode cX4_calledNow 29 = .ok (.iinc 2 1, 3) := by decide +kernel
theorem dX4_calledNow_32 : decode cX4_calledNow 32 = .ok (.goto (-28), 3) := by decide +kernel
theorem dX4_calledNow_35 : decode cX4_calledNow 35 = .ok (.iload_n 1, 1) := by decide +kernel
theorem dX4_calledNow_36 : decode cX4_calledNow 36 = .ok (.ireturn, 1) := by decide +kernel
theorem dX4_calledBack_0 : decode cX4_calledBack 0 = .ok (.aload_n 0, 1) := by decide +kernel
theorem dX4_calledBack_1 : decode cX4_calledBack 1 = .ok (.iconst 0, 1) := by decide +kernel
theorem dX4_calledBack_2 : decode cX4_calledBack 2 = .ok (.putfield 62, 3) := by decide +kernel
theorem dX4_calledBack_5 : decode cX4_calledBack 5 = .ok (.aload_n 0, 1) := by decide +kernel
theorem dX4_calledBack_6 : decode cX4_calledBack 6 = .ok (.invokevirtual 141, 3) := by decide +kernel
theorem dX4_calledBack_9 : decode cX4_calledBack 9 = .ok (.ireturn, 1) := by decide +kernel
theorem dX4_calledBackByLog_0 : decode cX4_calledBackByLog 0 = .ok (.aload_n 0, 1) := by decide +kernel
theorem dX4_calledBackByLog_1 : decode cX4_calledBackByLog 1 = .ok (.iconst 0, 1) := by decide +kernel
theorem dX4_calledBackByLog_2 : decode cX4_calledBackByLog 2 = .ok (.putfield 62, 3) := by decide +kernel
theorem dX4_calledBackByLog_5 : decode cX4_calledBackByLog 5 = .ok (.aload_n 0, 1) := by decide +kernel
theorem dX4_calledBackByLog_6 : decode cX4_calledBackByLog 6 = .ok (.invokevirtual 141, 3) := by decide +kernel
theorem dX4_calledBackByLog_9 : decode cX4_calledBackByLog 9 = .ok (.ireturn, 1) := by decide +kernel
theorem dX4_atStake_0 : decode cX4_atStake 0 = .ok (.aload_n 0, 1) := by decide +kernel
theorem dX4_atStake_1 : decode cX4_atStake 1 = .ok (.iload_n 1, 1) := by decide +kernel
theorem dX4_atStake_2 : decode cX4_atStake 2 = .ok (.invokevirtual 121, 3) := by decide +kernel
theorem dX4_atStake_5 : decode cX4_atStake 5 = .ok (.ifCond .eq 24, 3) := by decide +kernel
theorem dX4_atStake_8 : decode cX4_atStake 8 = .ok (.aload_n 0, 1) := by decide +kernel
theorem dX4_atStake_9 : decode cX4_atStake 9 = .ok (.iload_n 1, 1) := by decide +kernel
theorem dX4_atStake_10 : decode cX4_atStake 10 = .ok (.invokevirtual 83, 3) := by decide +kernel
theorem dX4_atStake_13 : decode cX4_atStake 13 = .ok (.ifCond .eq 16, 3) := by decide +kernel
theorem dX4_atStake_16 : decode cX4_atStake 16 = .ok (.aload_n 0, 1) := by decide +kernel
theorem dX4_atStake_17 : decode cX4_atStake 17 = .ok (.aload_n 0, 1) := by decide +kernel
theorem dX4_atStake_18 : decode cX4_atStake 18 = .ok (.iload_n 1, 1) := by decide +kernel
theorem dX4_atStake_19 : decode cX4_atStake 19 = .ok (.invokevirtual 92, 3) := by decide +kernel
theorem dX4_atStake_22 : decode cX4_atStake 22 = .ok (.iconst 0, 1) := by decide +kernel
theorem dX4_atStake_23 : decode cX4_atStake 23 = .ok (.invokevirtual 96, 3) := by decide +kernel
theorem dX4_atStake_26 : decode cX4_atStake 26 = .ok (.goto 4, 3) := by decide +kernel
theorem dX4_atStake_29 : decode cX4_atStake 29 = .ok (.iconst 0, 1) := by decide +kernel
theorem dX4_atStake_30 : decode cX4_atStake 30 = .ok (.ireturn, 1) := by decide +kernel
theorem dX4_dayOnBench_0 : decode cX4_dayOnBench 0 = .ok (.iconst 0, 1) := by decide +kernel
theorem dX4_dayOnBench_1 : decode cX4_dayOnBench 1 = .ok (.istore_n 3, 1) := by decide +kernel
theorem dX4_dayOnBench_2 : decode cX4_dayOnBench 2 = .ok (.iconst 0, 1) := by decide +kernel
theorem dX4_dayOnBench_3 : decode cX4_dayOnBench 3 = .ok (.istore 4, 2) := by decide +kernel
theorem dX4_dayOnBench_5 : decode cX4_dayOnBench 5 = .ok (.iload 4, 2) := by decide +kernel
theorem dX4_dayOnBench_7 : decode cX4_dayOnBench 7 = .ok (.aload_n 0, 1) := by decide +kernel
theorem dX4_dayOnBench_8 : decode cX4_dayOnBench 8 = .ok (.getfield 66, 3) := by decide +kernel
theorem dX4_dayOnBench_11 : decode cX4_dayOnBench 11 = .ok (.if_icmp .ge 76, 3) := by decide +kernel
theorem dX4_dayOnBench_14 : decode cX4_dayOnBench 14 = .ok (.aload_n 0, 1) := by decide +kernel
theorem dX4_dayOnBench_15 : decode cX4_dayOnBench 15 = .ok (.getfield 31, 3) := by decide +kernel
theorem dX4_dayOnBench_18 : decode cX4_dayOnBench 18 = .ok (.iload 4, 2) := by decide +kernel
theorem dX4_dayOnBench_20 : decode cX4_dayOnBench 20 = .ok (.iaload, 1) := by decide +kernel
theorem dX4_dayOnBench_21 : decode cX4_dayOnBench 21 = .ok (.aload_n 0, 1) := by decide +kernel
theorem dX4_dayOnBench_22 : decode cX4_dayOnBench 22 = .ok (.getfield 31, 3) := by decide +kernel
theorem dX4_dayOnBench_25 : decode cX4_dayOnBench 25 = .ok (.iload_n 1, 1) := by decide +kernel
theorem dX4_dayOnBench_26 : decode cX4_dayOnBench 26 = .ok (.iaload, 1) := by decide +kernel
theorem dX4_dayOnBench_27 : decode cX4_dayOnBench 27 = .ok (.if_icmp .lt 25, 3) := by decide +kernel
theorem dX4_dayOnBench_30 : decode cX4_dayOnBench 30 = .ok (.aload_n 0, 1) := by decide +kernel
theorem dX4_dayOnBench_31 : decode cX4_dayOnBench 31 = .ok (.getfield 31, 3) := by decide +kernel
theorem dX4_dayOnBench_34 : decode cX4_dayOnBench 34 = .ok (.iload 4, 2) := by decide +kernel
theorem dX4_dayOnBench_36 : decode cX4_dayOnBench 36 = .ok (.iaload, 1) := by decide +kernel
theorem dX4_dayOnBench_37 : decode cX4_dayOnBench 37 = .ok (.aload_n 0, 1) := by decide +kernel
theorem dX4_dayOnBench_38 : decode cX4_dayOnBench 38 = .ok (.getfield 31, 3) := by decide +kernel
theorem dX4_dayOnBench_41 : decode cX4_dayOnBench 41 = .ok (.iload_n 1, 1) := by decide +kernel
theorem dX4_dayOnBench_42 : decode cX4_dayOnBench 42 = .ok (.iaload, 1) := by decide +kernel
theorem dX4_dayOnBench_43 : decode cX4_dayOnBench 43 = .ok (.if_icmp .ne 13, 3) := by decide +kernel
theorem dX4_dayOnBench_46 : decode cX4_dayOnBench 46 = .ok (.iload 4, 2) := by decide +kernel
theorem dX4_dayOnBench_48 : decode cX4_dayOnBench 48 = .ok (.iload_n 1, 1) := by decide +kernel
theorem dX4_dayOnBench_49 : decode cX4_dayOnBench 49 = .ok (.if_icmp .ge 7, 3) := by decide +kernel
theorem dX4_dayOnBench_52 : decode cX4_dayOnBench 52 = .ok (.iconst 1, 1) := by decide +kernel
theorem dX4_dayOnBench_53 : decode cX4_dayOnBench 53 = .ok (.goto 4, 3) := by decide +kernel
theorem dX4_dayOnBench_56 : decode cX4_dayOnBench 56 = .ok (.iconst 0, 1) := by decide +kernel
theorem dX4_dayOnBench_57 : decode cX4_dayOnBench 57 = .ok (.istore 5, 2) := by decide +kernel
theorem dX4_dayOnBench_59 : decode cX4_dayOnBench 59 = .ok (.iload_n 3, 1) := by decide +kernel
theorem dX4_dayOnBench_60 : decode cX4_dayOnBench 60 = .ok (.aload_n 0, 1) := by decide +kernel
theorem dX4_dayOnBench_61 : decode cX4_dayOnBench 61 = .ok (.iload 4, 2) := by decide +kernel
theorem dX4_dayOnBench_63 : decode cX4_dayOnBench 63 = .ok (.invokevirtual 83, 3) := by decide +kernel
theorem dX4_dayOnBench_66 : decode cX4_dayOnBench 66 = .ok (.ifCond .eq 12, 3) := by decide +kernel
theorem dX4_dayOnBench_69 : decode cX4_dayOnBench 69 = .ok (.iload 5, 2) := by decide +kernel
theorem dX4_dayOnBench_71 : decode cX4_dayOnBench 71 = .ok (.ifCond .eq 7, 3) := by decide +kernel
theorem dX4_dayOnBench_74 : decode cX4_dayOnBench 74 = .ok (.iconst 1, 1) := by decide +kernel
theorem dX4_dayOnBench_75 : decode cX4_dayOnBench 75 = .ok (.goto 4, 3) := by decide +kernel
theorem dX4_dayOnBench_78 : decode cX4_dayOnBench 78 = .ok (.iconst 0, 1) := by decide +kernel
theorem dX4_dayOnBench_79 : decode cX4_dayOnBench 79 = .ok (.iadd, 1) := by decide +kernel
theorem dX4_dayOnBench_80 : decode cX4_dayOnBench 80 = .ok (.istore_n 3, 1) := by decide +kernel
theorem dX4_dayOnBench_81 : decode cX4_dayOnBench 81 = .ok (.iinc 4 1, 3) := by decide +kernel
theorem dX4_dayOnBench_84 : decode cX4_dayOnBench 84 = .ok (.goto (-79), 3) := by decide +kernel
theorem dX4_dayOnBench_87 : decode cX4_dayOnBench 87 = .ok (.aload_n 0, 1) := by decide +kernel
theorem dX4_dayOnBench_88 : decode cX4_dayOnBench 88 = .ok (.getfield 80, 3) := by decide +kernel
theorem dX4_dayOnBench_91 : decode cX4_dayOnBench 91 = .ok (.iload_n 3, 1) := by decide +kernel
theorem dX4_dayOnBench_92 : decode cX4_dayOnBench 92 = .ok (.iload_n 2, 1) := by decide +kernel
theorem dX4_dayOnBench_93 : decode cX4_dayOnBench 93 = .ok (.idiv, 1) := by decide +kernel
theorem dX4_dayOnBench_94 : decode cX4_dayOnBench 94 = .ok (.iadd, 1) := by decide +kernel
theorem dX4_dayOnBench_95 : decode cX4_dayOnBench 95 = .ok (.ireturn, 1) := by decide +kernel
theorem dX4_isEach_0 : decode cX4_isEach 0 = .ok (.iload_n 0, 1) := by decide +kernel
theorem dX4_isEach_1 : decode cX4_isEach 1 = .ok (.iconst 1, 1) := by decide +kernel
theorem dX4_isEach_2 : decode cX4_isEach 2 = .ok (.if_icmp .lt 13, 3) := by decide +kernel
theorem dX4_isEach_5 : decode cX4_isEach 5 = .ok (.iload_n 0, 1) := by decide +kernel
theorem dX4_isEach_6 : decode cX4_isEach 6 = .ok (.bipush 12, 2) := by decide +kernel
theorem dX4_isEach_8 : decode cX4_isEach 8 = .ok (.if_icmp .gt 7, 3) := by decide +kernel
theorem dX4_isEach_11 : decode cX4_isEach 11 = .ok (.iconst 1, 1) := by decide +kernel
theorem dX4_isEach_12 : decode cX4_isEach 12 = .ok (.goto 4, 3) := by decide +kernel
theorem dX4_isEach_15 : decode cX4_isEach 15 = .ok (.iconst 0, 1) := by decide +kernel
theorem dX4_isEach_16 : decode cX4_isEach 16 = .ok (.ireturn, 1) := by decide +kernel
theorem dX4_benchDay_0 : decode cX4_benchDay 0 = .ok (.aload_n 0, 1) := by decide +kernel
theorem dX4_benchDay_1 : decode cX4_benchDay 1 = .ok (.iload_n 1, 1) := by decide +kernel
theorem dX4_benchDay_2 : decode cX4_benchDay 2 = .ok (.invokevirtual 69, 3) := by decide +kernel
theorem dX4_benchDay_5 : decode cX4_benchDay 5 = .ok (.istore_n 3, 1) := by decide +kernel
theorem dX4_benchDay_6 : decode cX4_benchDay 6 = .ok (.aload_n 0, 1) := by decide +kernel
theorem dX4_benchDay_7 : decode cX4_benchDay 7 = .ok (.iload_n 3, 1) := by decide +kernel
theorem dX4_benchDay_8 : decode cX4_benchDay 8 = .ok (.ifCond .ne 7, 3) := by decide +kernel
theorem dX4_benchDay_11 : decode cX4_benchDay 11 = .ok (.iconst 1, 1) := by decide +kernel
theorem dX4_benchDay_12 : decode cX4_benchDay 12 = .ok (.goto 15, 3) := by decide +kernel
theorem dX4_benchDay_15 : decode cX4_benchDay 15 = .ok (.iload_n 2, 1) := by decide +kernel
theorem dX4_benchDay_16 : decode cX4_benchDay 16 = .ok (.invokestatic 145, 3) := by decide +kernel
theorem dX4_benchDay_19 : decode cX4_benchDay 19 = .ok (.ifCond .eq 7, 3) := by decide +kernel
theorem dX4_benchDay_22 : decode cX4_benchDay 22 = .ok (.iconst 0, 1) := by decide +kernel
theorem dX4_benchDay_23 : decode cX4_benchDay 23 = .ok (.goto 4, 3) := by decide +kernel
theorem dX4_benchDay_26 : decode cX4_benchDay 26 = .ok (.iconst 2, 1) := by decide +kernel
theorem dX4_benchDay_27 : decode cX4_benchDay 27 = .ok (.invokevirtual 73, 3) := by decide +kernel
theorem dX4_benchDay_30 : decode cX4_benchDay 30 = .ok (.ifCond .ne 5, 3) := by decide +kernel
theorem dX4_benchDay_33 : decode cX4_benchDay 33 = .ok (.iconst 0, 1) := by decide +kernel
theorem dX4_benchDay_34 : decode cX4_benchDay 34 = .ok (.ireturn, 1) := by decide +kernel
theorem dX4_benchDay_35 : decode cX4_benchDay 35 = .ok (.aload_n 0, 1) := by decide +kernel
theorem dX4_benchDay_36 : decode cX4_benchDay 36 = .ok (.iload_n 1, 1) := by decide +kernel
theorem dX4_benchDay_37 : decode cX4_benchDay 37 = .ok (.invokevirtual 83, 3) := by decide +kernel
theorem dX4_benchDay_40 : decode cX4_benchDay 40 = .ok (.ifCond .eq 12, 3) := by decide +kernel
theorem dX4_benchDay_43 : decode cX4_benchDay 43 = .ok (.aload_n 0, 1) := by decide +kernel
theorem dX4_benchDay_44 : decode cX4_benchDay 44 = .ok (.iload_n 1, 1) := by decide +kernel
theorem dX4_benchDay_45 : decode cX4_benchDay 45 = .ok (.iload_n 2, 1) := by decide +kernel
theorem dX4_benchDay_46 : decode cX4_benchDay 46 = .ok (.invokevirtual 148, 3) := by decide +kernel
theorem dX4_benchDay_49 : decode cX4_benchDay 49 = .ok (.goto 4, 3) := by decide +kernel
theorem dX4_benchDay_52 : decode cX4_benchDay 52 = .ok (.iconst (-1), 1) := by decide +kernel
theorem dX4_benchDay_53 : decode cX4_benchDay 53 = .ok (.ireturn, 1) := by decide +kernel
theorem dX4_late_0 : decode cX4_late 0 = .ok (.aload_n 0, 1) := by decide +kernel
theorem dX4_late_1 : decode cX4_late 1 = .ok (.iload_n 1, 1) := by decide +kernel
theorem dX4_late_2 : decode cX4_late 2 = .ok (.invokestatic 145, 3) := by decide +kernel
theorem dX4_late_5 : decode cX4_late 5 = .ok (.ifCond .eq 7, 3) := by decide +kernel
theorem dX4_late_8 : decode cX4_late 8 = .ok (.iconst 0, 1) := by decide +kernel
theorem dX4_late_9 : decode cX4_late 9 = .ok (.goto 4, 3) := by decide +kernel
theorem dX4_late_12 : decode cX4_late 12 = .ok (.iconst 1, 1) := by decide +kernel
theorem dX4_late_13 : decode cX4_late 13 = .ok (.invokevirtual 73, 3) := by decide +kernel
theorem dX4_late_16 : decode cX4_late 16 = .ok (.ifCond .ne 5, 3) := by decide +kernel
theorem dX4_late_19 : decode cX4_late 19 = .ok (.iconst 0, 1) := by decide +kernel
theorem dX4_late_20 : decode cX4_late 20 = .ok (.ireturn, 1) := by decide +kernel
theorem dX4_late_21 : decode cX4_late 21 = .ok (.iconst 0, 1) := by decide +kernel
theorem dX4_late_22 : decode cX4_late 22 = .ok (.istore_n 2, 1) := by decide +kernel
theorem dX4_late_23 : decode cX4_late 23 = .ok (.iconst 0, 1) := by decide +kernel
theorem dX4_late_24 : decode cX4_late 24 = .ok (.istore_n 3, 1) := by decide +kernel
theorem dX4_late_25 : decode cX4_late 25 = .ok (.iload_n 3, 1) := by decide +kernel
theorem dX4_late_26 : decode cX4_late 26 = .ok (.aload_n 0, 1) := by decide +kernel
theorem dX4_late_27 : decode cX4_late 27 = .ok (.getfield 66, 3) := by decide +kernel
theorem dX4_late_30 : decode cX4_late 30 = .ok (.if_icmp .ge 40, 3) := by decide +kernel
theorem dX4_late_33 : decode cX4_late 33 = .ok (.iload_n 2, 1) := by decide +kernel
theorem dX4_late_34 : decode cX4_late 34 = .ok (.aload_n 0, 1) := by decide +kernel
theorem dX4_late_35 : decode cX4_late 35 = .ok (.iload_n 3, 1) := by decide +kernel
theorem dX4_late_36 : decode cX4_late 36 = .ok (.invokevirtual 83, 3) := by decide +kernel
theorem dX4_late_39 : decode cX4_late 39 = .ok (.ifCond .eq 22, 3) := by decide +kernel
theorem dX4_late_42 : decode cX4_late 42 = .ok (.aload_n 0, 1) := by decide +kernel
theorem dX4_late_43 : decode cX4_late 43 = .ok (.iload_n 3, 1) := by decide +kernel
theorem dX4_late_44 : decode cX4_late 44 = .ok (.iload_n 1, 1) := by decide +kernel
theorem dX4_late_45 : decode cX4_late 45 = .ok (.invokevirtual 148, 3) := by decide +kernel
theorem dX4_late_48 : decode cX4_late 48 = .ok (.aload_n 0, 1) := by decide +kernel
theorem dX4_late_49 : decode cX4_late 49 = .ok (.getfield 31, 3) := by decide +kernel
theorem dX4_late_52 : decode cX4_late 52 = .ok (.iload_n 3, 1) := by decide +kernel
theorem dX4_late_53 : decode cX4_late 53 = .ok (.iaload, 1) := by decide +kernel
theorem dX4_late_54 : decode cX4_late 54 = .ok (.if_icmp .le 7, 3) := by decide +kernel
theorem dX4_late_57 : decode cX4_late 57 = .ok (.iconst 1, 1) := by decide +kernel
theorem dX4_late_58 : decode cX4_late 58 = .ok (.goto 4, 3) := by decide +kernel
theorem dX4_late_61 : decode cX4_late 61 = .ok (.iconst 0, 1) := by decide +kernel
theorem dX4_late_62 : decode cX4_late 62 = .ok (.iadd, 1) := by decide +kernel
theorem dX4_late_63 : decode cX4_late 63 = .ok (.istore_n 2, 1) := by decide +kernel
theorem dX4_late_64 : decode cX4_late 64 = .ok (.iinc 3 1, 3) := by decide +kernel
theorem dX4_late_67 : decode cX4_late 67 = .ok (.goto (-42), 3) := by decide +kernel
theorem dX4_late_70 : decode cX4_late 70 = .ok (.iload_n 2, 1) := by decide +kernel
theorem dX4_late_71 : decode cX4_late 71 = .ok (.ireturn, 1) := by decide +kernel
theorem dJ9_floorDiv_f86c9_0 : decode cJ9_floorDiv_f86c9 0 = .ok (.lload_n 0, 1) := by decide +kernel
theorem dJ9_floorDiv_f86c9_1 : decode cJ9_floorDiv_f86c9 1 = .ok (.lload_n 2, 1) := by decide +kernel
theorem dJ9_floorDiv_f86c9_2 : decode cJ9_floorDiv_f86c9 2 = .ok (.ldiv, 1) := by decide +kernel
theorem dJ9_floorDiv_f86c9_3 : decode cJ9_floorDiv_f86c9 3 = .ok (.lstore 4, 2) := by decide +kernel
theorem dJ9_floorDiv_f86c9_5 : decode cJ9_floorDiv_f86c9 5 = .ok (.lload_n 0, 1) := by decide +kernel
theorem dJ9_floorDiv_f86c9_6 : decode cJ9_floorDiv_f86c9 6 = .ok (.lload_n 2, 1) := by decide +kernel
theorem dJ9_floorDiv_f86c9_7 : decode cJ9_floorDiv_f86c9 7 = .ok (.lxor, 1) := by decide +kernel
theorem dJ9_floorDiv_f86c9_8 : decode cJ9_floorDiv_f86c9 8 = .ok (.lconst 0, 1) := by decide +kernel
theorem dJ9_floorDiv_f86c9_9 : decode cJ9_floorDiv_f86c9 9 = .ok (.lcmp, 1) := by decide +kernel
theorem dJ9_floorDiv_f86c9_10 : decode cJ9_floorDiv_f86c9 10 = .ok (.ifCond .ge 17, 3) := by decide +kernel
theorem dJ9_floorDiv_f86c9_13 : decode cJ9_floorDiv_f86c9 13 = .ok (.lload 4, 2) := by decide +kernel
theorem dJ9_floorDiv_f86c9_15 : decode cJ9_floorDiv_f86c9 15 = .ok (.lload_n 2, 1) := by decide +kernel
theorem dJ9_floorDiv_f86c9_16 : decode cJ9_floorDiv_f86c9 16 = .ok (.lmul, 1) := by decide +kernel
theorem dJ9_floorDiv_f86c9_17 : decode cJ9_floorDiv_f86c9 17 = .ok (.lload_n 0, 1) := by decide +kernel
theorem dJ9_floorDiv_f86c9_18 : decode cJ9_floorDiv_f86c9 18 = .ok (.lcmp, 1) := by decide +kernel
theorem dJ9_floorDiv_f86c9_19 : decode cJ9_floorDiv_f86c9 19 = .ok (.ifCond .eq 8, 3) := by decide +kernel
theorem dJ9_floorDiv_f86c9_22 : decode cJ9_floorDiv_f86c9 22 = .ok (.lload 4, 2) := by decide +kernel
theorem dJ9_floorDiv_f86c9_24 : decode cJ9_floorDiv_f86c9 24 = .ok (.lconst 1, 1) := by decide +kernel
theorem dJ9_floorDiv_f86c9_25 : decode cJ9_floorDiv_f86c9 25 = .ok (.lsub, 1) := by decide +kernel
theorem dJ9_floorDiv_f86c9_26 : decode cJ9_floorDiv_f86c9 26 = .ok (.lreturn, 1) := by decide +kernel
theorem dJ9_floorDiv_f86c9_27 : decode cJ9_floorDiv_f86c9 27 = .ok (.lload 4, 2) := by decide +kernel
theorem dJ9_floorDiv_f86c9_29 : decode cJ9_floorDiv_f86c9 29 = .ok (.lreturn, 1) := by decide +kernel
theorem dJ9_abs_0f7a4_0 : decode cJ9_abs_0f7a4 0 = .ok (.iload_n 0, 1) := by decide +kernel
theorem dJ9_abs_0f7a4_1 : decode cJ9_abs_0f7a4 1 = .ok (.ifCond .ge 8, 3) := by decide +kernel
theorem dJ9_abs_0f7a4_4 : decode cJ9_abs_0f7a4 4 = .ok (.iload_n 0, 1) := by decide +kernel
theorem dJ9_abs_0f7a4_5 : decode cJ9_abs_0f7a4 5 = .ok (.ineg, 1) := by decide +kernel
theorem dJ9_abs_0f7a4_6 : decode cJ9_abs_0f7a4 6 = .ok (.goto 4, 3) := by decide +kernel
theorem dJ9_abs_0f7a4_9 : decode cJ9_abs_0f7a4 9 = .ok (.iload_n 0, 1) := by decide +kernel
theorem dJ9_abs_0f7a4_10 : decode cJ9_abs_0f7a4 10 = .ok (.ireturn, 1) := by decide +kernel
theorem dJ9_abs_067f4_0 : decode cJ9_abs_067f4 0 = .ok (.lload_n 0, 1) := by decide +kernel
theorem dJ9_abs_067f4_1 : decode cJ9_abs_067f4 1 = .ok (.lconst 0, 1) := by decide +kernel
theorem dJ9_abs_067f4_2 : decode cJ9_abs_067f4 2 = .ok (.lcmp, 1) := by decide +kernel
theorem dJ9_abs_067f4_3 : decode cJ9_abs_067f4 3 = .ok (.ifCond .ge 8, 3) := by decide +kernel
theorem dJ9_abs_067f4_6 : decode cJ9_abs_067f4 6 = .ok (.lload_n 0, 1) := by decide +kernel
theorem dJ9_abs_067f4_7 : decode cJ9_abs_067f4 7 = .ok (.lneg, 1) := by decide +kernel
theorem dJ9_abs_067f4_8 : decode cJ9_abs_067f4 8 = .ok (.goto 4, 3) := by decide +kernel
theorem dJ9_abs_067f4_11 : decode cJ9_abs_067f4 11 = .ok (.lload_n 0, 1) := by decide +kernel
theorem dJ9_abs_067f4_12 : decode cJ9_abs_067f4 12 = .ok (.lreturn, 1) := by decide +kernel
theorem dJ9_max_7cf53_0 : decode cJ9_max_7cf53 0 = .ok (.iload_n 0, 1) := by decide +kernel
theorem dJ9_max_7cf53_1 : decode cJ9_max_7cf53 1 = .ok (.iload_n 1, 1) := by decide +kernel
theorem dJ9_max_7cf53_2 : decode cJ9_max_7cf53 2 = .ok (.if_icmp .lt 7, 3) := by decide +kernel
theorem dJ9_max_7cf53_5 : decode cJ9_max_7cf53 5 = .ok (.iload_n 0, 1) := by decide +kernel
theorem dJ9_max_7cf53_6 : decode cJ9_max_7cf53 6 = .ok (.goto 4, 3) := by decide +kernel
theorem dJ9_max_7cf53_9 : decode cJ9_max_7cf53 9 = .ok (.iload_n 1, 1) := by decide +kernel
theorem dJ9_max_7cf53_10 : decode cJ9_max_7cf53 10 = .ok (.ireturn, 1) := by decide +kernel
theorem dJ9_min_7cf53_0 : decode cJ9_min_7cf53 0 = .ok (.iload_n 0, 1) := by decide +kernel
theorem dJ9_min_7cf53_1 : decode cJ9_min_7cf53 1 = .ok (.iload_n 1, 1) := by decide +kernel
theorem dJ9_min_7cf53_2 : decode cJ9_min_7cf53 2 = .ok (.if_icmp .gt 7, 3) := by decide +kernel
theorem dJ9_min_7cf53_5 : decode cJ9_min_7cf53 5 = .ok (.iload_n 0, 1) := by decide +kernel
theorem dJ9_min_7cf53_6 : decode cJ9_min_7cf53 6 = .ok (.goto 4, 3) := by decide +kernel
theorem dJ9_min_7cf53_9 : decode cJ9_min_7cf53 9 = .ok (.iload_n 1, 1) := by decide +kernel
theorem dJ9_min_7cf53_10 : decode cJ9_min_7cf53 10 = .ok (.ireturn, 1) := by decide +kernel
theorem dL_tell_0 : decode cL_tell 0 = .ok (.aload 5, 2) := by decide +kernel
theorem dL_tell_2 : decode cL_tell 2 = .ok (.iconst 0, 1) := by decide +kernel
theorem dL_tell_3 : decode cL_tell 3 = .ok (.aload_n 0, 1) := by decide +kernel
theorem dL_tell_4 : decode cL_tell 4 = .ok (.iload_n 1, 1) := by decide +kernel
theorem dL_tell_5 : decode cL_tell 5 = .ok (.iload_n 2, 1) := by decide +kernel
theorem dL_tell_6 : decode cL_tell 6 = .ok (.iload_n 3, 1) := by decide +kernel
theorem dL_tell_7 : decode cL_tell 7 = .ok (.iload 4, 2) := by decide +kernel
theorem dL_tell_9 : decode cL_tell 9 = .ok (.invokevirtual 7, 3) := by decide +kernel
theorem dL_tell_12 : decode cL_tell 12 = .ok (.i2l, 1) := by decide +kernel
theorem dL_tell_13 : decode cL_tell 13 = .ok (.lastore, 1) := by decide +kernel
theorem dL_tell_14 : decode cL_tell 14 = .ok (.goto 15, 3) := by decide +kernel
theorem dL_tell_17 : decode cL_tell 17 = .ok (.astore 6, 2) := by decide +kernel
theorem dL_tell_19 : decode cL_tell 19 = .ok (.iconst 1, 1) := by decide +kernel
theorem dL_tell_20 : decode cL_tell 20 = .ok (.ireturn, 1) := by decide +kernel
theorem dL_tell_21 : decode cL_tell 21 = .ok (.astore 6, 2) := by decide +kernel
theorem dL_tell_23 : decode cL_tell 23 = .ok (.iconst 2, 1) := by decide +kernel
theorem dL_tell_24 : decode cL_tell 24 = .ok (.ireturn, 1) := by decide +kernel
theorem dL_tell_25 : decode cL_tell 25 = .ok (.astore 6, 2) := by decide +kernel
theorem dL_tell_27 : decode cL_tell 27 = .ok (.iconst 3, 1) := by decide +kernel
theorem dL_tell_28 : decode cL_tell 28 = .ok (.ireturn, 1) := by decide +kernel
theorem dL_tell_29 : decode cL_tell 29 = .ok (.iconst 0, 1) := by decide +kernel
theorem dL_tell_30 : decode cL_tell 30 = .ok (.ireturn, 1) := by decide +kernel
theorem dL_refer_0 : decode cL_refer 0 = .ok (.aload_n 3, 1) := by decide +kernel
theorem dL_refer_1 : decode cL_refer 1 = .ok (.iconst 0, 1) := by decide +kernel
theorem dL_refer_2 : decode cL_refer 2 = .ok (.aload_n 0, 1) := by decide +kernel
theorem dL_refer_3 : decode cL_refer 3 = .ok (.iload_n 1, 1) := by decide +kernel
theorem dL_refer_4 : decode cL_refer 4 = .ok (.iload_n 2, 1) := by decide +kernel
theorem dL_refer_5 : decode cL_refer 5 = .ok (.invokevirtual 19, 3) := by decide +kernel
theorem dL_refer_8 : decode cL_refer 8 = .ok (.i2l, 1) := by decide +kernel
theorem dL_refer_9 : decode cL_refer 9 = .ok (.lastore, 1) := by decide +kernel
theorem dL_refer_10 : decode cL_refer 10 = .ok (.goto 11, 3) := by decide +kernel
theorem dL_refer_13 : decode cL_refer 13 = .ok (.astore 4, 2) := by decide +kernel
theorem dL_refer_15 : decode cL_refer 15 = .ok (.iconst 1, 1) := by decide +kernel
theorem dL_refer_16 : decode cL_refer 16 = .ok (.ireturn, 1) := by decide +kernel
theorem dL_refer_17 : decode cL_refer 17 = .ok (.astore 4, 2) := by decide +kernel
theorem dL_refer_19 : decode cL_refer 19 = .ok (.iconst 2, 1) := by decide +kernel
theorem dL_refer_20 : decode cL_refer 20 = .ok (.ireturn, 1) := by decide +kernel
theorem dL_refer_21 : decode cL_refer 21 = .ok (.iconst 0, 1) := by decide +kernel
theorem dL_refer_22 : decode cL_refer 22 = .ok (.ireturn, 1) := by decide +kernel
theorem dL_pass_0 : decode cL_pass 0 = .ok (.aload_n 2, 1) := by decide +kernel
theorem dL_pass_1 : decode cL_pass 1 = .ok (.iconst 0, 1) := by decide +kernel
theorem dL_pass_2 : decode cL_pass 2 = .ok (.aload_n 0, 1) := by decide +kernel
theorem dL_pass_3 : decode cL_pass 3 = .ok (.iload_n 1, 1) := by decide +kernel
theorem dL_pass_4 : decode cL_pass 4 = .ok (.invokevirtual 23, 3) := by decide +kernel
theorem dL_pass_7 : decode cL_pass 7 = .ok (.i2l, 1) := by decide +kernel
theorem dL_pass_8 : decode cL_pass 8 = .ok (.lastore, 1) := by decide +kernel
theorem dL_pass_9 : decode cL_pass 9 = .ok (.goto 6, 3) := by decide +kernel
theorem dL_pass_12 : decode cL_pass 12 = .ok (.astore_n 3, 1) := by decide +kernel
theorem dL_pass_13 : decode cL_pass 13 = .ok (.iconst 1, 1) := by decide +kernel
theorem dL_pass_14 : decode cL_pass 14 = .ok (.ireturn, 1) := by decide +kernel
theorem dL_pass_15 : decode cL_pass 15 = .ok (.iconst 0, 1) := by decide +kernel
theorem dL_pass_16 : decode cL_pass 16 = .ok (.ireturn, 1) := by decide +kernel
theorem dL_calibrate_0 : decode cL_calibrate 0 = .ok (.aload 4, 2) := by decide +kernel
theorem dL_calibrate_2 : decode cL_calibrate 2 = .ok (.iconst 0, 1) := by decide +kernel
theorem dL_calibrate_3 : decode cL_calibrate 3 = .ok (.aload_n 0, 1) := by decide +kernel
theorem dL_calibrate_4 : decode cL_calibrate 4 = .ok (.iload_n 1, 1) := by decide +kernel
theorem dL_calibrate_5 : decode cL_calibrate 5 = .ok (.iload_n 2, 1) := by decide +kernel
theorem dL_calibrate_6 : decode cL_calibrate 6 = .ok (.iload_n 3, 1) := by decide +kernel
theorem dL_calibrate_7 : decode cL_calibrate 7 = .ok (.invokevirtual 27, 3) := by decide +kernel
theorem dL_calibrate_10 : decode cL_calibrate 10 = .ok (.i2l, 1) := by decide +kernel
theorem dL_calibrate_11 : decode cL_calibrate 11 = .ok (.lastore, 1) := by decide +kernel
theorem dL_calibrate_12 : decode cL_calibrate 12 = .ok (.goto 15, 3) := by decide +kernel
theorem dL_calibrate_15 : decode cL_calibrate 15 = .ok (.astore 5, 2) := by decide +kernel
theorem dL_calibrate_17 : decode cL_calibrate 17 = .ok (.iconst 1, 1) := by decide +kernel
theorem dL_calibrate_18 : decode cL_calibrate 18 = .ok (.ireturn, 1) := by decide +kernel
theorem dL_calibrate_19 : decode cL_calibrate 19 = .ok (.astore 5, 2) := by decide +kernel
theorem dL_calibrate_21 : decode cL_calibrate 21 = .ok (.iconst 2, 1) := by decide +kernel
theorem dL_calibrate_22 : decode cL_calibrate 22 = .ok (.ireturn, 1) := by decide +kernel
theorem dL_calibrate_23 : decode cL_calibrate 23 = .ok (.astore 5, 2) := by decide +kernel
theorem dL_calibrate_25 : decode cL_calibrate 25 = .ok (.iconst 3, 1) := by decide +kernel
theorem dL_calibrate_26 : decode cL_calibrate 26 = .ok (.ireturn, 1) := by decide +kernel
theorem dL_calibrate_27 : decode cL_calibrate 27 = .ok (.iconst 0, 1) := by decide +kernel
theorem dL_calibrate_28 : decode cL_calibrate 28 = .ok (.ireturn, 1) := by decide +kernel
theorem dL_measure_0 : decode cL_measure 0 = .ok (.aload_n 2, 1) := by decide +kernel
theorem dL_measure_1 : decode cL_measure 1 = .ok (.iconst 0, 1) := by decide +kernel
theorem dL_measure_2 : decode cL_measure 2 = .ok (.aload_n 0, 1) := by decide +kernel
theorem dL_measure_3 : decode cL_measure 3 = .ok (.iload_n 1, 1) := by decide +kernel
theorem dL_measure_4 : decode cL_measure 4 = .ok (.invokevirtual 31, 3) := by decide +kernel
theorem dL_measure_7 : decode cL_measure 7 = .ok (.i2l, 1) := by decide +kernel
theorem dL_measure_8 : decode cL_measure 8 = .ok (.lastore, 1) := by decide +kernel
theorem dL_measure_9 : decode cL_measure 9 = .ok (.goto 9, 3) := by decide +kernel
theorem dL_measure_12 : decode cL_measure 12 = .ok (.astore_n 3, 1) := by decide +kernel
theorem dL_measure_13 : decode cL_measure 13 = .ok (.iconst 1, 1) := by decide +kernel
theorem dL_measure_14 : decode cL_measure 14 = .ok (.ireturn, 1) := by decide +kernel
theorem dL_measure_15 : decode cL_measure 15 = .ok (.astore_n 3, 1) := by decide +kernel
theorem dL_measure_16 : decode cL_measure 16 = .ok (.iconst 2, 1) := by decide +kernel
theorem dL_measure_17 : decode cL_measure 17 = .ok (.ireturn, 1) := by decide +kernel
theorem dL_measure_18 : decode cL_measure 18 = .ok (.iconst 0, 1) := by decide +kernel
theorem dL_measure_19 : decode cL_measure 19 = .ok (.ireturn, 1) := by decide +kernel
theorem dL_intervalOf_0 : decode cL_intervalOf 0 = .ok (.aload_n 2, 1) := by decide +kernel
theorem dL_intervalOf_1 : decode cL_intervalOf 1 = .ok (.iconst 0, 1) := by decide +kernel
theorem dL_intervalOf_2 : decode cL_intervalOf 2 = .ok (.aload_n 0, 1) := by decide +kernel
theorem dL_intervalOf_3 : decode cL_intervalOf 3 = .ok (.iload_n 1, 1) := by decide +kernel
theorem dL_intervalOf_4 : decode cL_intervalOf 4 = .ok (.invokevirtual 34, 3) := by decide +kernel
theorem dL_intervalOf_7 : decode cL_intervalOf 7 = .ok (.i2l, 1) := by decide +kernel
theorem dL_intervalOf_8 : decode cL_intervalOf 8 = .ok (.lastore, 1) := by decide +kernel
theorem dL_intervalOf_9 : decode cL_intervalOf 9 = .ok (.goto 6, 3) := by decide +kernel
theorem dL_intervalOf_12 : decode cL_intervalOf 12 = .ok (.astore_n 3, 1) := by decide +kernel
theorem dL_intervalOf_13 : decode cL_intervalOf 13 = .ok (.iconst 1, 1) := by decide +kernel
theorem dL_intervalOf_14 : decode cL_intervalOf 14 = .ok (.ireturn, 1) := by decide +kernel
theorem dL_intervalOf_15 : decode cL_intervalOf 15 = .ok (.iconst 0, 1) := by decide +kernel
theorem dL_intervalOf_16 : decode cL_intervalOf 16 = .ok (.ireturn, 1) := by decide +kernel
theorem dL_dueOf_0 : decode cL_dueOf 0 = .ok (.aload_n 2, 1) := by decide +kernel
theorem dL_dueOf_1 : decode cL_dueOf 1 = .ok (.iconst 0, 1) := by decide +kernel
theorem dL_dueOf_2 : decode cL_dueOf 2 = .ok (.aload_n 0, 1) := by decide +kernel
theorem dL_dueOf_3 : decode cL_dueOf 3 = .ok (.iload_n 1, 1) := by decide +kernel
theorem dL_dueOf_4 : decode cL_dueOf 4 = .ok (.invokevirtual 37, 3) := by decide +kernel
theorem dL_dueOf_7 : decode cL_dueOf 7 = .ok (.i2l, 1) := by decide +kernel
theorem dL_dueOf_8 : decode cL_dueOf 8 = .ok (.lastore, 1) := by decide +kernel
theorem dL_dueOf_9 : decode cL_dueOf 9 = .ok (.goto 6, 3) := by decide +kernel
theorem dL_dueOf_12 : decode cL_dueOf 12 = .ok (.astore_n 3, 1) := by decide +kernel
theorem dL_dueOf_13 : decode cL_dueOf 13 = .ok (.iconst 1, 1) := by decide +kernel
theorem dL_dueOf_14 : decode cL_dueOf 14 = .ok (.ireturn, 1) := by decide +kernel
theorem dL_dueOf_15 : decode cL_dueOf 15 = .ok (.iconst 0, 1) := by decide +kernel
theorem dL_dueOf_16 : decode cL_dueOf 16 = .ok (.ireturn, 1) := by decide +kernel
theorem dL_isSuspect_0 : decode cL_isSuspect 0 = .ok (.aload_n 2, 1) := by decide +kernel
theorem dL_isSuspect_1 : decode cL_isSuspect 1 = .ok (.iconst 0, 1) := by decide +kernel
theorem dL_isSuspect_2 : decode cL_isSuspect 2 = .ok (.aload_n 0, 1) := by decide +kernel
theorem dL_isSuspect_3 : decode cL_isSuspect 3 = .ok (.iload_n 1, 1) := by decide +kernel
theorem dL_isSuspect_4 : decode cL_isSuspect 4 = .ok (.invokevirtual 40, 3) := by decide +kernel
theorem dL_isSuspect_7 : decode cL_isSuspect 7 = .ok (.ifCond .eq 7, 3) := by decide +kernel
theorem dL_isSuspect_10 : decode cL_isSuspect 10 = .ok (.lconst 1, 1) := by decide +kernel
theorem dL_isSuspect_11 : decode cL_isSuspect 11 = .ok (.goto 4, 3) := by decide +kernel
theorem dL_isSuspect_14 : decode cL_isSuspect 14 = .ok (.lconst 0, 1) := by decide +kernel
theorem dL_isSuspect_15 : decode cL_isSuspect 15 = .ok (.lastore, 1) := by decide +kernel
theorem dL_isSuspect_16 : decode cL_isSuspect 16 = .ok (.goto 6, 3) := by decide +kernel
theorem dL_isSuspect_19 : decode cL_isSuspect 19 = .ok (.astore_n 3, 1) := by decide +kernel
theorem dL_isSuspect_20 : decode cL_isSuspect 20 = .ok (.iconst 1, 1) := by decide +kernel
theorem dL_isSuspect_21 : decode cL_isSuspect 21 = .ok (.ireturn, 1) := by decide +kernel
theorem dL_isSuspect_22 : decode cL_isSuspect 22 = .ok (.iconst 0, 1) := by decide +kernel
theorem dL_isSuspect_23 : decode cL_isSuspect 23 = .ok (.ireturn, 1) := by decide +kernel
theorem dL_distrusted_0 : decode cL_distrusted 0 = .ok (.aload_n 2, 1) := by decide +kernel
theorem dL_distrusted_1 : decode cL_distrusted 1 = .ok (.iconst 0, 1) := by decide +kernel
theorem dL_distrusted_2 : decode cL_distrusted 2 = .ok (.aload_n 0, 1) := by decide +kernel
theorem dL_distrusted_3 : decode cL_distrusted 3 = .ok (.iload_n 1, 1) := by decide +kernel
theorem dL_distrusted_4 : decode cL_distrusted 4 = .ok (.invokevirtual 44, 3) := by decide +kernel
theorem dL_distrusted_7 : decode cL_distrusted 7 = .ok (.i2l, 1) := by decide +kernel
theorem dL_distrusted_8 : decode cL_distrusted 8 = .ok (.lastore, 1) := by decide +kernel
theorem dL_distrusted_9 : decode cL_distrusted 9 = .ok (.goto 6, 3) := by decide +kernel
theorem dL_distrusted_12 : decode cL_distrusted 12 = .ok (.astore_n 3, 1) := by decide +kernel
theorem dL_distrusted_13 : decode cL_distrusted 13 = .ok (.iconst 1, 1) := by decide +kernel
theorem dL_distrusted_14 : decode cL_distrusted 14 = .ok (.ireturn, 1) := by decide +kernel
theorem dL_distrusted_15 : decode cL_distrusted 15 = .ok (.iconst 0, 1) := by decide +kernel
theorem dL_distrusted_16 : decode cL_distrusted 16 = .ok (.ireturn, 1) := by decide +kernel
theorem dL_chain_0 : decode cL_chain 0 = .ok (.aload_n 2, 1) := by decide +kernel
theorem dL_chain_1 : decode cL_chain 1 = .ok (.iconst 0, 1) := by decide +kernel
theorem dL_chain_2 : decode cL_chain 2 = .ok (.aload_n 0, 1) := by decide +kernel
theorem dL_chain_3 : decode cL_chain 3 = .ok (.iload_n 1, 1) := by decide +kernel
theorem dL_chain_4 : decode cL_chain 4 = .ok (.invokevirtual 47, 3) := by decide +kernel
theorem dL_chain_7 : decode cL_chain 7 = .ok (.i2l, 1) := by decide +kernel
theorem dL_chain_8 : decode cL_chain 8 = .ok (.lastore, 1) := by decide +kernel
theorem dL_chain_9 : decode cL_chain 9 = .ok (.goto 6, 3) := by decide +kernel
theorem dL_chain_12 : decode cL_chain 12 = .ok (.astore_n 3, 1) := by decide +kernel
theorem dL_chain_13 : decode cL_chain 13 = .ok (.iconst 1, 1) := by decide +kernel
theorem dL_chain_14 : decode cL_chain 14 = .ok (.ireturn, 1) := by decide +kernel
theorem dL_chain_15 : decode cL_chain 15 = .ok (.iconst 0, 1) := by decide +kernel
theorem dL_chain_16 : decode cL_chain 16 = .ok (.ireturn, 1) := by decide +kernel
theorem dL_failures_0 : decode cL_failures 0 = .ok (.aload_n 2, 1) := by decide +kernel
theorem dL_failures_1 : decode cL_failures 1 = .ok (.iconst 0, 1) := by decide +kernel
theorem dL_failures_2 : decode cL_failures 2 = .ok (.aload_n 0, 1) := by decide +kernel
theorem dL_failures_3 : decode cL_failures 3 = .ok (.iload_n 1, 1) := by decide +kernel
theorem dL_failures_4 : decode cL_failures 4 = .ok (.invokevirtual 50, 3) := by decide +kernel
theorem dL_failures_7 : decode cL_failures 7 = .ok (.i2l, 1) := by decide +kernel
theorem dL_failures_8 : decode cL_failures 8 = .ok (.lastore, 1) := by decide +kernel
theorem dL_failures_9 : decode cL_failures 9 = .ok (.goto 6, 3) := by decide +kernel
theorem dL_failures_12 : decode cL_failures 12 = .ok (.astore_n 3, 1) := by decide +kernel
theorem dL_failures_13 : decode cL_failures 13 = .ok (.iconst 1, 1) := by decide +kernel
theorem dL_failures_14 : decode cL_failures 14 = .ok (.ireturn, 1) := by decide +kernel
theorem dL_failures_15 : decode cL_failures 15 = .ok (.iconst 0, 1) := by decide +kernel
theorem dL_failures_16 : decode cL_failures 16 = .ok (.ireturn, 1) := by decide +kernel
theorem dL_slope_0 : decode cL_slope 0 = .ok (.aload_n 2, 1) := by decide +kernel
theorem dL_slope_1 : decode cL_slope 1 = .ok (.iconst 0, 1) := by decide +kernel
theorem dL_slope_2 : decode cL_slope 2 = .ok (.aload_n 0, 1) := by decide +kernel
theorem dL_slope_3 : decode cL_slope 3 = .ok (.iload_n 1, 1) := by decide +kernel
theorem dL_slope_4 : decode cL_slope 4 = .ok (.invokevirtual 53, 3) := by decide +kernel
theorem dL_slope_7 : decode cL_slope 7 = .ok (.dastore, 1) := by decide +kernel
theorem dL_slope_8 : decode cL_slope 8 = .ok (.goto 6, 3) := by decide +kernel
theorem dL_slope_11 : decode cL_slope 11 = .ok (.astore_n 3, 1) := by decide +kernel
theorem dL_slope_12 : decode cL_slope 12 = .ok (.iconst 1, 1) := by decide +kernel
theorem dL_slope_13 : decode cL_slope 13 = .ok (.ireturn, 1) := by decide +kernel
theorem dL_slope_14 : decode cL_slope 14 = .ok (.iconst 0, 1) := by decide +kernel
theorem dL_slope_15 : decode cL_slope 15 = .ok (.ireturn, 1) := by decide +kernel
theorem dL_expected_0 : decode cL_expected 0 = .ok (.aload_n 3, 1) := by decide +kernel
theorem dL_expected_1 : decode cL_expected 1 = .ok (.iconst 0, 1) := by decide +kernel
theorem dL_expected_2 : decode cL_expected 2 = .ok (.aload_n 0, 1) := by decide +kernel
theorem dL_expected_3 : decode cL_expected 3 = .ok (.iload_n 1, 1) := by decide +kernel
theorem dL_expected_4 : decode cL_expected 4 = .ok (.iload_n 2, 1) := by decide +kernel
theorem dL_expected_5 : decode cL_expected 5 = .ok (.invokevirtual 57, 3) := by decide +kernel
theorem dL_expected_8 : decode cL_expected 8 = .ok (.lastore, 1) := by decide +kernel
theorem dL_expected_9 : decode cL_expected 9 = .ok (.goto 15, 3) := by decide +kernel
theorem dL_expected_12 : decode cL_expected 12 = .ok (.astore 4, 2) := by decide +kernel
theorem dL_expected_14 : decode cL_expected 14 = .ok (.iconst 1, 1) := by decide +kernel
theorem dL_expected_15 : decode cL_expected 15 = .ok (.ireturn, 1) := by decide +kernel
theorem dL_expected_16 : decode cL_expected 16 = .ok (.astore 4, 2) := by decide +kernel
theorem dL_expected_18 : decode cL_expected 18 = .ok (.iconst 2, 1) := by decide +kernel
theorem dL_expected_19 : decode cL_expected 19 = .ok (.ireturn, 1) := by decide +kernel
theorem dL_expected_20 : decode cL_expected 20 = .ok (.astore 4, 2) := by decide +kernel
theorem dL_expected_22 : decode cL_expected 22 = .ok (.iconst 3, 1) := by decide +kernel
theorem dL_expected_23 : decode cL_expected 23 = .ok (.ireturn, 1) := by decide +kernel
theorem dL_expected_24 : decode cL_expected 24 = .ok (.iconst 0, 1) := by decide +kernel
theorem dL_expected_25 : decode cL_expected 25 = .ok (.ireturn, 1) := by decide +kernel
theorem dL_driftsOut_0 : decode cL_driftsOut 0 = .ok (.aload_n 2, 1) := by decide +kernel
theorem dL_driftsOut_1 : decode cL_driftsOut 1 = .ok (.iconst 0, 1) := by decide +kernel
theorem dL_driftsOut_2 : decode cL_driftsOut 2 = .ok (.aload_n 0, 1) := by decide +kernel
theorem dL_driftsOut_3 : decode cL_driftsOut 3 = .ok (.iload_n 1, 1) := by decide +kernel
theorem dL_driftsOut_4 : decode cL_driftsOut 4 = .ok (.invokevirtual 61, 3) := by decide +kernel
theorem dL_driftsOut_7 : decode cL_driftsOut 7 = .ok (.i2l, 1) := by decide +kernel
theorem dL_driftsOut_8 : decode cL_driftsOut 8 = .ok (.lastore, 1) := by decide +kernel
theorem dL_driftsOut_9 : decode cL_driftsOut 9 = .ok (.goto 6, 3) := by decide +kernel
theorem dL_driftsOut_12 : decode cL_driftsOut 12 = .ok (.astore_n 3, 1) := by decide +kernel
theorem dL_driftsOut_13 : decode cL_driftsOut 13 = .ok (.iconst 1, 1) := by decide +kernel
theorem dL_driftsOut_14 : decode cL_driftsOut 14 = .ok (.ireturn, 1) := by decide +kernel
theorem dL_driftsOut_15 : decode cL_driftsOut 15 = .ok (.iconst 0, 1) := by decide +kernel
theorem dL_driftsOut_16 : decode cL_driftsOut 16 = .ok (.ireturn, 1) := by decide +kernel
theorem dL_uncertainty_0 : decode cL_uncertainty 0 = .ok (.aload_n 2, 1) := by decide +kernel
theorem dL_uncertainty_1 : decode cL_uncertainty 1 = .ok (.iconst 0, 1) := by decide +kernel
theorem dL_uncertainty_2 : decode cL_uncertainty 2 = .ok (.aload_n 0, 1) := by decide +kernel
theorem dL_uncertainty_3 : decode cL_uncertainty 3 = .ok (.iload_n 1, 1) := by decide +kernel
theorem dL_uncertainty_4 : decode cL_uncertainty 4 = .ok (.invokevirtual 64, 3) := by decide +kernel
theorem dL_uncertainty_7 : decode cL_uncertainty 7 = .ok (.i2l, 1) := by decide +kernel
theorem dL_uncertainty_8 : decode cL_uncertainty 8 = .ok (.lastore, 1) := by decide +kernel
theorem dL_uncertainty_9 : decode cL_uncertainty 9 = .ok (.goto 6, 3) := by decide +kernel
theorem dL_uncertainty_12 : decode cL_uncertainty 12 = .ok (.astore_n 3, 1) := by decide +kernel
theorem dL_uncertainty_13 : decode cL_uncertainty 13 = .ok (.iconst 1, 1) := by decide +kernel
theorem dL_uncertainty_14 : decode cL_uncertainty 14 = .ok (.ireturn, 1) := by decide +kernel
theorem dL_uncertainty_15 : decode cL_uncertainty 15 = .ok (.iconst 0, 1) := by decide +kernel
theorem dL_uncertainty_16 : decode cL_uncertainty 16 = .ok (.ireturn, 1) := by decide +kernel
theorem dL_limit_0 : decode cL_limit 0 = .ok (.aload_n 2, 1) := by decide +kernel
theorem dL_limit_1 : decode cL_limit 1 = .ok (.iconst 0, 1) := by decide +kernel
theorem dL_limit_2 : decode cL_limit 2 = .ok (.aload_n 0, 1) := by decide +kernel
theorem dL_limit_3 : decode cL_limit 3 = .ok (.iload_n 1, 1) := by decide +kernel
theorem dL_limit_4 : decode cL_limit 4 = .ok (.invokevirtual 67, 3) := by decide +kernel
theorem dL_limit_7 : decode cL_limit 7 = .ok (.i2l, 1) := by decide +kernel
theorem dL_limit_8 : decode cL_limit 8 = .ok (.lastore, 1) := by decide +kernel
theorem dL_limit_9 : decode cL_limit 9 = .ok (.goto 6, 3) := by decide +kernel
theorem dL_limit_12 : decode cL_limit 12 = .ok (.astore_n 3, 1) := by decide +kernel
theorem dL_limit_13 : decode cL_limit 13 = .ok (.iconst 1, 1) := by decide +kernel
theorem dL_limit_14 : decode cL_limit 14 = .ok (.ireturn, 1) := by decide +kernel
theorem dL_limit_15 : decode cL_limit 15 = .ok (.iconst 0, 1) := by decide +kernel
theorem dL_limit_16 : decode cL_limit 16 = .ok (.ireturn, 1) := by decide +kernel
theorem dL_isCalledBack_0 : decode cL_isCalledBack 0 = .ok (.aload_n 2, 1) := by decide +kernel
theorem dL_isCalledBack_1 : decode cL_isCalledBack 1 = .ok (.iconst 0, 1) := by decide +kernel
theorem dL_isCalledBack_2 : decode cL_isCalledBack 2 = .ok (.aload_n 0, 1) := by decide +kernel
theorem dL_isCalledBack_3 : decode cL_isCalledBack 3 = .ok (.iload_n 1, 1) := by decide +kernel
theorem dL_isCalledBack_4 : decode cL_isCalledBack 4 = .ok (.invokevirtual 70, 3) := by decide +kernel
theorem dL_isCalledBack_7 : decode cL_isCalledBack 7 = .ok (.ifCond .eq 7, 3) := by decide +kernel
theorem dL_isCalledBack_10 : decode cL_isCalledBack 10 = .ok (.lconst 1, 1) := by decide +kernel
theorem dL_isCalledBack_11 : decode cL_isCalledBack 11 = .ok (.goto 4, 3) := by decide +kernel
theorem dL_isCalledBack_14 : decode cL_isCalledBack 14 = .ok (.lconst 0, 1) := by decide +kernel
theorem dL_isCalledBack_15 : decode cL_isCalledBack 15 = .ok (.lastore, 1) := by decide +kernel
theorem dL_isCalledBack_16 : decode cL_isCalledBack 16 = .ok (.goto 6, 3) := by decide +kernel
theorem dL_isCalledBack_19 : decode cL_isCalledBack 19 = .ok (.astore_n 3, 1) := by decide +kernel
theorem dL_isCalledBack_20 : decode cL_isCalledBack 20 = .ok (.iconst 1, 1) := by decide +kernel
theorem dL_isCalledBack_21 : decode cL_isCalledBack 21 = .ok (.ireturn, 1) := by decide +kernel
theorem dL_isCalledBack_22 : decode cL_isCalledBack 22 = .ok (.iconst 0, 1) := by decide +kernel
theorem dL_isCalledBack_23 : decode cL_isCalledBack 23 = .ok (.ireturn, 1) := by decide +kernel
theorem dL_atStake_0 : decode cL_atStake 0 = .ok (.aload_n 2, 1) := by decide +kernel
theorem dL_atStake_1 : decode cL_atStake 1 = .ok (.iconst 0, 1) := by decide +kernel
theorem dL_atStake_2 : decode cL_atStake 2 = .ok (.aload_n 0, 1) := by decide +kernel
theorem dL_atStake_3 : decode cL_atStake 3 = .ok (.iload_n 1, 1) := by decide +kernel
theorem dL_atStake_4 : decode cL_atStake 4 = .ok (.invokevirtual 73, 3) := by decide +kernel
theorem dL_atStake_7 : decode cL_atStake 7 = .ok (.i2l, 1) := by decide +kernel
theorem dL_atStake_8 : decode cL_atStake 8 = .ok (.lastore, 1) := by decide +kernel
theorem dL_atStake_9 : decode cL_atStake 9 = .ok (.goto 6, 3) := by decide +kernel
theorem dL_atStake_12 : decode cL_atStake 12 = .ok (.astore_n 3, 1) := by decide +kernel
theorem dL_atStake_13 : decode cL_atStake 13 = .ok (.iconst 1, 1) := by decide +kernel
theorem dL_atStake_14 : decode cL_atStake 14 = .ok (.ireturn, 1) := by decide +kernel
theorem dL_atStake_15 : decode cL_atStake 15 = .ok (.iconst 0, 1) := by decide +kernel
theorem dL_atStake_16 : decode cL_atStake 16 = .ok (.ireturn, 1) := by decide +kernel
theorem dL_benchDay_0 : decode cL_benchDay 0 = .ok (.aload_n 3, 1) := by decide +kernel
theorem dL_benchDay_1 : decode cL_benchDay 1 = .ok (.iconst 0, 1) := by decide +kernel
theorem dL_benchDay_2 : decode cL_benchDay 2 = .ok (.aload_n 0, 1) := by decide +kernel
theorem dL_benchDay_3 : decode cL_benchDay 3 = .ok (.iload_n 1, 1) := by decide +kernel
theorem dL_benchDay_4 : decode cL_benchDay 4 = .ok (.iload_n 2, 1) := by decide +kernel
theorem dL_benchDay_5 : decode cL_benchDay 5 = .ok (.invokevirtual 76, 3) := by decide +kernel
theorem dL_benchDay_8 : decode cL_benchDay 8 = .ok (.i2l, 1) := by decide +kernel
theorem dL_benchDay_9 : decode cL_benchDay 9 = .ok (.lastore, 1) := by decide +kernel
theorem dL_benchDay_10 : decode cL_benchDay 10 = .ok (.goto 11, 3) := by decide +kernel
theorem dL_benchDay_13 : decode cL_benchDay 13 = .ok (.astore 4, 2) := by decide +kernel
theorem dL_benchDay_15 : decode cL_benchDay 15 = .ok (.iconst 1, 1) := by decide +kernel
theorem dL_benchDay_16 : decode cL_benchDay 16 = .ok (.ireturn, 1) := by decide +kernel
theorem dL_benchDay_17 : decode cL_benchDay 17 = .ok (.astore 4, 2) := by decide +kernel
theorem dL_benchDay_19 : decode cL_benchDay 19 = .ok (.iconst 2, 1) := by decide +kernel
theorem dL_benchDay_20 : decode cL_benchDay 20 = .ok (.ireturn, 1) := by decide +kernel
theorem dL_benchDay_21 : decode cL_benchDay 21 = .ok (.iconst 0, 1) := by decide +kernel
theorem dL_benchDay_22 : decode cL_benchDay 22 = .ok (.ireturn, 1) := by decide +kernel
theorem dL_late_0 : decode cL_late 0 = .ok (.aload_n 2, 1) := by decide +kernel
theorem dL_late_1 : decode cL_late 1 = .ok (.iconst 0, 1) := by decide +kernel
theorem dL_late_2 : decode cL_late 2 = .ok (.aload_n 0, 1) := by decide +kernel
theorem dL_late_3 : decode cL_late 3 = .ok (.iload_n 1, 1) := by decide +kernel
theorem dL_late_4 : decode cL_late 4 = .ok (.invokevirtual 79, 3) := by decide +kernel
theorem dL_late_7 : decode cL_late 7 = .ok (.i2l, 1) := by decide +kernel
theorem dL_late_8 : decode cL_late 8 = .ok (.lastore, 1) := by decide +kernel
theorem dL_late_9 : decode cL_late 9 = .ok (.goto 6, 3) := by decide +kernel
theorem dL_late_12 : decode cL_late 12 = .ok (.astore_n 3, 1) := by decide +kernel
theorem dL_late_13 : decode cL_late 13 = .ok (.iconst 1, 1) := by decide +kernel
theorem dL_late_14 : decode cL_late 14 = .ok (.ireturn, 1) := by decide +kernel
theorem dL_late_15 : decode cL_late 15 = .ok (.iconst 0, 1) := by decide +kernel
theorem dL_late_16 : decode cL_late 16 = .ok (.ireturn, 1) := by decide +kernel
theorem dL_law_0 : decode cL_law 0 = .ok (.new 8, 3) := by decide +kernel
theorem dL_law_3 : decode cL_law 3 = .ok (.dup, 1) := by decide +kernel
theorem dL_law_4 : decode cL_law 4 = .ok (.invokespecial 82, 3) := by decide +kernel
theorem dL_law_7 : decode cL_law 7 = .ok (.astore_n 1, 1) := by decide +kernel
theorem dL_law_8 : decode cL_law 8 = .ok (.new 83, 3) := by decide +kernel
theorem dL_law_11 : decode cL_law 11 = .ok (.dup, 1) := by decide +kernel
theorem dL_law_12 : decode cL_law 12 = .ok (.invokespecial 85, 3) := by decide +kernel
theorem dL_law_15 : decode cL_law 15 = .ok (.astore_n 2, 1) := by decide +kernel
theorem dL_law_16 : decode cL_law 16 = .ok (.iconst 1, 1) := by decide +kernel
theorem dL_law_17 : decode cL_law 17 = .ok (.newarray .long, 2) := by decide +kernel
theorem dL_law_19 : decode cL_law 19 = .ok (.astore_n 3, 1) := by decide +kernel
theorem dL_law_20 : decode cL_law 20 = .ok (.iconst 1, 1) := by decide +kernel
theorem dL_law_21 : decode cL_law 21 = .ok (.newarray .double, 2) := by decide +kernel
theorem dL_law_23 : decode cL_law 23 = .ok (.astore 4, 2) := by decide +kernel
theorem dL_law_25 : decode cL_law 25 = .ok (.iconst 0, 1) := by decide +kernel
theorem dL_law_26 : decode cL_law 26 = .ok (.istore 5, 2) := by decide +kernel
theorem dL_law_28 : decode cL_law 28 = .ok (.iload 5, 2) := by decide +kernel
theorem dL_law_30 : decode cL_law 30 = .ok (.aload_n 0, 1) := by decide +kernel
theorem dL_law_31 : decode cL_law 31 = .ok (.arraylength, 1) := by decide +kernel
theorem dL_law_32 : decode cL_law 32 = .ok (.iconst 5, 1) := by decide +kernel
theorem dL_law_33 : decode cL_law 33 = .ok (.isub, 1) := by decide +kernel
theorem dL_law_34 : decode cL_law 34 = .ok (.if_icmp .gt 1447, 3) := by decide +kernel
theorem dL_law_37 : decode cL_law 37 = .ok (.aload_n 0, 1) := by decide +kernel
theorem dL_law_38 : decode cL_law 38 = .ok (.iload 5, 2) := by decide +kernel
theorem dL_law_40 : decode cL_law 40 = .ok (.iaload, 1) := by decide +kernel
theorem dL_law_41 : decode cL_law 41 = .ok (.bipush 31, 2) := by decide +kernel
theorem dL_law_43 : decode cL_law 43 = .ok (.iand, 1) := by decide +kernel
theorem dL_law_44 : decode cL_law 44 = .ok (.tableswitch 1431 0 24 #[116, 208, 276, 332, 345, 358, 438, 494, 550, 606, 669, 725, 781, 837, 914, 981, 1037, 1093, 1149, 1162, 1225, 1238, 1251, 1307, 1375], 116) := by decide +kernel
theorem dL_law_160 : decode cL_law 160 = .ok (.aload_n 1, 1) := by decide +kernel
theorem dL_law_161 : decode cL_law 161 = .ok (.aload_n 0, 1) := by decide +kernel
theorem dL_law_162 : decode cL_law 162 = .ok (.iload 5, 2) := by decide +kernel
theorem dL_law_164 : decode cL_law 164 = .ok (.iconst 1, 1) := by decide +kernel
theorem dL_law_165 : decode cL_law 165 = .ok (.iadd, 1) := by decide +kernel
theorem dL_law_166 : decode cL_law 166 = .ok (.iaload, 1) := by decide +kernel
theorem dL_law_167 : decode cL_law 167 = .ok (.aload_n 0, 1) := by decide +kernel
theorem dL_law_168 : decode cL_law 168 = .ok (.iload 5, 2) := by decide +kernel
theorem dL_law_170 : decode cL_law 170 = .ok (.iconst 2, 1) := by decide +kernel
theorem dL_law_171 : decode cL_law 171 = .ok (.iadd, 1) := by decide +kernel
theorem dL_law_172 : decode cL_law 172 = .ok (.iaload, 1) := by decide +kernel
theorem dL_law_173 : decode cL_law 173 = .ok (.aload_n 0, 1) := by decide +kernel
theorem dL_law_174 : decode cL_law 174 = .ok (.iload 5, 2) := by decide +kernel
theorem dL_law_176 : decode cL_law 176 = .ok (.iconst 3, 1) := by decide +kernel
theorem dL_law_177 : decode cL_law 177 = .ok (.iadd, 1) := by decide +kernel
theorem dL_law_178 : decode cL_law 178 = .ok (.iaload, 1) := by decide +kernel
theorem dL_law_179 : decode cL_law 179 = .ok (.aload_n 0, 1) := by decide +kernel
theorem dL_law_180 : decode cL_law 180 = .ok (.iload 5, 2) := by decide +kernel
theorem dL_law_182 : decode cL_law 182 = .ok (.iconst 4, 1) := by decide +kernel
theorem dL_law_183 : decode cL_law 183 = .ok (.iadd, 1) := by decide +kernel
theorem dL_law_184 : decode cL_law 184 = .ok (.iaload, 1) := by decide +kernel
theorem dL_law_185 : decode cL_law 185 = .ok (.aload_n 3, 1) := by decide +kernel
theorem dL_law_186 : decode cL_law 186 = .ok (.invokestatic 86, 3) := by decide +kernel
theorem dL_law_189 : decode cL_law 189 = .ok (.istore 6, 2) := by decide +kernel
theorem dL_law_191 : decode cL_law 191 = .ok (.aload_n 2, 1) := by decide +kernel
theorem dL_law_192 : decode cL_law 192 = .ok (.aload_n 0, 1) := by decide +kernel
theorem dL_law_193 : decode cL_law 193 = .ok (.iload 5, 2) := by decide +kernel
theorem dL_law_195 : decode cL_law 195 = .ok (.iconst 1, 1) := by decide +kernel
theorem dL_law_196 : decode cL_law 196 = .ok (.iadd, 1) := by decide +kernel
theorem dL_law_197 : decode cL_law 197 = .ok (.iaload, 1) := by decide +kernel
theorem dL_law_198 : decode cL_law 198 = .ok (.aload_n 0, 1) := by decide +kernel
theorem dL_law_199 : decode cL_law 199 = .ok (.iload 5, 2) := by decide +kernel
theorem dL_law_201 : decode cL_law 201 = .ok (.iconst 2, 1) := by decide +kernel
theorem dL_law_202 : decode cL_law 202 = .ok (.iadd, 1) := by decide +kernel
theorem dL_law_203 : decode cL_law 203 = .ok (.iaload, 1) := by decide +kernel
theorem dL_law_204 : decode cL_law 204 = .ok (.aload_n 0, 1) := by decide +kernel
theorem dL_law_205 : decode cL_law 205 = .ok (.iload 5, 2) := by decide +kernel
theorem dL_law_207 : decode cL_law 207 = .ok (.iconst 3, 1) := by decide +kernel
theorem dL_law_208 : decode cL_law 208 = .ok (.iadd, 1) := by decide +kernel
theorem dL_law_209 : decode cL_law 209 = .ok (.iaload, 1) := by decide +kernel
theorem dL_law_210 : decode cL_law 210 = .ok (.aload_n 0, 1) := by decide +kernel
theorem dL_law_211 : decode cL_law 211 = .ok (.iload 5, 2) := by decide +kernel
theorem dL_law_213 : decode cL_law 213 = .ok (.iconst 4, 1) := by decide +kernel
theorem dL_law_214 : decode cL_law 214 = .ok (.iadd, 1) := by decide +kernel
theorem dL_law_215 : decode cL_law 215 = .ok (.iaload, 1) := by decide +kernel
theorem dL_law_216 : decode cL_law 216 = .ok (.invokevirtual 91, 3) := by decide +kernel
theorem dL_law_219 : decode cL_law 219 = .ok (.istore 7, 2) := by decide +kernel
theorem dL_law_221 : decode cL_law 221 = .ok (.aload_n 2, 1) := by decide +kernel
theorem dL_law_222 : decode cL_law 222 = .ok (.invokevirtual 92, 3) := by decide +kernel
theorem dL_law_225 : decode cL_law 225 = .ok (.iload 6, 2) := by decide +kernel
theorem dL_law_227 : decode cL_law 227 = .ok (.if_icmp .eq 5, 3) := by decide +kernel
theorem dL_law_230 : decode cL_law 230 = .ok (.iconst 0, 1) := by decide +kernel
theorem dL_law_231 : decode cL_law 231 = .ok (.ireturn, 1) := by decide +kernel
theorem dL_law_232 : decode cL_law 232 = .ok (.iload 6, 2) := by decide +kernel
theorem dL_law_234 : decode cL_law 234 = .ok (.ifCond .ne 15, 3) := by decide +kernel
theorem dL_law_237 : decode cL_law 237 = .ok (.aload_n 3, 1) := by decide +kernel
theorem dL_law_238 : decode cL_law 238 = .ok (.iconst 0, 1) := by decide +kernel
theorem dL_law_239 : decode cL_law 239 = .ok (.laload, 1) := by decide +kernel
theorem dL_law_240 : decode cL_law 240 = .ok (.iload 7, 2) := by decide +kernel
theorem dL_law_242 : decode cL_law 242 = .ok (.i2l, 1) := by decide +kernel
theorem dL_law_243 : decode cL_law 243 = .ok (.lcmp, 1) := by decide +kernel
theorem dL_law_244 : decode cL_law 244 = .ok (.ifCond .eq 5, 3) := by decide +kernel
theorem dL_law_247 : decode cL_law 247 = .ok (.iconst 0, 1) := by decide +kernel
theorem dL_law_248 : decode cL_law 248 = .ok (.ireturn, 1) := by decide +kernel
theorem dL_law_249 : decode cL_law 249 = .ok (.goto 1226, 3) := by decide +kernel
theorem dL_law_252 : decode cL_law 252 = .ok (.aload_n 1, 1) := by decide +kernel
theorem dL_law_253 : decode cL_law 253 = .ok (.aload_n 0, 1) := by decide +kernel
theorem dL_law_254 : decode cL_law 254 = .ok (.iload 5, 2) := by decide +kernel
theorem dL_law_256 : decode cL_law 256 = .ok (.iconst 1, 1) := by decide +kernel
theorem dL_law_257 : decode cL_law 257 = .ok (.iadd, 1) := by decide +kernel
theorem dL_law_258 : decode cL_law 258 = .ok (.iaload, 1) := by decide +kernel
theorem dL_law_259 : decode cL_law 259 = .ok (.aload_n 0, 1) := by decide +kernel
theorem dL_law_260 : decode cL_law 260 = .ok (.iload 5, 2) := by decide +kernel
theorem dL_law_262 : decode cL_law 262 = .ok (.iconst 2, 1) := by decide +kernel
theorem dL_law_263 : decode cL_law 263 = .ok (.iadd, 1) := by decide +kernel
theorem dL_law_264 : decode cL_law 264 = .ok (.iaload, 1) := by decide +kernel
theorem dL_law_265 : decode cL_law 265 = .ok (.aload_n 3, 1) := by decide +kernel
theorem dL_law_266 : decode cL_law 266 = .ok (.invokestatic 96, 3) := by decide +kernel
theorem dL_law_269 : decode cL_law 269 = .ok (.istore 6, 2) := by decide +kernel
theorem dL_law_271 : decode cL_law 271 = .ok (.aload_n 2, 1) := by decide +kernel
theorem dL_law_272 : decode cL_law 272 = .ok (.aload_n 0, 1) := by decide +kernel
theorem dL_law_273 : decode cL_law 273 = .ok (.iload 5, 2) := by decide +kernel
theorem dL_law_275 : decode cL_law 275 = .ok (.iconst 1, 1) := by decide +kernel
theorem dL_law_276 : decode cL_law 276 = .ok (.iadd, 1) := by decide +kernel
theorem dL_law_277 : decode cL_law 277 = .ok (.iaload, 1) := by decide +kernel
theorem dL_law_278 : decode cL_law 278 = .ok (.aload_n 0, 1) := by decide +kernel
theorem dL_law_279 : decode cL_law 279 = .ok (.iload 5, 2) := by decide +kernel
theorem dL_law_281 : decode cL_law 281 = .ok (.iconst 2, 1) := by decide +kernel
theorem dL_law_282 : decode cL_law 282 = .ok (.iadd, 1) := by decide +kernel
theorem dL_law_283 : decode cL_law 283 = .ok (.iaload, 1) := by decide +kernel
theorem dL_law_284 : decode cL_law 284 = .ok (.invokevirtual 99, 3) := by decide +kernel
theorem dL_law_287 : decode cL_law 287 = .ok (.istore 7, 2) := by decide +kernel
theorem dL_law_289 : decode cL_law 289 = .ok (.aload_n 2, 1) := by decide +kernel
theorem dL_law_290 : decode cL_law 290 = .ok (.invokevirtual 92, 3) := by decide +kernel
theorem dL_law_293 : decode cL_law 293 = .ok (.iload 6, 2) := by decide +kernel
theorem dL_law_295 : decode cL_law 295 = .ok (.if_icmp .eq 5, 3) := by decide +kernel
theorem dL_law_298 : decode cL_law 298 = .ok (.iconst 0, 1) := by decide +kernel
theorem dL_law_299 : decode cL_law 299 = .ok (.ireturn, 1) := by decide +kernel
theorem dL_law_300 : decode cL_law 300 = .ok (.iload 6, 2) := by decide +kernel
theorem dL_law_302 : decode cL_law 302 = .ok (.ifCond .ne 15, 3) := by decide +kernel
theorem dL_law_305 : decode cL_law 305 = .ok (.aload_n 3, 1) := by decide +kernel
theorem dL_law_306 : decode cL_law 306 = .ok (.iconst 0, 1) := by decide +kernel
theorem dL_law_307 : decode cL_law 307 = .ok (.laload, 1) := by decide +kernel
theorem dL_law_308 : decode cL_law 308 = .ok (.iload 7, 2) := by decide +kernel
theorem dL_law_310 : decode cL_law 310 = .ok (.i2l, 1) := by decide +kernel
theorem dL_law_311 : decode cL_law 311 = .ok (.lcmp, 1) := by decide +kernel
theorem dL_law_312 : decode cL_law 312 = .ok (.ifCond .eq 5, 3) := by decide +kernel
theorem dL_law_315 : decode cL_law 315 = .ok (.iconst 0, 1) := by decide +kernel
theorem dL_law_316 : decode cL_law 316 = .ok (.ireturn, 1) := by decide +kernel
theorem dL_law_317 : decode cL_law 317 = .ok (.goto 1158, 3) := by decide +kernel
theorem dL_law_320 : decode cL_law 320 = .ok (.aload_n 1, 1) := by decide +kernel
theorem dL_law_321 : decode cL_law 321 = .ok (.aload_n 0, 1) := by decide +kernel
theorem dL_law_322 : decode cL_law 322 = .ok (.iload 5, 2) := by decide +kernel
theorem dL_law_324 : decode cL_law 324 = .ok (.iconst 1, 1) := by decide +kernel
theorem dL_law_325 : decode cL_law 325 = .ok (.iadd, 1) := by decide +kernel
theorem dL_law_326 : decode cL_law 326 = .ok (.iaload, 1) := by decide +kernel
theorem dL_law_327 : decode cL_law 327 = .ok (.aload_n 3, 1) := by decide +kernel
theorem dL_law_328 : decode cL_law 328 = .ok (.invokestatic 100, 3) := by decide +kernel
theorem dL_law_331 : decode cL_law 331 = .ok (.istore 6, 2) := by decide +kernel
theorem dL_law_333 : decode cL_law 333 = .ok (.aload_n 2, 1) := by decide +kernel
theorem dL_law_334 : decode cL_law 334 = .ok (.aload_n 0, 1) := by decide +kernel
theorem dL_law_335 : decode cL_law 335 = .ok (.iload 5, 2) := by decide +kernel
theorem dL_law_337 : decode cL_law 337 = .ok (.iconst 1, 1) := by decide +kernel
theorem dL_law_338 : decode cL_law 338 = .ok (.iadd, 1) := by decide +kernel
theorem dL_law_339 : decode cL_law 339 = .ok (.iaload, 1) := by decide +kernel
theorem dL_law_340 : decode cL_law 340 = .ok (.invokevirtual 103, 3) := by decide +kernel
theorem dL_law_343 : decode cL_law 343 = .ok (.istore 7, 2) := by decide +kernel
theorem dL_law_345 : decode cL_law 345 = .ok (.aload_n 2, 1) := by decide +kernel
theorem dL_law_346 : decode cL_law 346 = .ok (.invokevirtual 92, 3) := by decide +kernel
theorem dL_law_349 : decode cL_law 349 = .ok (.iload 6, 2) := by decide +kernel
theorem dL_law_351 : decode cL_law 351 = .ok (.if_icmp .eq 5, 3) := by decide +kernel
theorem dL_law_354 : decode cL_law 354 = .ok (.iconst 0, 1) := by decide +kernel
theorem dL_law_355 : decode cL_law 355 = .ok (.ireturn, 1) := by decide +kernel
theorem dL_law_356 : decode cL_law 356 = .ok (.iload 6, 2) := by decide +kernel
theorem dL_law_358 : decode cL_law 358 = .ok (.ifCond .ne 15, 3) := by decide +kernel
theorem dL_law_361 : decode cL_law 361 = .ok (.aload_n 3, 1) := by decide +kernel
theorem dL_law_362 : decode cL_law 362 = .ok (.iconst 0, 1) := by decide +kernel
theorem dL_law_363 : decode cL_law 363 = .ok (.laload, 1) := by decide +kernel
theorem dL_law_364 : decode cL_law 364 = .ok (.iload 7, 2) := by decide +kernel
theorem dL_law_366 : decode cL_law 366 = .ok (.i2l, 1) := by decide +kernel
theorem dL_law_367 : decode cL_law 367 = .ok (.lcmp, 1) := by decide +kernel
theorem dL_law_368 : decode cL_law 368 = .ok (.ifCond .eq 5, 3) := by decide +kernel
theorem dL_law_371 : decode cL_law 371 = .ok (.iconst 0, 1) := by decide +kernel
theorem dL_law_372 : decode cL_law 372 = .ok (.ireturn, 1) := by decide +kernel
theorem dL_law_373 : decode cL_law 373 = .ok (.goto 1102, 3) := by decide +kernel
theorem dL_law_376 : decode cL_law 376 = .ok (.aload_n 1, 1) := by decide +kernel
theorem dL_law_377 : decode cL_law 377 = .ok (.invokevirtual 104, 3) := by decide +kernel
theorem dL_law_380 : decode cL_law 380 = .ok (.aload_n 2, 1) := by decide +kernel
theorem dL_law_381 : decode cL_law 381 = .ok (.invokevirtual 107, 3) := by decide +kernel
theorem dL_law_384 : decode cL_law 384 = .ok (.if_icmp .eq 1091, 3) := by decide +kernel
theorem dL_law_387 : decode cL_law 387 = .ok (.iconst 0, 1) := by decide +kernel
theorem dL_law_388 : decode cL_law 388 = .ok (.ireturn, 1) := by decide +kernel
theorem dL_law_389 : decode cL_law 389 = .ok (.aload_n 1, 1) := by decide +kernel
theorem dL_law_390 : decode cL_law 390 = .ok (.invokevirtual 108, 3) := by decide +kernel
theorem dL_law_393 : decode cL_law 393 = .ok (.aload_n 2, 1) := by decide +kernel
theorem dL_law_394 : decode cL_law 394 = .ok (.invokevirtual 111, 3) := by decide +kernel
theorem dL_law_397 : decode cL_law 397 = .ok (.if_icmp .eq 1078, 3) := by decide +kernel
theorem dL_law_400 : decode cL_law 400 = .ok (.iconst 0, 1) := by decide +kernel
theorem dL_law_401 : decode cL_law 401 = .ok (.ireturn, 1) := by decide +kernel
theorem dL_law_402 : decode cL_law 402 = .ok (.aload_n 1, 1) := by decide +kernel
theorem dL_law_403 : decode cL_law 403 = .ok (.aload_n 0, 1) := by decide +kernel
theorem dL_law_404 : decode cL_law 404 = .ok (.iload 5, 2) := by decide +kernel
theorem dL_law_406 : decode cL_law 406 = .ok (.iconst 1, 1) := by decide +kernel
theorem dL_law_407 : decode cL_law 407 = .ok (.iadd, 1) := by decide +kernel
theorem dL_law_408 : decode cL_law 408 = .ok (.iaload, 1) := by decide +kernel
theorem dL_law_409 : decode cL_law 409 = .ok (.aload_n 0, 1) := by decide +kernel
theorem dL_law_410 : decode cL_law 410 = .ok (.iload 5, 2) := by decide +kernel
theorem dL_law_412 : decode cL_law 412 = .ok (.iconst 2, 1) := by decide +kernel
theorem dL_law_413 : decode cL_law 413 = .ok (.iadd, 1) := by decide +kernel
theorem dL_law_414 : decode cL_law 414 = .ok (.iaload, 1) := by decide +kernel
theorem dL_law_415 : decode cL_law 415 = .ok (.aload_n 0, 1) := by decide +kernel
theorem dL_law_416 : decode cL_law 416 = .ok (.iload 5, 2) := by decide +kernel
theorem dL_law_418 : decode cL_law 418 = .ok (.iconst 3, 1) := by decide +kernel
theorem dL_law_419 : decode cL_law 419 = .ok (.iadd, 1) := by decide +kernel
theorem dL_law_420 : decode cL_law 420 = .ok (.iaload, 1) := by decide +kernel
theorem dL_law_421 : decode cL_law 421 = .ok (.aload_n 3, 1) := by decide +kernel
theorem dL_law_422 : decode cL_law 422 = .ok (.invokestatic 112, 3) := by decide +kernel
theorem dL_law_425 : decode cL_law 425 = .ok (.istore 6, 2) := by decide +kernel
theorem dL_law_427 : decode cL_law 427 = .ok (.aload_n 2, 1) := by decide +kernel
theorem dL_law_428 : decode cL_law 428 = .ok (.aload_n 0, 1) := by decide +kernel
theorem dL_law_429 : decode cL_law 429 = .ok (.iload 5, 2) := by decide +kernel
theorem dL_law_431 : decode cL_law 431 = .ok (.iconst 1, 1) := by decide +kernel
theorem dL_law_432 : decode cL_law 432 = .ok (.iadd, 1) := by decide +kernel
theorem dL_law_433 : decode cL_law 433 = .ok (.iaload, 1) := by decide +kernel
theorem dL_law_434 : decode cL_law 434 = .ok (.aload_n 0, 1) := by decide +kernel
theorem dL_law_435 : decode cL_law 435 = .ok (.iload 5, 2) := by decide +kernel
theorem dL_law_437 : decode cL_law 437 = .ok (.iconst 2, 1) := by decide +kernel
theorem dL_law_438 : decode cL_law 438 = .ok (.iadd, 1) := by decide +kernel
theorem dL_law_439 : decode cL_law 439 = .ok (.iaload, 1) := by decide +kernel
theorem dL_law_440 : decode cL_law 440 = .ok (.aload_n 0, 1) := by decide +kernel
theorem dL_law_441 : decode cL_law 441 = .ok (.iload 5, 2) := by decide +kernel
theorem dL_law_443 : decode cL_law 443 = .ok (.iconst 3, 1) := by decide +kernel
theorem dL_law_444 : decode cL_law 444 = .ok (.iadd, 1) := by decide +kernel
theorem dL_law_445 : decode cL_law 445 = .ok (.iaload, 1) := by decide +kernel
theorem dL_law_446 : decode cL_law 446 = .ok (.invokevirtual 115, 3) := by decide +kernel
theorem dL_law_449 : decode cL_law 449 = .ok (.istore 7, 2) := by decide +kernel
theorem dL_law_451 : decode cL_law 451 = .ok (.aload_n 2, 1) := by decide +kernel
theorem dL_law_452 : decode cL_law 452 = .ok (.invokevirtual 92, 3) := by decide +kernel
theorem dL_law_455 : decode cL_law 455 = .ok (.iload 6, 2) := by decide +kernel
theorem dL_law_457 : decode cL_law 457 = .ok (.if_icmp .eq 5, 3) := by decide +kernel
theorem dL_law_460 : decode cL_law 460 = .ok (.iconst 0, 1) := by decide +kernel
theorem dL_law_461 : decode cL_law 461 = .ok (.ireturn, 1) := by decide +kernel
theorem dL_law_462 : decode cL_law 462 = .ok (.iload 6, 2) := by decide +kernel
theorem dL_law_464 : decode cL_law 464 = .ok (.ifCond .ne 15, 3) := by decide +kernel
theorem dL_law_467 : decode cL_law 467 = .ok (.aload_n 3, 1) := by decide +kernel
theorem dL_law_468 : decode cL_law 468 = .ok (.iconst 0, 1) := by decide +kernel
theorem dL_law_469 : decode cL_law 469 = .ok (.laload, 1) := by decide +kernel
theorem dL_law_470 : decode cL_law 470 = .ok (.iload 7, 2) := by decide +kernel
theorem dL_law_472 : decode cL_law 472 = .ok (.i2l, 1) := by decide +kernel
theorem dL_law_473 : decode cL_law 473 = .ok (.lcmp, 1) := by decide +kernel
theorem dL_law_474 : decode cL_law 474 = .ok (.ifCond .eq 5, 3) := by decide +kernel
theorem dL_law_477 : decode cL_law 477 = .ok (.iconst 0, 1) := by decide +kernel
theorem dL_law_478 : decode cL_law 478 = .ok (.ireturn, 1) := by decide +kernel
theorem dL_law_479 : decode cL_law 479 = .ok (.goto 996, 3) := by decide +kernel
theorem dL_law_482 : decode cL_law 482 = .ok (.aload_n 1, 1) := by decide +kernel
theorem dL_law_483 : decode cL_law 483 = .ok (.aload_n 0, 1) := by decide +kernel
theorem dL_law_484 : decode cL_law 484 = .ok (.iload 5, 2) := by decide +kernel
theorem dL_law_486 : decode cL_law 486 = .ok (.iconst 1, 1) := by decide +kernel
theorem dL_law_487 : decode cL_law 487 = .ok (.iadd, 1) := by decide +kernel
theorem dL_law_488 : decode cL_law 488 = .ok (.iaload, 1) := by decide +kernel
theorem dL_law_489 : decode cL_law 489 = .ok (.aload_n 3, 1) := by decide +kernel
theorem dL_law_490 : decode cL_law 490 = .ok (.invokestatic 116, 3) := by decide +kernel
theorem dL_law_493 : decode cL_law 493 = .ok (.istore 6, 2) := by decide +kernel
theorem dL_law_495 : decode cL_law 495 = .ok (.aload_n 2, 1) := by decide +kernel
theorem dL_law_496 : decode cL_law 496 = .ok (.aload_n 0, 1) := by decide +kernel
theorem dL_law_497 : decode cL_law 497 = .ok (.iload 5, 2) := by decide +kernel
theorem dL_law_499 : decode cL_law 499 = .ok (.iconst 1, 1) := by decide +kernel
theorem dL_law_500 : decode cL_law 500 = .ok (.iadd, 1) := by decide +kernel
theorem dL_law_501 : decode cL_law 501 = .ok (.iaload, 1) := by decide +kernel
theorem dL_law_502 : decode cL_law 502 = .ok (.invokevirtual 118, 3) := by decide +kernel
theorem dL_law_505 : decode cL_law 505 = .ok (.istore 7, 2) := by decide +kernel
theorem dL_law_507 : decode cL_law 507 = .ok (.aload_n 2, 1) := by decide +kernel
theorem dL_law_508 : decode cL_law 508 = .ok (.invokevirtual 92, 3) := by decide +kernel
theorem dL_law_511 : decode cL_law 511 = .ok (.iload 6, 2) := by decide +kernel
theorem dL_law_513 : decode cL_law 513 = .ok (.if_icmp .eq 5, 3) := by decide +kernel
theorem dL_law_516 : decode cL_law 516 = .ok (.iconst 0, 1) := by decide +kernel
theorem dL_law_517 : decode cL_law 517 = .ok (.ireturn, 1) := by decide +kernel
theorem dL_law_518 : decode cL_law 518 = .ok (.iload 6, 2) := by decide +kernel
theorem dL_law_520 : decode cL_law 520 = .ok (.ifCond .ne 15, 3) := by decide +kernel
theorem dL_law_523 : decode cL_law 523 = .ok (.aload_n 3, 1) := by decide +kernel
theorem dL_law_524 : decode cL_law 524 = .ok (.iconst 0, 1) := by decide +kernel
theorem dL_law_525 : decode cL_law 525 = .ok (.laload, 1) := by decide +kernel
theorem dL_law_526 : decode cL_law 526 = .ok (.iload 7, 2) := by decide +kernel
theorem dL_law_528 : decode cL_law 528 = .ok (.i2l, 1) := by decide +kernel
theorem dL_law_529 : decode cL_law 529 = .ok (.lcmp, 1) := by decide +kernel
theorem dL_law_530 : decode cL_law 530 = .ok (.ifCond .eq 5, 3) := by decide +kernel
theorem dL_law_533 : decode cL_law 533 = .ok (.iconst 0, 1) := by decide +kernel
theorem dL_law_534 : decode cL_law 534 = .ok (.ireturn, 1) := by decide +kernel
theorem dL_law_535 : decode cL_law 535 = .ok (.goto 940, 3) := by decide +kernel
theorem dL_law_538 : decode cL_law 538 = .ok (.aload_n 1, 1) := by decide +kernel
theorem dL_law_539 : decode cL_law 539 = .ok (.aload_n 0, 1) := by decide +kernel
theorem dL_law_540 : decode cL_law 540 = .ok (.iload 5, 2) := by decide +kernel
theorem dL_law_542 : decode cL_law 542 = .ok (.iconst 1, 1) := by decide +kernel
theorem dL_law_543 : decode cL_law 543 = .ok (.iadd, 1) := by decide +kernel
theorem dL_law_544 : decode cL_law 544 = .ok (.iaload, 1) := by decide +kernel
theorem dL_law_545 : decode cL_law 545 = .ok (.aload_n 3, 1) := by decide +kernel
theorem dL_law_546 : decode cL_law 546 = .ok (.invokestatic 119, 3) := by decide +kernel
theorem dL_law_549 : decode cL_law 549 = .ok (.istore 6, 2) := by decide +kernel
theorem dL_law_551 : decode cL_law 551 = .ok (.aload_n 2, 1) := by decide +kernel
theorem dL_law_552 : decode cL_law 552 = .ok (.aload_n 0, 1) := by decide +kernel
theorem dL_law_553 : decode cL_law 553 = .ok (.iload 5, 2) := by decide +kernel
theorem dL_law_555 : decode cL_law 555 = .ok (.iconst 1, 1) := by decide +kernel
theorem dL_law_556 : decode cL_law 556 = .ok (.iadd, 1) := by decide +kernel
theorem dL_law_557 : decode cL_law 557 = .ok (.iaload, 1) := by decide +kernel
theorem dL_law_558 : decode cL_law 558 = .ok (.invokevirtual 121, 3) := by decide +kernel
theorem dL_law_561 : decode cL_law 561 = .ok (.istore 7, 2) := by decide +kernel
theorem dL_law_563 : decode cL_law 563 = .ok (.aload_n 2, 1) := by decide +kernel
theorem dL_law_564 : decode cL_law 564 = .ok (.invokevirtual 92, 3) := by decide +kernel
theorem dL_law_567 : decode cL_law 567 = .ok (.iload 6, 2) := by decide +kernel
theorem dL_law_569 : decode cL_law 569 = .ok (.if_icmp .eq 5, 3) := by decide +kernel
theorem dL_law_572 : decode cL_law 572 = .ok (.iconst 0, 1) := by decide +kernel
theorem dL_law_573 : decode cL_law 573 = .ok (.ireturn, 1) := by decide +kernel
theorem dL_law_574 : decode cL_law 574 = .ok (.iload 6, 2) := by decide +kernel
theorem dL_law_576 : decode cL_law 576 = .ok (.ifCond .ne 15, 3) := by decide +kernel
theorem dL_law_579 : decode cL_law 579 = .ok (.aload_n 3, 1) := by decide +kernel
theorem dL_law_580 : decode cL_law 580 = .ok (.iconst 0, 1) := by decide +kernel
theorem dL_law_581 : decode cL_law 581 = .ok (.laload, 1) := by decide +kernel
theorem dL_law_582 : decode cL_law 582 = .ok (.iload 7, 2) := by decide +kernel
theorem dL_law_584 : decode cL_law 584 = .ok (.i2l, 1) := by decide +kernel
theorem dL_law_585 : decode cL_law 585 = .ok (.lcmp, 1) := by decide +kernel
theorem dL_law_586 : decode cL_law 586 = .ok (.ifCond .eq 5, 3) := by decide +kernel
theorem dL_law_589 : decode cL_law 589 = .ok (.iconst 0, 1) := by decide +kernel
theorem dL_law_590 : decode cL_law 590 = .ok (.ireturn, 1) := by decide +kernel
theorem dL_law_591 : decode cL_law 591 = .ok (.goto 884, 3) := by decide +kernel
theorem dL_law_594 : decode cL_law 594 = .ok (.aload_n 1, 1) := by decide +kernel
theorem dL_law_595 : decode cL_law 595 = .ok (.aload_n 0, 1) := by decide +kernel
theorem dL_law_596 : decode cL_law 596 = .ok (.iload 5, 2) := by decide +kernel
theorem dL_law_598 : decode cL_law 598 = .ok (.iconst 1, 1) := by decide +kernel
theorem dL_law_599 : decode cL_law 599 = .ok (.iadd, 1) := by decide +kernel
theorem dL_law_600 : decode cL_law 600 = .ok (.iaload, 1) := by decide +kernel
theorem dL_law_601 : decode cL_law 601 = .ok (.aload_n 3, 1) := by decide +kernel
theorem dL_law_602 : decode cL_law 602 = .ok (.invokestatic 122, 3) := by decide +kernel
theorem dL_law_605 : decode cL_law 605 = .ok (.istore 6, 2) := by decide +kernel
theorem dL_law_607 : decode cL_law 607 = .ok (.aload_n 2, 1) := by decide +kernel
theorem dL_law_608 : decode cL_law 608 = .ok (.aload_n 0, 1) := by decide +kernel
theorem dL_law_609 : decode cL_law 609 = .ok (.iload 5, 2) := by decide +kernel
theorem dL_law_611 : decode cL_law 611 = .ok (.iconst 1, 1) := by decide +kernel
theorem dL_law_612 : decode cL_law 612 = .ok (.iadd, 1) := by decide +kernel
theorem dL_law_613 : decode cL_law 613 = .ok (.iaload, 1) := by decide +kernel
theorem dL_law_614 : decode cL_law 614 = .ok (.invokevirtual 124, 3) := by decide +kernel
theorem dL_law_617 : decode cL_law 617 = .ok (.istore 7, 2) := by decide +kernel
theorem dL_law_619 : decode cL_law 619 = .ok (.aload_n 2, 1) := by decide +kernel
theorem dL_law_620 : decode cL_law 620 = .ok (.invokevirtual 92, 3) := by decide +kernel
theorem dL_law_623 : decode cL_law 623 = .ok (.iload 6, 2) := by decide +kernel
theorem dL_law_625 : decode cL_law 625 = .ok (.if_icmp .eq 5, 3) := by decide +kernel
theorem dL_law_628 : decode cL_law 628 = .ok (.iconst 0, 1) := by decide +kernel
theorem dL_law_629 : decode cL_law 629 = .ok (.ireturn, 1) := by decide +kernel
theorem dL_law_630 : decode cL_law 630 = .ok (.iload 6, 2) := by decide +kernel
theorem dL_law_632 : decode cL_law 632 = .ok (.ifCond .ne 15, 3) := by decide +kernel
theorem dL_law_635 : decode cL_law 635 = .ok (.aload_n 3, 1) := by decide +kernel
theorem dL_law_636 : decode cL_law 636 = .ok (.iconst 0, 1) := by decide +kernel
theorem dL_law_637 : decode cL_law 637 = .ok (.laload, 1) := by decide +kernel
theorem dL_law_638 : decode cL_law 638 = .ok (.iload 7, 2) := by decide +kernel
theorem dL_law_640 : decode cL_law 640 = .ok (.i2l, 1) := by decide +kernel
theorem dL_law_641 : decode cL_law 641 = .ok (.lcmp, 1) := by decide +kernel
theorem dL_law_642 : decode cL_law 642 = .ok (.ifCond .eq 5, 3) := by decide +kernel
theorem dL_law_645 : decode cL_law 645 = .ok (.iconst 0, 1) := by decide +kernel
theorem dL_law_646 : decode cL_law 646 = .ok (.ireturn, 1) := by decide +kernel
theorem dL_law_647 : decode cL_law 647 = .ok (.goto 828, 3) := by decide +kernel
theorem dL_law_650 : decode cL_law 650 = .ok (.aload_n 1, 1) := by decide +kernel
theorem dL_law_651 : decode cL_law 651 = .ok (.aload_n 0, 1) := by decide +kernel
theorem dL_law_652 : decode cL_law 652 = .ok (.iload 5, 2) := by decide +kernel
theorem dL_law_654 : decode cL_law 654 = .ok (.iconst 1, 1) := by decide +kernel
theorem dL_law_655 : decode cL_law 655 = .ok (.iadd, 1) := by decide +kernel
theorem dL_law_656 : decode cL_law 656 = .ok (.iaload, 1) := by decide +kernel
theorem dL_law_657 : decode cL_law 657 = .ok (.aload_n 3, 1) := by decide +kernel
theorem dL_law_658 : decode cL_law 658 = .ok (.invokestatic 125, 3) := by decide +kernel
theorem dL_law_661 : decode cL_law 661 = .ok (.istore 6, 2) := by decide +kernel
theorem dL_law_663 : decode cL_law 663 = .ok (.aload_n 2, 1) := by decide +kernel
theorem dL_law_664 : decode cL_law 664 = .ok (.aload_n 0, 1) := by decide +kernel
theorem dL_law_665 : decode cL_law 665 = .ok (.iload 5, 2) := by decide +kernel
theorem dL_law_667 : decode cL_law 667 = .ok (.iconst 1, 1) := by decide +kernel
theorem dL_law_668 : decode cL_law 668 = .ok (.iadd, 1) := by decide +kernel
theorem dL_law_669 : decode cL_law 669 = .ok (.iaload, 1) := by decide +kernel
theorem dL_law_670 : decode cL_law 670 = .ok (.invokevirtual 127, 3) := by decide +kernel
theorem dL_law_673 : decode cL_law 673 = .ok (.istore 7, 2) := by decide +kernel
theorem dL_law_675 : decode cL_law 675 = .ok (.aload_n 2, 1) := by decide +kernel
theorem dL_law_676 : decode cL_law 676 = .ok (.invokevirtual 92, 3) := by decide +kernel
theorem dL_law_679 : decode cL_law 679 = .ok (.iload 6, 2) := by decide +kernel
theorem dL_law_681 : decode cL_law 681 = .ok (.if_icmp .eq 5, 3) := by decide +kernel
theorem dL_law_684 : decode cL_law 684 = .ok (.iconst 0, 1) := by decide +kernel
theorem dL_law_685 : decode cL_law 685 = .ok (.ireturn, 1) := by decide +kernel
theorem dL_law_686 : decode cL_law 686 = .ok (.iload 6, 2) := by decide +kernel
theorem dL_law_688 : decode cL_law 688 = .ok (.ifCond .ne 22, 3) := by decide +kernel
theorem dL_law_691 : decode cL_law 691 = .ok (.aload_n 3, 1) := by decide +kernel
theorem dL_law_692 : decode cL_law 692 = .ok (.iconst 0, 1) := by decide +kernel
theorem dL_law_693 : decode cL_law 693 = .ok (.laload, 1) := by decide +kernel
theorem dL_law_694 : decode cL_law 694 = .ok (.iload 7, 2) := by decide +kernel
theorem dL_law_696 : decode cL_law 696 = .ok (.ifCond .eq 7, 3) := by decide +kernel
theorem dL_law_699 : decode cL_law 699 = .ok (.lconst 1, 1) := by decide +kernel
theorem dL_law_700 : decode cL_law 700 = .ok (.goto 4, 3) := by decide +kernel
theorem dL_law_703 : decode cL_law 703 = .ok (.lconst 0, 1) := by decide +kernel
theorem dL_law_704 : decode cL_law 704 = .ok (.lcmp, 1) := by decide +kernel
theorem dL_law_705 : decode cL_law 705 = .ok (.ifCond .eq 5, 3) := by decide +kernel
theorem dL_law_708 : decode cL_law 708 = .ok (.iconst 0, 1) := by decide +kernel
theorem dL_law_709 : decode cL_law 709 = .ok (.ireturn, 1) := by decide +kernel
theorem dL_law_710 : decode cL_law 710 = .ok (.goto 765, 3) := by decide +kernel
theorem dL_law_713 : decode cL_law 713 = .ok (.aload_n 1, 1) := by decide +kernel
theorem dL_law_714 : decode cL_law 714 = .ok (.aload_n 0, 1) := by decide +kernel
theorem dL_law_715 : decode cL_law 715 = .ok (.iload 5, 2) := by decide +kernel
theorem dL_law_717 : decode cL_law 717 = .ok (.iconst 1, 1) := by decide +kernel
theorem dL_law_718 : decode cL_law 718 = .ok (.iadd, 1) := by decide +kernel
theorem dL_law_719 : decode cL_law 719 = .ok (.iaload, 1) := by decide +kernel
theorem dL_law_720 : decode cL_law 720 = .ok (.aload_n 3, 1) := by decide +kernel
theorem dL_law_721 : decode cL_law 721 = .ok (.invokestatic 128, 3) := by decide +kernel
theorem dL_law_724 : decode cL_law 724 = .ok (.istore 6, 2) := by decide +kernel
theorem dL_law_726 : decode cL_law 726 = .ok (.aload_n 2, 1) := by decide +kernel
theorem dL_law_727 : decode cL_law 727 = .ok (.aload_n 0, 1) := by decide +kernel
theorem dL_law_728 : decode cL_law 728 = .ok (.iload 5, 2) := by decide +kernel
theorem dL_law_730 : decode cL_law 730 = .ok (.iconst 1, 1) := by decide +kernel
theorem dL_law_731 : decode cL_law 731 = .ok (.iadd, 1) := by decide +kernel
theorem dL_law_732 : decode cL_law 732 = .ok (.iaload, 1) := by decide +kernel
theorem dL_law_733 : decode cL_law 733 = .ok (.invokevirtual 130, 3) := by decide +kernel
theorem dL_law_736 : decode cL_law 736 = .ok (.istore 7, 2) := by decide +kernel
theorem dL_law_738 : decode cL_law 738 = .ok (.aload_n 2, 1) := by decide +kernel
theorem dL_law_739 : decode cL_law 739 = .ok (.invokevirtual 92, 3) := by decide +kernel
theorem dL_law_742 : decode cL_law 742 = .ok (.iload 6, 2) := by decide +kernel
theorem dL_law_744 : decode cL_law 744 = .ok (.if_icmp .eq 5, 3) := by decide +kernel
theorem dL_law_747 : decode cL_law 747 = .ok (.iconst 0, 1) := by decide +kernel
theorem dL_law_748 : decode cL_law 748 = .ok (.ireturn, 1) := by decide +kernel
theorem dL_law_749 : decode cL_law 749 = .ok (.iload 6, 2) := by decide +kernel
theorem dL_law_751 : decode cL_law 751 = .ok (.ifCond .ne 15, 3) := by decide +kernel
theorem dL_law_754 : decode cL_law 754 = .ok (.aload_n 3, 1) := by decide +kernel
theorem dL_law_755 : decode cL_law 755 = .ok (.iconst 0, 1) := by decide +kernel
theorem dL_law_756 : decode cL_law 756 = .ok (.laload, 1) := by decide +kernel
theorem dL_law_757 : decode cL_law 757 = .ok (.iload 7, 2) := by decide +kernel
theorem dL_law_759 : decode cL_law 759 = .ok (.i2l, 1) := by decide +kernel
theorem dL_law_760 : decode cL_law 760 = .ok (.lcmp, 1) := by decide +kernel
theorem dL_law_761 : decode cL_law 761 = .ok (.ifCond .eq 5, 3) := by decide +kernel
theorem dL_law_764 : decode cL_law 764 = .ok (.iconst 0, 1) := by decide +kernel
theorem dL_law_765 : decode cL_law 765 = .ok (.ireturn, 1) := by decide +kernel
theorem dL_law_766 : decode cL_law 766 = .ok (.goto 709, 3) := by decide +kernel
theorem dL_law_769 : decode cL_law 769 = .ok (.aload_n 1, 1) := by decide +kernel
theorem dL_law_770 : decode cL_law 770 = .ok (.aload_n 0, 1) := by decide +kernel
theorem dL_law_771 : decode cL_law 771 = .ok (.iload 5, 2) := by decide +kernel
theorem dL_law_773 : decode cL_law 773 = .ok (.iconst 1, 1) := by decide +kernel
theorem dL_law_774 : decode cL_law 774 = .ok (.iadd, 1) := by decide +kernel
theorem dL_law_775 : decode cL_law 775 = .ok (.iaload, 1) := by decide +kernel
theorem dL_law_776 : decode cL_law 776 = .ok (.aload_n 3, 1) := by decide +kernel
theorem dL_law_777 : decode cL_law 777 = .ok (.invokestatic 131, 3) := by decide +kernel
theorem dL_law_780 : decode cL_law 780 = .ok (.istore 6, 2) := by decide +kernel
theorem dL_law_782 : decode cL_law 782 = .ok (.aload_n 2, 1) := by decide +kernel
theorem dL_law_783 : decode cL_law 783 = .ok (.aload_n 0, 1) := by decide +kernel
theorem dL_law_784 : decode cL_law 784 = .ok (.iload 5, 2) := by decide +kernel
theorem dL_law_786 : decode cL_law 786 = .ok (.iconst 1, 1) := by decide +kernel
theorem dL_law_787 : decode cL_law 787 = .ok (.iadd, 1) := by decide +kernel
theorem dL_law_788 : decode cL_law 788 = .ok (.iaload, 1) := by decide +kernel
theorem dL_law_789 : decode cL_law 789 = .ok (.invokevirtual 133, 3) := by decide +kernel
theorem dL_law_792 : decode cL_law 792 = .ok (.istore 7, 2) := by decide +kernel
theorem dL_law_794 : decode cL_law 794 = .ok (.aload_n 2, 1) := by decide +kernel
theorem dL_law_795 : decode cL_law 795 = .ok (.invokevirtual 92, 3) := by decide +kernel
theorem dL_law_798 : decode cL_law 798 = .ok (.iload 6, 2) := by decide +kernel
theorem dL_law_800 : decode cL_law 800 = .ok (.if_icmp .eq 5, 3) := by decide +kernel
theorem dL_law_803 : decode cL_law 803 = .ok (.iconst 0, 1) := by decide +kernel
theorem dL_law_804 : decode cL_law 804 = .ok (.ireturn, 1) := by decide +kernel
theorem dL_law_805 : decode cL_law 805 = .ok (.iload 6, 2) := by decide +kernel
theorem dL_law_807 : decode cL_law 807 = .ok (.ifCond .ne 15, 3) := by decide +kernel
theorem dL_law_810 : decode cL_law 810 = .ok (.aload_n 3, 1) := by decide +kernel
theorem dL_law_811 : decode cL_law 811 = .ok (.iconst 0, 1) := by decide +kernel
theorem dL_law_812 : decode cL_law 812 = .ok (.laload, 1) := by decide +kernel
theorem dL_law_813 : decode cL_law 813 = .ok (.iload 7, 2) := by decide +kernel
theorem dL_law_815 : decode cL_law 815 = .ok (.i2l, 1) := by decide +kernel
theorem dL_law_816 : decode cL_law 816 = .ok (.lcmp, 1) := by decide +kernel
theorem dL_law_817 : decode cL_law 817 = .ok (.ifCond .eq 5, 3) := by decide +kernel
theorem dL_law_820 : decode cL_law 820 = .ok (.iconst 0, 1) := by decide +kernel
theorem dL_law_821 : decode cL_law 821 = .ok (.ireturn, 1) := by decide +kernel
theorem dL_law_822 : decode cL_law 822 = .ok (.goto 653, 3) := by decide +kernel
theorem dL_law_825 : decode cL_law 825 = .ok (.aload_n 1, 1) := by decide +kernel
theorem dL_law_826 : decode cL_law 826 = .ok (.aload_n 0, 1) := by decide +kernel
theorem dL_law_827 : decode cL_law 827 = .ok (.iload 5, 2) := by decide +kernel
theorem dL_law_829 : decode cL_law 829 = .ok (.iconst 1, 1) := by decide +kernel
theorem dL_law_830 : decode cL_law 830 = .ok (.iadd, 1) := by decide +kernel
theorem dL_law_831 : decode cL_law 831 = .ok (.iaload, 1) := by decide +kernel
theorem dL_law_832 : decode cL_law 832 = .ok (.aload_n 3, 1) := by decide +kernel
theorem dL_law_833 : decode cL_law 833 = .ok (.invokestatic 134, 3) := by decide +kernel
theorem dL_law_836 : decode cL_law 836 = .ok (.istore 6, 2) := by decide +kernel
theorem dL_law_838 : decode cL_law 838 = .ok (.aload_n 2, 1) := by decide +kernel
theorem dL_law_839 : decode cL_law 839 = .ok (.aload_n 0, 1) := by decide +kernel
theorem dL_law_840 : decode cL_law 840 = .ok (.iload 5, 2) := by decide +kernel
theorem dL_law_842 : decode cL_law 842 = .ok (.iconst 1, 1) := by decide +kernel
theorem dL_law_843 : decode cL_law 843 = .ok (.iadd, 1) := by decide +kernel
theorem dL_law_844 : decode cL_law 844 = .ok (.iaload, 1) := by decide +kernel
theorem dL_law_845 : decode cL_law 845 = .ok (.invokevirtual 136, 3) := by decide +kernel
theorem dL_law_848 : decode cL_law 848 = .ok (.istore 7, 2) := by decide +kernel
theorem dL_law_850 : decode cL_law 850 = .ok (.aload_n 2, 1) := by decide +kernel
theorem dL_law_851 : decode cL_law 851 = .ok (.invokevirtual 92, 3) := by decide +kernel
theorem dL_law_854 : decode cL_law 854 = .ok (.iload 6, 2) := by decide +kernel
theorem dL_law_856 : decode cL_law 856 = .ok (.if_icmp .eq 5, 3) := by decide +kernel
theorem dL_law_859 : decode cL_law 859 = .ok (.iconst 0, 1) := by decide +kernel
theorem dL_law_860 : decode cL_law 860 = .ok (.ireturn, 1) := by decide +kernel
theorem dL_law_861 : decode cL_law 861 = .ok (.iload 6, 2) := by decide +kernel
theorem dL_law_863 : decode cL_law 863 = .ok (.ifCond .ne 15, 3) := by decide +kernel
theorem dL_law_866 : decode cL_law 866 = .ok (.aload_n 3, 1) := by decide +kernel
theorem dL_law_867 : decode cL_law 867 = .ok (.iconst 0, 1) := by decide +kernel
theorem dL_law_868 : decode cL_law 868 = .ok (.laload, 1) := by decide +kernel
theorem dL_law_869 : decode cL_law 869 = .ok (.iload 7, 2) := by decide +kernel
theorem dL_law_871 : decode cL_law 871 = .ok (.i2l, 1) := by decide +kernel
theorem dL_law_872 : decode cL_law 872 = .ok (.lcmp, 1) := by decide +kernel
theorem dL_law_873 : decode cL_law 873 = .ok (.ifCond .eq 5, 3) := by decide +kernel
theorem dL_law_876 : decode cL_law 876 = .ok (.iconst 0, 1) := by decide +kernel
theorem dL_law_877 : decode cL_law 877 = .ok (.ireturn, 1) := by decide +kernel
theorem dL_law_878 : decode cL_law 878 = .ok (.goto 597, 3) := by decide +kernel
theorem dL_law_881 : decode cL_law 881 = .ok (.aload_n 1, 1) := by decide +kernel
theorem dL_law_882 : decode cL_law 882 = .ok (.aload_n 0, 1) := by decide +kernel
theorem dL_law_883 : decode cL_law 883 = .ok (.iload 5, 2) := by decide +kernel
theorem dL_law_885 : decode cL_law 885 = .ok (.iconst 1, 1) := by decide +kernel
theorem dL_law_886 : decode cL_law 886 = .ok (.iadd, 1) := by decide +kernel
theorem dL_law_887 : decode cL_law 887 = .ok (.iaload, 1) := by decide +kernel
theorem dL_law_888 : decode cL_law 888 = .ok (.aload 4, 2) := by decide +kernel
theorem dL_law_890 : decode cL_law 890 = .ok (.invokestatic 137, 3) := by decide +kernel
theorem dL_law_893 : decode cL_law 893 = .ok (.istore 6, 2) := by decide +kernel
theorem dL_law_895 : decode cL_law 895 = .ok (.aload_n 2, 1) := by decide +kernel
theorem dL_law_896 : decode cL_law 896 = .ok (.aload_n 0, 1) := by decide +kernel
theorem dL_law_897 : decode cL_law 897 = .ok (.iload 5, 2) := by decide +kernel
theorem dL_law_899 : decode cL_law 899 = .ok (.iconst 1, 1) := by decide +kernel
theorem dL_law_900 : decode cL_law 900 = .ok (.iadd, 1) := by decide +kernel
theorem dL_law_901 : decode cL_law 901 = .ok (.iaload, 1) := by decide +kernel
theorem dL_law_902 : decode cL_law 902 = .ok (.invokevirtual 140, 3) := by decide +kernel
theorem dL_law_905 : decode cL_law 905 = .ok (.dstore 7, 2) := by decide +kernel
theorem dL_law_907 : decode cL_law 907 = .ok (.aload_n 2, 1) := by decide +kernel
theorem dL_law_908 : decode cL_law 908 = .ok (.invokevirtual 92, 3) := by decide +kernel
theorem dL_law_911 : decode cL_law 911 = .ok (.iload 6, 2) := by decide +kernel
theorem dL_law_913 : decode cL_law 913 = .ok (.if_icmp .eq 5, 3) := by decide +kernel
theorem dL_law_916 : decode cL_law 916 = .ok (.iconst 0, 1) := by decide +kernel
theorem dL_law_917 : decode cL_law 917 = .ok (.ireturn, 1) := by decide +kernel
theorem dL_law_918 : decode cL_law 918 = .ok (.iload 6, 2) := by decide +kernel
theorem dL_law_920 : decode cL_law 920 = .ok (.ifCond .ne 35, 3) := by decide +kernel
theorem dL_law_923 : decode cL_law 923 = .ok (.aload 4, 2) := by decide +kernel
theorem dL_law_925 : decode cL_law 925 = .ok (.iconst 0, 1) := by decide +kernel
theorem dL_law_926 : decode cL_law 926 = .ok (.daload, 1) := by decide +kernel
theorem dL_law_927 : decode cL_law 927 = .ok (.dload 7, 2) := by decide +kernel
theorem dL_law_929 : decode cL_law 929 = .ok (.dcmp .l, 1) := by decide +kernel
theorem dL_law_930 : decode cL_law 930 = .ok (.ifCond .eq 25, 3) := by decide +kernel
theorem dL_law_933 : decode cL_law 933 = .ok (.aload 4, 2) := by decide +kernel
theorem dL_law_935 : decode cL_law 935 = .ok (.iconst 0, 1) := by decide +kernel
theorem dL_law_936 : decode cL_law 936 = .ok (.daload, 1) := by decide +kernel
theorem dL_law_937 : decode cL_law 937 = .ok (.aload 4, 2) := by decide +kernel
theorem dL_law_939 : decode cL_law 939 = .ok (.iconst 0, 1) := by decide +kernel
theorem dL_law_940 : decode cL_law 940 = .ok (.daload, 1) := by decide +kernel
theorem dL_law_941 : decode cL_law 941 = .ok (.dcmp .l, 1) := by decide +kernel
theorem dL_law_942 : decode cL_law 942 = .ok (.ifCond .eq 11, 3) := by decide +kernel
theorem dL_law_945 : decode cL_law 945 = .ok (.dload 7, 2) := by decide +kernel
theorem dL_law_947 : decode cL_law 947 = .ok (.dload 7, 2) := by decide +kernel
theorem dL_law_949 : decode cL_law 949 = .ok (.dcmp .l, 1) := by decide +kernel
theorem dL_law_950 : decode cL_law 950 = .ok (.ifCond .ne 5, 3) := by decide +kernel
theorem dL_law_953 : decode cL_law 953 = .ok (.iconst 0, 1) := by decide +kernel
theorem dL_law_954 : decode cL_law 954 = .ok (.ireturn, 1) := by decide +kernel
theorem dL_law_955 : decode cL_law 955 = .ok (.goto 520, 3) := by decide +kernel
theorem dL_law_958 : decode cL_law 958 = .ok (.aload_n 1, 1) := by decide +kernel
theorem dL_law_959 : decode cL_law 959 = .ok (.aload_n 0, 1) := by decide +kernel
theorem dL_law_960 : decode cL_law 960 = .ok (.iload 5, 2) := by decide +kernel
theorem dL_law_962 : decode cL_law 962 = .ok (.iconst 1, 1) := by decide +kernel
theorem dL_law_963 : decode cL_law 963 = .ok (.iadd, 1) := by decide +kernel
theorem dL_law_964 : decode cL_law 964 = .ok (.iaload, 1) := by decide +kernel
theorem dL_law_965 : decode cL_law 965 = .ok (.aload_n 0, 1) := by decide +kernel
theorem dL_law_966 : decode cL_law 966 = .ok (.iload 5, 2) := by decide +kernel
theorem dL_law_968 : decode cL_law 968 = .ok (.iconst 2, 1) := by decide +kernel
theorem dL_law_969 : decode cL_law 969 = .ok (.iadd, 1) := by decide +kernel
theorem dL_law_970 : decode cL_law 970 = .ok (.iaload, 1) := by decide +kernel
theorem dL_law_971 : decode cL_law 971 = .ok (.aload_n 3, 1) := by decide +kernel
theorem dL_law_972 : decode cL_law 972 = .ok (.invokestatic 141, 3) := by decide +kernel
theorem dL_law_975 : decode cL_law 975 = .ok (.istore 6, 2) := by decide +kernel
theorem dL_law_977 : decode cL_law 977 = .ok (.aload_n 2, 1) := by decide +kernel
theorem dL_law_978 : decode cL_law 978 = .ok (.aload_n 0, 1) := by decide +kernel
theorem dL_law_979 : decode cL_law 979 = .ok (.iload 5, 2) := by decide +kernel
theorem dL_law_981 : decode cL_law 981 = .ok (.iconst 1, 1) := by decide +kernel
theorem dL_law_982 : decode cL_law 982 = .ok (.iadd, 1) := by decide +kernel
theorem dL_law_983 : decode cL_law 983 = .ok (.iaload, 1) := by decide +kernel
theorem dL_law_984 : decode cL_law 984 = .ok (.aload_n 0, 1) := by decide +kernel
theorem dL_law_985 : decode cL_law 985 = .ok (.iload 5, 2) := by decide +kernel
theorem dL_law_987 : decode cL_law 987 = .ok (.iconst 2, 1) := by decide +kernel
theorem dL_law_988 : decode cL_law 988 = .ok (.iadd, 1) := by decide +kernel
theorem dL_law_989 : decode cL_law 989 = .ok (.iaload, 1) := by decide +kernel
theorem dL_law_990 : decode cL_law 990 = .ok (.invokevirtual 143, 3) := by decide +kernel
theorem dL_law_993 : decode cL_law 993 = .ok (.lstore 7, 2) := by decide +kernel
theorem dL_law_995 : decode cL_law 995 = .ok (.aload_n 2, 1) := by decide +kernel
theorem dL_law_996 : decode cL_law 996 = .ok (.invokevirtual 92, 3) := by decide +kernel
theorem dL_law_999 : decode cL_law 999 = .ok (.iload 6, 2) := by decide +kernel
theorem dL_law_1001 : decode cL_law 1001 = .ok (.if_icmp .eq 5, 3) := by decide +kernel
theorem dL_law_1004 : decode cL_law 1004 = .ok (.iconst 0, 1) := by decide +kernel
theorem dL_law_1005 : decode cL_law 1005 = .ok (.ireturn, 1) := by decide +kernel
theorem dL_law_1006 : decode cL_law 1006 = .ok (.iload 6, 2) := by decide +kernel
theorem dL_law_1008 : decode cL_law 1008 = .ok (.ifCond .ne 14, 3) := by decide +kernel
theorem dL_law_1011 : decode cL_law 1011 = .ok (.aload_n 3, 1) := by decide +kernel
theorem dL_law_1012 : decode cL_law 1012 = .ok (.iconst 0, 1) := by decide +kernel
theorem dL_law_1013 : decode cL_law 1013 = .ok (.laload, 1) := by decide +kernel
theorem dL_law_1014 : decode cL_law 1014 = .ok (.lload 7, 2) := by decide +kernel
theorem dL_law_1016 : decode cL_law 1016 = .ok (.lcmp, 1) := by decide +kernel
theorem dL_law_1017 : decode cL_law 1017 = .ok (.ifCond .eq 5, 3) := by decide +kernel
theorem dL_law_1020 : decode cL_law 1020 = .ok (.iconst 0, 1) := by decide +kernel
theorem dL_law_1021 : decode cL_law 1021 = .ok (.ireturn, 1) := by decide +kernel
theorem dL_law_1022 : decode cL_law 1022 = .ok (.goto 453, 3) := by decide +kernel
theorem dL_law_1025 : decode cL_law 1025 = .ok (.aload_n 1, 1) := by decide +kernel
theorem dL_law_1026 : decode cL_law 1026 = .ok (.aload_n 0, 1) := by decide +kernel
theorem dL_law_1027 : decode cL_law 1027 = .ok (.iload 5, 2) := by decide +kernel
theorem dL_law_1029 : decode cL_law 1029 = .ok (.iconst 1, 1) := by decide +kernel
theorem dL_law_1030 : decode cL_law 1030 = .ok (.iadd, 1) := by decide +kernel
theorem dL_law_1031 : decode cL_law 1031 = .ok (.iaload, 1) := by decide +kernel
theorem dL_law_1032 : decode cL_law 1032 = .ok (.aload_n 3, 1) := by decide +kernel
theorem dL_law_1033 : decode cL_law 1033 = .ok (.invokestatic 144, 3) := by decide +kernel
theorem dL_law_1036 : decode cL_law 1036 = .ok (.istore 6, 2) := by decide +kernel
theorem dL_law_1038 : decode cL_law 1038 = .ok (.aload_n 2, 1) := by decide +kernel
theorem dL_law_1039 : decode cL_law 1039 = .ok (.aload_n 0, 1) := by decide +kernel
theorem dL_law_1040 : decode cL_law 1040 = .ok (.iload 5, 2) := by decide +kernel
theorem dL_law_1042 : decode cL_law 1042 = .ok (.iconst 1, 1) := by decide +kernel
theorem dL_law_1043 : decode cL_law 1043 = .ok (.iadd, 1) := by decide +kernel
theorem dL_law_1044 : decode cL_law 1044 = .ok (.iaload, 1) := by decide +kernel
theorem dL_law_1045 : decode cL_law 1045 = .ok (.invokevirtual 146, 3) := by decide +kernel
theorem dL_law_1048 : decode cL_law 1048 = .ok (.istore 7, 2) := by decide +kernel
theorem dL_law_1050 : decode cL_law 1050 = .ok (.aload_n 2, 1) := by decide +kernel
theorem dL_law_1051 : decode cL_law 1051 = .ok (.invokevirtual 92, 3) := by decide +kernel
theorem dL_law_1054 : decode cL_law 1054 = .ok (.iload 6, 2) := by decide +kernel
theorem dL_law_1056 : decode cL_law 1056 = .ok (.if_icmp .eq 5, 3) := by decide +kernel
theorem dL_law_1059 : decode cL_law 1059 = .ok (.iconst 0, 1) := by decide +kernel
theorem dL_law_1060 : decode cL_law 1060 = .ok (.ireturn, 1) := by decide +kernel
theorem dL_law_1061 : decode cL_law 1061 = .ok (.iload 6, 2) := by decide +kernel
theorem dL_law_1063 : decode cL_law 1063 = .ok (.ifCond .ne 15, 3) := by decide +kernel
theorem dL_law_1066 : decode cL_law 1066 = .ok (.aload_n 3, 1) := by decide +kernel
theorem dL_law_1067 : decode cL_law 1067 = .ok (.iconst 0, 1) := by decide +kernel
theorem dL_law_1068 : decode cL_law 1068 = .ok (.laload, 1) := by decide +kernel
theorem dL_law_1069 : decode cL_law 1069 = .ok (.iload 7, 2) := by decide +kernel
theorem dL_law_1071 : decode cL_law 1071 = .ok (.i2l, 1) := by decide +kernel
theorem dL_law_1072 : decode cL_law 1072 = .ok (.lcmp, 1) := by decide +kernel
theorem dL_law_1073 : decode cL_law 1073 = .ok (.ifCond .eq 5, 3) := by decide +kernel
theorem dL_law_1076 : decode cL_law 1076 = .ok (.iconst 0, 1) := by decide +kernel
theorem dL_law_1077 : decode cL_law 1077 = .ok (.ireturn, 1) := by decide +kernel
theorem dL_law_1078 : decode cL_law 1078 = .ok (.goto 397, 3) := by decide +kernel
theorem dL_law_1081 : decode cL_law 1081 = .ok (.aload_n 1, 1) := by decide +kernel
theorem dL_law_1082 : decode cL_law 1082 = .ok (.aload_n 0, 1) := by decide +kernel
theorem dL_law_1083 : decode cL_law 1083 = .ok (.iload 5, 2) := by decide +kernel
theorem dL_law_1085 : decode cL_law 1085 = .ok (.iconst 1, 1) := by decide +kernel
theorem dL_law_1086 : decode cL_law 1086 = .ok (.iadd, 1) := by decide +kernel
theorem dL_law_1087 : decode cL_law 1087 = .ok (.iaload, 1) := by decide +kernel
theorem dL_law_1088 : decode cL_law 1088 = .ok (.aload_n 3, 1) := by decide +kernel
theorem dL_law_1089 : decode cL_law 1089 = .ok (.invokestatic 147, 3) := by decide +kernel
theorem dL_law_1092 : decode cL_law 1092 = .ok (.istore 6, 2) := by decide +kernel
theorem dL_law_1094 : decode cL_law 1094 = .ok (.aload_n 2, 1) := by decide +kernel
theorem dL_law_1095 : decode cL_law 1095 = .ok (.aload_n 0, 1) := by decide +kernel
theorem dL_law_1096 : decode cL_law 1096 = .ok (.iload 5, 2) := by decide +kernel
theorem dL_law_1098 : decode cL_law 1098 = .ok (.iconst 1, 1) := by decide +kernel
theorem dL_law_1099 : decode cL_law 1099 = .ok (.iadd, 1) := by decide +kernel
theorem dL_law_1100 : decode cL_law 1100 = .ok (.iaload, 1) := by decide +kernel
theorem dL_law_1101 : decode cL_law 1101 = .ok (.invokevirtual 149, 3) := by decide +kernel
theorem dL_law_1104 : decode cL_law 1104 = .ok (.istore 7, 2) := by decide +kernel
theorem dL_law_1106 : decode cL_law 1106 = .ok (.aload_n 2, 1) := by decide +kernel
theorem dL_law_1107 : decode cL_law 1107 = .ok (.invokevirtual 92, 3) := by decide +kernel
theorem dL_law_1110 : decode cL_law 1110 = .ok (.iload 6, 2) := by decide +kernel
theorem dL_law_1112 : decode cL_law 1112 = .ok (.if_icmp .eq 5, 3) := by decide +kernel
theorem dL_law_1115 : decode cL_law 1115 = .ok (.iconst 0, 1) := by decide +kernel
theorem dL_law_1116 : decode cL_law 1116 = .ok (.ireturn, 1) := by decide +kernel
theorem dL_law_1117 : decode cL_law 1117 = .ok (.iload 6, 2) := by decide +kernel
theorem dL_law_1119 : decode cL_law 1119 = .ok (.ifCond .ne 15, 3) := by decide +kernel
theorem dL_law_1122 : decode cL_law 1122 = .ok (.aload_n 3, 1) := by decide +kernel
theorem dL_law_1123 : decode cL_law 1123 = .ok (.iconst 0, 1) := by decide +kernel
theorem dL_law_1124 : decode cL_law 1124 = .ok (.laload, 1) := by decide +kernel
theorem dL_law_1125 : decode cL_law 1125 = .ok (.iload 7, 2) := by decide +kernel
theorem dL_law_1127 : decode cL_law 1127 = .ok (.i2l, 1) := by decide +kernel
theorem dL_law_1128 : decode cL_law 1128 = .ok (.lcmp, 1) := by decide +kernel
theorem dL_law_1129 : decode cL_law 1129 = .ok (.ifCond .eq 5, 3) := by decide +kernel
theorem dL_law_1132 : decode cL_law 1132 = .ok (.iconst 0, 1) := by decide +kernel
theorem dL_law_1133 : decode cL_law 1133 = .ok (.ireturn, 1) := by decide +kernel
theorem dL_law_1134 : decode cL_law 1134 = .ok (.goto 341, 3) := by decide +kernel
theorem dL_law_1137 : decode cL_law 1137 = .ok (.aload_n 1, 1) := by decide +kernel
theorem dL_law_1138 : decode cL_law 1138 = .ok (.aload_n 0, 1) := by decide +kernel
theorem dL_law_1139 : decode cL_law 1139 = .ok (.iload 5, 2) := by decide +kernel
theorem dL_law_1141 : decode cL_law 1141 = .ok (.iconst 1, 1) := by decide +kernel
theorem dL_law_1142 : decode cL_law 1142 = .ok (.iadd, 1) := by decide +kernel
theorem dL_law_1143 : decode cL_law 1143 = .ok (.iaload, 1) := by decide +kernel
theorem dL_law_1144 : decode cL_law 1144 = .ok (.aload_n 3, 1) := by decide +kernel
theorem dL_law_1145 : decode cL_law 1145 = .ok (.invokestatic 150, 3) := by decide +kernel
theorem dL_law_1148 : decode cL_law 1148 = .ok (.istore 6, 2) := by decide +kernel
theorem dL_law_1150 : decode cL_law 1150 = .ok (.aload_n 2, 1) := by decide +kernel
theorem dL_law_1151 : decode cL_law 1151 = .ok (.aload_n 0, 1) := by decide +kernel
theorem dL_law_1152 : decode cL_law 1152 = .ok (.iload 5, 2) := by decide +kernel
theorem dL_law_1154 : decode cL_law 1154 = .ok (.iconst 1, 1) := by decide +kernel
theorem dL_law_1155 : decode cL_law 1155 = .ok (.iadd, 1) := by decide +kernel
theorem dL_law_1156 : decode cL_law 1156 = .ok (.iaload, 1) := by decide +kernel
theorem dL_law_1157 : decode cL_law 1157 = .ok (.invokevirtual 152, 3) := by decide +kernel
theorem dL_law_1160 : decode cL_law 1160 = .ok (.istore 7, 2) := by decide +kernel
theorem dL_law_1162 : decode cL_law 1162 = .ok (.aload_n 2, 1) := by decide +kernel
theorem dL_law_1163 : decode cL_law 1163 = .ok (.invokevirtual 92, 3) := by decide +kernel
theorem dL_law_1166 : decode cL_law 1166 = .ok (.iload 6, 2) := by decide +kernel
theorem dL_law_1168 : decode cL_law 1168 = .ok (.if_icmp .eq 5, 3) := by decide +kernel
theorem dL_law_1171 : decode cL_law 1171 = .ok (.iconst 0, 1) := by decide +kernel
theorem dL_law_1172 : decode cL_law 1172 = .ok (.ireturn, 1) := by decide +kernel
theorem dL_law_1173 : decode cL_law 1173 = .ok (.iload 6, 2) := by decide +kernel
theorem dL_law_1175 : decode cL_law 1175 = .ok (.ifCond .ne 15, 3) := by decide +kernel
theorem dL_law_1178 : decode cL_law 1178 = .ok (.aload_n 3, 1) := by decide +kernel
theorem dL_law_1179 : decode cL_law 1179 = .ok (.iconst 0, 1) := by decide +kernel
theorem dL_law_1180 : decode cL_law 1180 = .ok (.laload, 1) := by decide +kernel
theorem dL_law_1181 : decode cL_law 1181 = .ok (.iload 7, 2) := by decide +kernel
theorem dL_law_1183 : decode cL_law 1183 = .ok (.i2l, 1) := by decide +kernel
theorem dL_law_1184 : decode cL_law 1184 = .ok (.lcmp, 1) := by decide +kernel
theorem dL_law_1185 : decode cL_law 1185 = .ok (.ifCond .eq 5, 3) := by decide +kernel
theorem dL_law_1188 : decode cL_law 1188 = .ok (.iconst 0, 1) := by decide +kernel
theorem dL_law_1189 : decode cL_law 1189 = .ok (.ireturn, 1) := by decide +kernel
theorem dL_law_1190 : decode cL_law 1190 = .ok (.goto 285, 3) := by decide +kernel
theorem dL_law_1193 : decode cL_law 1193 = .ok (.aload_n 1, 1) := by decide +kernel
theorem dL_law_1194 : decode cL_law 1194 = .ok (.invokevirtual 153, 3) := by decide +kernel
theorem dL_law_1197 : decode cL_law 1197 = .ok (.aload_n 2, 1) := by decide +kernel
theorem dL_law_1198 : decode cL_law 1198 = .ok (.invokevirtual 156, 3) := by decide +kernel
theorem dL_law_1201 : decode cL_law 1201 = .ok (.if_icmp .eq 274, 3) := by decide +kernel
theorem dL_law_1204 : decode cL_law 1204 = .ok (.iconst 0, 1) := by decide +kernel
theorem dL_law_1205 : decode cL_law 1205 = .ok (.ireturn, 1) := by decide +kernel
theorem dL_law_1206 : decode cL_law 1206 = .ok (.aload_n 1, 1) := by decide +kernel
theorem dL_law_1207 : decode cL_law 1207 = .ok (.aload_n 0, 1) := by decide +kernel
theorem dL_law_1208 : decode cL_law 1208 = .ok (.iload 5, 2) := by decide +kernel
theorem dL_law_1210 : decode cL_law 1210 = .ok (.iconst 1, 1) := by decide +kernel
theorem dL_law_1211 : decode cL_law 1211 = .ok (.iadd, 1) := by decide +kernel
theorem dL_law_1212 : decode cL_law 1212 = .ok (.iaload, 1) := by decide +kernel
theorem dL_law_1213 : decode cL_law 1213 = .ok (.aload_n 3, 1) := by decide +kernel
theorem dL_law_1214 : decode cL_law 1214 = .ok (.invokestatic 157, 3) := by decide +kernel
theorem dL_law_1217 : decode cL_law 1217 = .ok (.istore 6, 2) := by decide +kernel
theorem dL_law_1219 : decode cL_law 1219 = .ok (.aload_n 2, 1) := by decide +kernel
theorem dL_law_1220 : decode cL_law 1220 = .ok (.aload_n 0, 1) := by decide +kernel
theorem dL_law_1221 : decode cL_law 1221 = .ok (.iload 5, 2) := by decide +kernel
theorem dL_law_1223 : decode cL_law 1223 = .ok (.iconst 1, 1) := by decide +kernel
theorem dL_law_1224 : decode cL_law 1224 = .ok (.iadd, 1) := by decide +kernel
theorem dL_law_1225 : decode cL_law 1225 = .ok (.iaload, 1) := by decide +kernel
theorem dL_law_1226 : decode cL_law 1226 = .ok (.invokevirtual 159, 3) := by decide +kernel
theorem dL_law_1229 : decode cL_law 1229 = .ok (.istore 7, 2) := by decide +kernel
theorem dL_law_1231 : decode cL_law 1231 = .ok (.aload_n 2, 1) := by decide +kernel
theorem dL_law_1232 : decode cL_law 1232 = .ok (.invokevirtual 92, 3) := by decide +kernel
theorem dL_law_1235 : decode cL_law 1235 = .ok (.iload 6, 2) := by decide +kernel
theorem dL_law_1237 : decode cL_law 1237 = .ok (.if_icmp .eq 5, 3) := by decide +kernel
theorem dL_law_1240 : decode cL_law 1240 = .ok (.iconst 0, 1) := by decide +kernel
theorem dL_law_1241 : decode cL_law 1241 = .ok (.ireturn, 1) := by decide +kernel
theorem dL_law_1242 : decode cL_law 1242 = .ok (.iload 6, 2) := by decide +kernel
theorem dL_law_1244 : decode cL_law 1244 = .ok (.ifCond .ne 22, 3) := by decide +kernel
theorem dL_law_1247 : decode cL_law 1247 = .ok (.aload_n 3, 1) := by decide +kernel
theorem dL_law_1248 : decode cL_law 1248 = .ok (.iconst 0, 1) := by decide +kernel
theorem dL_law_1249 : decode cL_law 1249 = .ok (.laload, 1) := by decide +kernel
theorem dL_law_1250 : decode cL_law 1250 = .ok (.iload 7, 2) := by decide +kernel
theorem dL_law_1252 : decode cL_law 1252 = .ok (.ifCond .eq 7, 3) := by decide +kernel
theorem dL_law_1255 : decode cL_law 1255 = .ok (.lconst 1, 1) := by decide +kernel
theorem dL_law_1256 : decode cL_law 1256 = .ok (.goto 4, 3) := by decide +kernel
theorem dL_law_1259 : decode cL_law 1259 = .ok (.lconst 0, 1) := by decide +kernel
theorem dL_law_1260 : decode cL_law 1260 = .ok (.lcmp, 1) := by decide +kernel
theorem dL_law_1261 : decode cL_law 1261 = .ok (.ifCond .eq 5, 3) := by decide +kernel
theorem dL_law_1264 : decode cL_law 1264 = .ok (.iconst 0, 1) := by decide +kernel
theorem dL_law_1265 : decode cL_law 1265 = .ok (.ireturn, 1) := by decide +kernel
theorem dL_law_1266 : decode cL_law 1266 = .ok (.goto 209, 3) := by decide +kernel
theorem dL_law_1269 : decode cL_law 1269 = .ok (.aload_n 1, 1) := by decide +kernel
theorem dL_law_1270 : decode cL_law 1270 = .ok (.invokevirtual 160, 3) := by decide +kernel
theorem dL_law_1273 : decode cL_law 1273 = .ok (.aload_n 2, 1) := by decide +kernel
theorem dL_law_1274 : decode cL_law 1274 = .ok (.invokevirtual 163, 3) := by decide +kernel
theorem dL_law_1277 : decode cL_law 1277 = .ok (.if_icmp .eq 198, 3) := by decide +kernel
theorem dL_law_1280 : decode cL_law 1280 = .ok (.iconst 0, 1) := by decide +kernel
theorem dL_law_1281 : decode cL_law 1281 = .ok (.ireturn, 1) := by decide +kernel
theorem dL_law_1282 : decode cL_law 1282 = .ok (.aload_n 1, 1) := by decide +kernel
theorem dL_law_1283 : decode cL_law 1283 = .ok (.invokevirtual 164, 3) := by decide +kernel
theorem dL_law_1286 : decode cL_law 1286 = .ok (.aload_n 2, 1) := by decide +kernel
theorem dL_law_1287 : decode cL_law 1287 = .ok (.invokevirtual 167, 3) := by decide +kernel
theorem dL_law_1290 : decode cL_law 1290 = .ok (.if_icmp .eq 185, 3) := by decide +kernel
theorem dL_law_1293 : decode cL_law 1293 = .ok (.iconst 0, 1) := by decide +kernel
theorem dL_law_1294 : decode cL_law 1294 = .ok (.ireturn, 1) := by decide +kernel
theorem dL_law_1295 : decode cL_law 1295 = .ok (.aload_n 1, 1) := by decide +kernel
theorem dL_law_1296 : decode cL_law 1296 = .ok (.aload_n 0, 1) := by decide +kernel
theorem dL_law_1297 : decode cL_law 1297 = .ok (.iload 5, 2) := by decide +kernel
theorem dL_law_1299 : decode cL_law 1299 = .ok (.iconst 1, 1) := by decide +kernel
theorem dL_law_1300 : decode cL_law 1300 = .ok (.iadd, 1) := by decide +kernel
theorem dL_law_1301 : decode cL_law 1301 = .ok (.iaload, 1) := by decide +kernel
theorem dL_law_1302 : decode cL_law 1302 = .ok (.aload_n 3, 1) := by decide +kernel
theorem dL_law_1303 : decode cL_law 1303 = .ok (.invokestatic 168, 3) := by decide +kernel
theorem dL_law_1306 : decode cL_law 1306 = .ok (.istore 6, 2) := by decide +kernel
theorem dL_law_1308 : decode cL_law 1308 = .ok (.aload_n 2, 1) := by decide +kernel
theorem dL_law_1309 : decode cL_law 1309 = .ok (.aload_n 0, 1) := by decide +kernel
theorem dL_law_1310 : decode cL_law 1310 = .ok (.iload 5, 2) := by decide +kernel
theorem dL_law_1312 : decode cL_law 1312 = .ok (.iconst 1, 1) := by decide +kernel
theorem dL_law_1313 : decode cL_law 1313 = .ok (.iadd, 1) := by decide +kernel
theorem dL_law_1314 : decode cL_law 1314 = .ok (.iaload, 1) := by decide +kernel
theorem dL_law_1315 : decode cL_law 1315 = .ok (.invokevirtual 170, 3) := by decide +kernel
theorem dL_law_1318 : decode cL_law 1318 = .ok (.istore 7, 2) := by decide +kernel
theorem dL_law_1320 : decode cL_law 1320 = .ok (.aload_n 2, 1) := by decide +kernel
theorem dL_law_1321 : decode cL_law 1321 = .ok (.invokevirtual 92, 3) := by decide +kernel
theorem dL_law_1324 : decode cL_law 1324 = .ok (.iload 6, 2) := by decide +kernel
theorem dL_law_1326 : decode cL_law 1326 = .ok (.if_icmp .eq 5, 3) := by decide +kernel
theorem dL_law_1329 : decode cL_law 1329 = .ok (.iconst 0, 1) := by decide +kernel
theorem dL_law_1330 : decode cL_law 1330 = .ok (.ireturn, 1) := by decide +kernel
theorem dL_law_1331 : decode cL_law 1331 = .ok (.iload 6, 2) := by decide +kernel
theorem dL_law_1333 : decode cL_law 1333 = .ok (.ifCond .ne 15, 3) := by decide +kernel
theorem dL_law_1336 : decode cL_law 1336 = .ok (.aload_n 3, 1) := by decide +kernel
theorem dL_law_1337 : decode cL_law 1337 = .ok (.iconst 0, 1) := by decide +kernel
theorem dL_law_1338 : decode cL_law 1338 = .ok (.laload, 1) := by decide +kernel
theorem dL_law_1339 : decode cL_law 1339 = .ok (.iload 7, 2) := by decide +kernel
theorem dL_law_1341 : decode cL_law 1341 = .ok (.i2l, 1) := by decide +kernel
theorem dL_law_1342 : decode cL_law 1342 = .ok (.lcmp, 1) := by decide +kernel
theorem dL_law_1343 : decode cL_law 1343 = .ok (.ifCond .eq 5, 3) := by decide +kernel
theorem dL_law_1346 : decode cL_law 1346 = .ok (.iconst 0, 1) := by decide +kernel
theorem dL_law_1347 : decode cL_law 1347 = .ok (.ireturn, 1) := by decide +kernel
theorem dL_law_1348 : decode cL_law 1348 = .ok (.goto 127, 3) := by decide +kernel
theorem dL_law_1351 : decode cL_law 1351 = .ok (.aload_n 1, 1) := by decide +kernel
theorem dL_law_1352 : decode cL_law 1352 = .ok (.aload_n 0, 1) := by decide +kernel
theorem dL_law_1353 : decode cL_law 1353 = .ok (.iload 5, 2) := by decide +kernel
theorem dL_law_1355 : decode cL_law 1355 = .ok (.iconst 1, 1) := by decide +kernel
theorem dL_law_1356 : decode cL_law 1356 = .ok (.iadd, 1) := by decide +kernel
theorem dL_law_1357 : decode cL_law 1357 = .ok (.iaload, 1) := by decide +kernel
theorem dL_law_1358 : decode cL_law 1358 = .ok (.aload_n 0, 1) := by decide +kernel
theorem dL_law_1359 : decode cL_law 1359 = .ok (.iload 5, 2) := by decide +kernel
theorem dL_law_1361 : decode cL_law 1361 = .ok (.iconst 2, 1) := by decide +kernel
theorem dL_law_1362 : decode cL_law 1362 = .ok (.iadd, 1) := by decide +kernel
theorem dL_law_1363 : decode cL_law 1363 = .ok (.iaload, 1) := by decide +kernel
theorem dL_law_1364 : decode cL_law 1364 = .ok (.aload_n 3, 1) := by decide +kernel
theorem dL_law_1365 : decode cL_law 1365 = .ok (.invokestatic 171, 3) := by decide +kernel
theorem dL_law_1368 : decode cL_law 1368 = .ok (.istore 6, 2) := by decide +kernel
theorem dL_law_1370 : decode cL_law 1370 = .ok (.aload_n 2, 1) := by decide +kernel
theorem dL_law_1371 : decode cL_law 1371 = .ok (.aload_n 0, 1) := by decide +kernel
theorem dL_law_1372 : decode cL_law 1372 = .ok (.iload 5, 2) := by decide +kernel
theorem dL_law_1374 : decode cL_law 1374 = .ok (.iconst 1, 1) := by decide +kernel
theorem dL_law_1375 : decode cL_law 1375 = .ok (.iadd, 1) := by decide +kernel
theorem dL_law_1376 : decode cL_law 1376 = .ok (.iaload, 1) := by decide +kernel
theorem dL_law_1377 : decode cL_law 1377 = .ok (.aload_n 0, 1) := by decide +kernel
theorem dL_law_1378 : decode cL_law 1378 = .ok (.iload 5, 2) := by decide +kernel
theorem dL_law_1380 : decode cL_law 1380 = .ok (.iconst 2, 1) := by decide +kernel
theorem dL_law_1381 : decode cL_law 1381 = .ok (.iadd, 1) := by decide +kernel
theorem dL_law_1382 : decode cL_law 1382 = .ok (.iaload, 1) := by decide +kernel
theorem dL_law_1383 : decode cL_law 1383 = .ok (.invokevirtual 173, 3) := by decide +kernel
theorem dL_law_1386 : decode cL_law 1386 = .ok (.istore 7, 2) := by decide +kernel
theorem dL_law_1388 : decode cL_law 1388 = .ok (.aload_n 2, 1) := by decide +kernel
theorem dL_law_1389 : decode cL_law 1389 = .ok (.invokevirtual 92, 3) := by decide +kernel
theorem dL_law_1392 : decode cL_law 1392 = .ok (.iload 6, 2) := by decide +kernel
theorem dL_law_1394 : decode cL_law 1394 = .ok (.if_icmp .eq 5, 3) := by decide +kernel
theorem dL_law_1397 : decode cL_law 1397 = .ok (.iconst 0, 1) := by decide +kernel
theorem dL_law_1398 : decode cL_law 1398 = .ok (.ireturn, 1) := by decide +kernel
theorem dL_law_1399 : decode cL_law 1399 = .ok (.iload 6, 2) := by decide +kernel
theorem dL_law_1401 : decode cL_law 1401 = .ok (.ifCond .ne 15, 3) := by decide +kernel
theorem dL_law_1404 : decode cL_law 1404 = .ok (.aload_n 3, 1) := by decide +kernel
theorem dL_law_1405 : decode cL_law 1405 = .ok (.iconst 0, 1) := by decide +kernel
theorem dL_law_1406 : decode cL_law 1406 = .ok (.laload, 1) := by decide +kernel
theorem dL_law_1407 : decode cL_law 1407 = .ok (.iload 7, 2) := by decide +kernel
theorem dL_law_1409 : decode cL_law 1409 = .ok (.i2l, 1) := by decide +kernel
theorem dL_law_1410 : decode cL_law 1410 = .ok (.lcmp, 1) := by decide +kernel
theorem dL_law_1411 : decode cL_law 1411 = .ok (.ifCond .eq 5, 3) := by decide +kernel
theorem dL_law_1414 : decode cL_law 1414 = .ok (.iconst 0, 1) := by decide +kernel
theorem dL_law_1415 : decode cL_law 1415 = .ok (.ireturn, 1) := by decide +kernel
theorem dL_law_1416 : decode cL_law 1416 = .ok (.goto 59, 3) := by decide +kernel
theorem dL_law_1419 : decode cL_law 1419 = .ok (.aload_n 1, 1) := by decide +kernel
theorem dL_law_1420 : decode cL_law 1420 = .ok (.aload_n 0, 1) := by decide +kernel
theorem dL_law_1421 : decode cL_law 1421 = .ok (.iload 5, 2) := by decide +kernel
theorem dL_law_1423 : decode cL_law 1423 = .ok (.iconst 1, 1) := by decide +kernel
theorem dL_law_1424 : decode cL_law 1424 = .ok (.iadd, 1) := by decide +kernel
theorem dL_law_1425 : decode cL_law 1425 = .ok (.iaload, 1) := by decide +kernel
theorem dL_law_1426 : decode cL_law 1426 = .ok (.aload_n 3, 1) := by decide +kernel
theorem dL_law_1427 : decode cL_law 1427 = .ok (.invokestatic 174, 3) := by decide +kernel
theorem dL_law_1430 : decode cL_law 1430 = .ok (.istore 6, 2) := by decide +kernel
theorem dL_law_1432 : decode cL_law 1432 = .ok (.aload_n 2, 1) := by decide +kernel
theorem dL_law_1433 : decode cL_law 1433 = .ok (.aload_n 0, 1) := by decide +kernel
theorem dL_law_1434 : decode cL_law 1434 = .ok (.iload 5, 2) := by decide +kernel
theorem dL_law_1436 : decode cL_law 1436 = .ok (.iconst 1, 1) := by decide +kernel
theorem dL_law_1437 : decode cL_law 1437 = .ok (.iadd, 1) := by decide +kernel
theorem dL_law_1438 : decode cL_law 1438 = .ok (.iaload, 1) := by decide +kernel
theorem dL_law_1439 : decode cL_law 1439 = .ok (.invokevirtual 176, 3) := by decide +kernel
theorem dL_law_1442 : decode cL_law 1442 = .ok (.istore 7, 2) := by decide +kernel
theorem dL_law_1444 : decode cL_law 1444 = .ok (.aload_n 2, 1) := by decide +kernel
theorem dL_law_1445 : decode cL_law 1445 = .ok (.invokevirtual 92, 3) := by decide +kernel
theorem dL_law_1448 : decode cL_law 1448 = .ok (.iload 6, 2) := by decide +kernel
theorem dL_law_1450 : decode cL_law 1450 = .ok (.if_icmp .eq 5, 3) := by decide +kernel
theorem dL_law_1453 : decode cL_law 1453 = .ok (.iconst 0, 1) := by decide +kernel
theorem dL_law_1454 : decode cL_law 1454 = .ok (.ireturn, 1) := by decide +kernel
theorem dL_law_1455 : decode cL_law 1455 = .ok (.iload 6, 2) := by decide +kernel
theorem dL_law_1457 : decode cL_law 1457 = .ok (.ifCond .ne 15, 3) := by decide +kernel
theorem dL_law_1460 : decode cL_law 1460 = .ok (.aload_n 3, 1) := by decide +kernel
theorem dL_law_1461 : decode cL_law 1461 = .ok (.iconst 0, 1) := by decide +kernel
theorem dL_law_1462 : decode cL_law 1462 = .ok (.laload, 1) := by decide +kernel
theorem dL_law_1463 : decode cL_law 1463 = .ok (.iload 7, 2) := by decide +kernel
theorem dL_law_1465 : decode cL_law 1465 = .ok (.i2l, 1) := by decide +kernel
theorem dL_law_1466 : decode cL_law 1466 = .ok (.lcmp, 1) := by decide +kernel
theorem dL_law_1467 : decode cL_law 1467 = .ok (.ifCond .eq 5, 3) := by decide +kernel
theorem dL_law_1470 : decode cL_law 1470 = .ok (.iconst 0, 1) := by decide +kernel
theorem dL_law_1471 : decode cL_law 1471 = .ok (.ireturn, 1) := by decide +kernel
theorem dL_law_1472 : decode cL_law 1472 = .ok (.goto 3, 3) := by decide +kernel
theorem dL_law_1475 : decode cL_law 1475 = .ok (.iinc 5 5, 3) := by decide +kernel
theorem dL_law_1478 : decode cL_law 1478 = .ok (.goto (-1450), 3) := by decide +kernel
theorem dL_law_1481 : decode cL_law 1481 = .ok (.iconst 1, 1) := by decide +kernel
theorem dL_law_1482 : decode cL_law 1482 = .ok (.ireturn, 1) := by decide +kernel
