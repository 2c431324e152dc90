/-! decode rows, printed by gen01.py -/
theorem d_SS_init_0 : decode c_SS_init 0 = .ok (.aload_n 0, 1) := by decide +kernel
theorem d_SS_init_1 : decode c_SS_init 1 = .ok (.invokespecial 3, 3) := by decide +kernel
theorem d_SS_init_4 : decode c_SS_init 4 = .ok (.aload_n 0, 1) := by decide +kernel
theorem d_SS_init_5 : decode c_SS_init 5 = .ok (.bipush 25, 2) := by decide +kernel
theorem d_SS_init_7 : decode c_SS_init 7 = .ok (.anewarray 9, 3) := by decide +kernel
theorem d_SS_init_10 : decode c_SS_init 10 = .ok (.putfield 11, 3) := by decide +kernel
theorem d_SS_init_13 : decode c_SS_init 13 = .ok (.aload_n 0, 1) := by decide +kernel
theorem d_SS_init_14 : decode c_SS_init 14 = .ok (.getfield 11, 3) := by decide +kernel
theorem d_SS_init_17 : decode c_SS_init 17 = .ok (.iconst 0, 1) := by decide +kernel
theorem d_SS_init_18 : decode c_SS_init 18 = .ok (.new 9, 3) := by decide +kernel
theorem d_SS_init_21 : decode c_SS_init 21 = .ok (.dup, 1) := by decide +kernel
theorem d_SS_init_22 : decode c_SS_init 22 = .ok (.iconst 0, 1) := by decide +kernel
theorem d_SS_init_23 : decode c_SS_init 23 = .ok (.bipush (-3), 2) := by decide +kernel
theorem d_SS_init_25 : decode c_SS_init 25 = .ok (.bipush (-3), 2) := by decide +kernel
theorem d_SS_init_27 : decode c_SS_init 27 = .ok (.iconst 1, 1) := by decide +kernel
theorem d_SS_init_28 : decode c_SS_init 28 = .ok (.invokespecial 15, 3) := by decide +kernel
theorem d_SS_init_31 : decode c_SS_init 31 = .ok (.aastore, 1) := by decide +kernel
theorem d_SS_init_32 : decode c_SS_init 32 = .ok (.aload_n 0, 1) := by decide +kernel
theorem d_SS_init_33 : decode c_SS_init 33 = .ok (.bipush 12, 2) := by decide +kernel
theorem d_SS_init_35 : decode c_SS_init 35 = .ok (.anewarray 18, 3) := by decide +kernel
theorem d_SS_init_38 : decode c_SS_init 38 = .ok (.putfield 20, 3) := by decide +kernel
theorem d_SS_init_41 : decode c_SS_init 41 = .ok (.aload_n 0, 1) := by decide +kernel
theorem d_SS_init_42 : decode c_SS_init 42 = .ok (.sipush 512, 3) := by decide +kernel
theorem d_SS_init_45 : decode c_SS_init 45 = .ok (.anewarray 24, 3) := by decide +kernel
theorem d_SS_init_48 : decode c_SS_init 48 = .ok (.putfield 26, 3) := by decide +kernel
theorem d_SS_init_51 : decode c_SS_init 51 = .ok (.aload_n 0, 1) := by decide +kernel
theorem d_SS_init_52 : decode c_SS_init 52 = .ok (.new 30, 3) := by decide +kernel
theorem d_SS_init_55 : decode c_SS_init 55 = .ok (.dup, 1) := by decide +kernel
theorem d_SS_init_56 : decode c_SS_init 56 = .ok (.invokespecial 32, 3) := by decide +kernel
theorem d_SS_init_59 : decode c_SS_init 59 = .ok (.putfield 33, 3) := by decide +kernel
theorem d_SS_init_62 : decode c_SS_init 62 = .ok (.return_, 1) := by decide +kernel
theorem d_Nd_init_0 : decode c_Nd_init 0 = .ok (.aload_n 0, 1) := by decide +kernel
theorem d_Nd_init_1 : decode c_Nd_init 1 = .ok (.invokespecial 3, 3) := by decide +kernel
theorem d_Nd_init_4 : decode c_Nd_init 4 = .ok (.aload_n 0, 1) := by decide +kernel
theorem d_Nd_init_5 : decode c_Nd_init 5 = .ok (.iload_n 1, 1) := by decide +kernel
theorem d_Nd_init_6 : decode c_Nd_init 6 = .ok (.putfield 9, 3) := by decide +kernel
theorem d_Nd_init_9 : decode c_Nd_init 9 = .ok (.aload_n 0, 1) := by decide +kernel
theorem d_Nd_init_10 : decode c_Nd_init 10 = .ok (.iload_n 2, 1) := by decide +kernel
theorem d_Nd_init_11 : decode c_Nd_init 11 = .ok (.putfield 15, 3) := by decide +kernel
theorem d_Nd_init_14 : decode c_Nd_init 14 = .ok (.aload_n 0, 1) := by decide +kernel
theorem d_Nd_init_15 : decode c_Nd_init 15 = .ok (.iload_n 3, 1) := by decide +kernel
theorem d_Nd_init_16 : decode c_Nd_init 16 = .ok (.putfield 18, 3) := by decide +kernel
theorem d_Nd_init_19 : decode c_Nd_init 19 = .ok (.aload_n 0, 1) := by decide +kernel
theorem d_Nd_init_20 : decode c_Nd_init 20 = .ok (.iload 4, 2) := by decide +kernel
theorem d_Nd_init_22 : decode c_Nd_init 22 = .ok (.putfield 21, 3) := by decide +kernel
theorem d_Nd_init_25 : decode c_Nd_init 25 = .ok (.aload_n 0, 1) := by decide +kernel
theorem d_Nd_init_26 : decode c_Nd_init 26 = .ok (.iload 4, 2) := by decide +kernel
theorem d_Nd_init_28 : decode c_Nd_init 28 = .ok (.ifCond .eq 7, 3) := by decide +kernel
theorem d_Nd_init_31 : decode c_Nd_init 31 = .ok (.iconst 0, 1) := by decide +kernel
theorem d_Nd_init_32 : decode c_Nd_init 32 = .ok (.goto 5, 3) := by decide +kernel
theorem d_Nd_init_35 : decode c_Nd_init 35 = .ok (.bipush 32, 2) := by decide +kernel
theorem d_Nd_init_37 : decode c_Nd_init 37 = .ok (.newarray .int, 2) := by decide +kernel
theorem d_Nd_init_39 : decode c_Nd_init 39 = .ok (.putfield 25, 3) := by decide +kernel
theorem d_Nd_init_42 : decode c_Nd_init 42 = .ok (.aload_n 0, 1) := by decide +kernel
theorem d_Nd_init_43 : decode c_Nd_init 43 = .ok (.iload 4, 2) := by decide +kernel
theorem d_Nd_init_45 : decode c_Nd_init 45 = .ok (.ifCond .eq 7, 3) := by decide +kernel
theorem d_Nd_init_48 : decode c_Nd_init 48 = .ok (.iconst 0, 1) := by decide +kernel
theorem d_Nd_init_49 : decode c_Nd_init 49 = .ok (.goto 5, 3) := by decide +kernel
theorem d_Nd_init_52 : decode c_Nd_init 52 = .ok (.bipush 8, 2) := by decide +kernel
theorem d_Nd_init_54 : decode c_Nd_init 54 = .ok (.anewarray 29, 3) := by decide +kernel
theorem d_Nd_init_57 : decode c_Nd_init 57 = .ok (.putfield 31, 3) := by decide +kernel
theorem d_Nd_init_60 : decode c_Nd_init 60 = .ok (.return_, 1) := by decide +kernel
theorem d_Lg_init_0 : decode c_Lg_init 0 = .ok (.aload_n 0, 1) := by decide +kernel
theorem d_Lg_init_1 : decode c_Lg_init 1 = .ok (.invokespecial 3, 3) := by decide +kernel
theorem d_Lg_init_4 : decode c_Lg_init 4 = .ok (.aload_n 0, 1) := by decide +kernel
theorem d_Lg_init_5 : decode c_Lg_init 5 = .ok (.bipush 6, 2) := by decide +kernel
theorem d_Lg_init_7 : decode c_Lg_init 7 = .ok (.anewarray 9, 3) := by decide +kernel
theorem d_Lg_init_10 : decode c_Lg_init 10 = .ok (.putfield 11, 3) := by decide +kernel
theorem d_Lg_init_13 : decode c_Lg_init 13 = .ok (.return_, 1) := by decide +kernel
theorem d_SS_open_0 : decode c_SS_open 0 = .ok (.iload_n 1, 1) := by decide +kernel
theorem d_SS_open_1 : decode c_SS_open 1 = .ok (.iconst 4, 1) := by decide +kernel
theorem d_SS_open_2 : decode c_SS_open 2 = .ok (.invokestatic 37, 3) := by decide +kernel
theorem d_SS_open_5 : decode c_SS_open 5 = .ok (.ifCond .eq 28, 3) := by decide +kernel
theorem d_SS_open_8 : decode c_SS_open 8 = .ok (.iload_n 2, 1) := by decide +kernel
theorem d_SS_open_9 : decode c_SS_open 9 = .ok (.iload_n 3, 1) := by decide +kernel
theorem d_SS_open_10 : decode c_SS_open 10 = .ok (.invokestatic 41, 3) := by decide +kernel
theorem d_SS_open_13 : decode c_SS_open 13 = .ok (.ifCond .eq 20, 3) := by decide +kernel
theorem d_SS_open_16 : decode c_SS_open 16 = .ok (.iload 4, 2) := by decide +kernel
theorem d_SS_open_18 : decode c_SS_open 18 = .ok (.invokestatic 44, 3) := by decide +kernel
theorem d_SS_open_21 : decode c_SS_open 21 = .ok (.ifCond .eq 12, 3) := by decide +kernel
theorem d_SS_open_24 : decode c_SS_open 24 = .ok (.iload 5, 2) := by decide +kernel
theorem d_SS_open_26 : decode c_SS_open 26 = .ok (.iconst 3, 1) := by decide +kernel
theorem d_SS_open_27 : decode c_SS_open 27 = .ok (.invokestatic 37, 3) := by decide +kernel
theorem d_SS_open_30 : decode c_SS_open 30 = .ok (.ifCond .ne 5, 3) := by decide +kernel
theorem d_SS_open_33 : decode c_SS_open 33 = .ok (.iconst (-1), 1) := by decide +kernel
theorem d_SS_open_34 : decode c_SS_open 34 = .ok (.ireturn, 1) := by decide +kernel
theorem d_SS_open_35 : decode c_SS_open 35 = .ok (.aload_n 0, 1) := by decide +kernel
theorem d_SS_open_36 : decode c_SS_open 36 = .ok (.getfield 48, 3) := by decide +kernel
theorem d_SS_open_39 : decode c_SS_open 39 = .ok (.sipush 512, 3) := by decide +kernel
theorem d_SS_open_42 : decode c_SS_open 42 = .ok (.if_icmp .lt 5, 3) := by decide +kernel
theorem d_SS_open_45 : decode c_SS_open 45 = .ok (.iconst (-1), 1) := by decide +kernel
theorem d_SS_open_46 : decode c_SS_open 46 = .ok (.ireturn, 1) := by decide +kernel
theorem d_SS_open_47 : decode c_SS_open 47 = .ok (.new 24, 3) := by decide +kernel
theorem d_SS_open_50 : decode c_SS_open 50 = .ok (.dup, 1) := by decide +kernel
theorem d_SS_open_51 : decode c_SS_open 51 = .ok (.iload_n 1, 1) := by decide +kernel
theorem d_SS_open_52 : decode c_SS_open 52 = .ok (.iload_n 2, 1) := by decide +kernel
theorem d_SS_open_53 : decode c_SS_open 53 = .ok (.iload_n 3, 1) := by decide +kernel
theorem d_SS_open_54 : decode c_SS_open 54 = .ok (.iload 4, 2) := by decide +kernel
theorem d_SS_open_56 : decode c_SS_open 56 = .ok (.iload 5, 2) := by decide +kernel
theorem d_SS_open_58 : decode c_SS_open 58 = .ok (.invokespecial 52, 3) := by decide +kernel
theorem d_SS_open_61 : decode c_SS_open 61 = .ok (.astore 6, 2) := by decide +kernel
theorem d_SS_open_63 : decode c_SS_open 63 = .ok (.aload_n 0, 1) := by decide +kernel
theorem d_SS_open_64 : decode c_SS_open 64 = .ok (.getfield 26, 3) := by decide +kernel
theorem d_SS_open_67 : decode c_SS_open 67 = .ok (.aload_n 0, 1) := by decide +kernel
theorem d_SS_open_68 : decode c_SS_open 68 = .ok (.getfield 48, 3) := by decide +kernel
theorem d_SS_open_71 : decode c_SS_open 71 = .ok (.aload 6, 2) := by decide +kernel
theorem d_SS_open_73 : decode c_SS_open 73 = .ok (.aastore, 1) := by decide +kernel
theorem d_SS_open_74 : decode c_SS_open 74 = .ok (.aload_n 0, 1) := by decide +kernel
theorem d_SS_open_75 : decode c_SS_open 75 = .ok (.dup, 1) := by decide +kernel
theorem d_SS_open_76 : decode c_SS_open 76 = .ok (.getfield 48, 3) := by decide +kernel
theorem d_SS_open_79 : decode c_SS_open 79 = .ok (.iconst 1, 1) := by decide +kernel
theorem d_SS_open_80 : decode c_SS_open 80 = .ok (.iadd, 1) := by decide +kernel
theorem d_SS_open_81 : decode c_SS_open 81 = .ok (.putfield 48, 3) := by decide +kernel
theorem d_SS_open_84 : decode c_SS_open 84 = .ok (.aload 6, 2) := by decide +kernel
theorem d_SS_open_86 : decode c_SS_open 86 = .ok (.aload_n 0, 1) := by decide +kernel
theorem d_SS_open_87 : decode c_SS_open 87 = .ok (.aload 6, 2) := by decide +kernel
theorem d_SS_open_89 : decode c_SS_open 89 = .ok (.invokevirtual 55, 3) := by decide +kernel
theorem d_SS_open_92 : decode c_SS_open 92 = .ok (.putfield 59, 3) := by decide +kernel
theorem d_SS_open_95 : decode c_SS_open 95 = .ok (.aload_n 0, 1) := by decide +kernel
theorem d_SS_open_96 : decode c_SS_open 96 = .ok (.getfield 48, 3) := by decide +kernel
theorem d_SS_open_99 : decode c_SS_open 99 = .ok (.ireturn, 1) := by decide +kernel
theorem d_SS_isBelow_0 : decode c_SS_isBelow 0 = .ok (.iload_n 0, 1) := by decide +kernel
theorem d_SS_isBelow_1 : decode c_SS_isBelow 1 = .ok (.ifCond .lt 12, 3) := by decide +kernel
theorem d_SS_isBelow_4 : decode c_SS_isBelow 4 = .ok (.iload_n 0, 1) := by decide +kernel
theorem d_SS_isBelow_5 : decode c_SS_isBelow 5 = .ok (.iload_n 1, 1) := by decide +kernel
theorem d_SS_isBelow_6 : decode c_SS_isBelow 6 = .ok (.if_icmp .ge 7, 3) := by decide +kernel
theorem d_SS_isBelow_9 : decode c_SS_isBelow 9 = .ok (.iconst 1, 1) := by decide +kernel
theorem d_SS_isBelow_10 : decode c_SS_isBelow 10 = .ok (.goto 4, 3) := by decide +kernel
theorem d_SS_isBelow_13 : decode c_SS_isBelow 13 = .ok (.iconst 0, 1) := by decide +kernel
theorem d_SS_isBelow_14 : decode c_SS_isBelow 14 = .ok (.ireturn, 1) := by decide +kernel
theorem d_SS_isPlace_0 : decode c_SS_isPlace 0 = .ok (.iload_n 0, 1) := by decide +kernel
theorem d_SS_isPlace_1 : decode c_SS_isPlace 1 = .ok (.bipush 25, 2) := by decide +kernel
theorem d_SS_isPlace_3 : decode c_SS_isPlace 3 = .ok (.invokestatic 37, 3) := by decide +kernel
theorem d_SS_isPlace_6 : decode c_SS_isPlace 6 = .ok (.ifCond .eq 16, 3) := by decide +kernel
theorem d_SS_isPlace_9 : decode c_SS_isPlace 9 = .ok (.iload_n 1, 1) := by decide +kernel
theorem d_SS_isPlace_10 : decode c_SS_isPlace 10 = .ok (.bipush 16, 2) := by decide +kernel
theorem d_SS_isPlace_12 : decode c_SS_isPlace 12 = .ok (.invokestatic 37, 3) := by decide +kernel
theorem d_SS_isPlace_15 : decode c_SS_isPlace 15 = .ok (.ifCond .eq 7, 3) := by decide +kernel
theorem d_SS_isPlace_18 : decode c_SS_isPlace 18 = .ok (.iconst 1, 1) := by decide +kernel
theorem d_SS_isPlace_19 : decode c_SS_isPlace 19 = .ok (.goto 4, 3) := by decide +kernel
theorem d_SS_isPlace_22 : decode c_SS_isPlace 22 = .ok (.iconst 0, 1) := by decide +kernel
theorem d_SS_isPlace_23 : decode c_SS_isPlace 23 = .ok (.ireturn, 1) := by decide +kernel
theorem d_SS_isMode_0 : decode c_SS_isMode 0 = .ok (.iload_n 0, 1) := by decide +kernel
theorem d_SS_isMode_1 : decode c_SS_isMode 1 = .ok (.sipush 1024, 3) := by decide +kernel
theorem d_SS_isMode_4 : decode c_SS_isMode 4 = .ok (.invokestatic 37, 3) := by decide +kernel
theorem d_SS_isMode_7 : decode c_SS_isMode 7 = .ok (.ifCond .eq 10, 3) := by decide +kernel
theorem d_SS_isMode_10 : decode c_SS_isMode 10 = .ok (.iload_n 0, 1) := by decide +kernel
theorem d_SS_isMode_11 : decode c_SS_isMode 11 = .ok (.bipush 7, 2) := by decide +kernel
theorem d_SS_isMode_13 : decode c_SS_isMode 13 = .ok (.iand, 1) := by decide +kernel
theorem d_SS_isMode_14 : decode c_SS_isMode 14 = .ok (.ifCond .ne 5, 3) := by decide +kernel
theorem d_SS_isMode_17 : decode c_SS_isMode 17 = .ok (.iconst 0, 1) := by decide +kernel
theorem d_SS_isMode_18 : decode c_SS_isMode 18 = .ok (.ireturn, 1) := by decide +kernel
theorem d_SS_isMode_19 : decode c_SS_isMode 19 = .ok (.iload_n 0, 1) := by decide +kernel
theorem d_SS_isMode_20 : decode c_SS_isMode 20 = .ok (.sipush 512, 3) := by decide +kernel
theorem d_SS_isMode_23 : decode c_SS_isMode 23 = .ok (.iand, 1) := by decide +kernel
theorem d_SS_isMode_24 : decode c_SS_isMode 24 = .ok (.ifCond .eq 9, 3) := by decide +kernel
theorem d_SS_isMode_27 : decode c_SS_isMode 27 = .ok (.iload_n 0, 1) := by decide +kernel
theorem d_SS_isMode_28 : decode c_SS_isMode 28 = .ok (.iconst 4, 1) := by decide +kernel
theorem d_SS_isMode_29 : decode c_SS_isMode 29 = .ok (.iand, 1) := by decide +kernel
theorem d_SS_isMode_30 : decode c_SS_isMode 30 = .ok (.ifCond .eq 7, 3) := by decide +kernel
theorem d_SS_isMode_33 : decode c_SS_isMode 33 = .ok (.iconst 1, 1) := by decide +kernel
theorem d_SS_isMode_34 : decode c_SS_isMode 34 = .ok (.goto 4, 3) := by decide +kernel
theorem d_SS_isMode_37 : decode c_SS_isMode 37 = .ok (.iconst 0, 1) := by decide +kernel
theorem d_SS_isMode_38 : decode c_SS_isMode 38 = .ok (.ireturn, 1) := by decide +kernel
theorem d_Rq_init_0 : decode c_Rq_init 0 = .ok (.aload_n 0, 1) := by decide +kernel
theorem d_Rq_init_1 : decode c_Rq_init 1 = .ok (.invokespecial 3, 3) := by decide +kernel
theorem d_Rq_init_4 : decode c_Rq_init 4 = .ok (.aload_n 0, 1) := by decide +kernel
theorem d_Rq_init_5 : decode c_Rq_init 5 = .ok (.iload_n 1, 1) := by decide +kernel
theorem d_Rq_init_6 : decode c_Rq_init 6 = .ok (.putfield 9, 3) := by decide +kernel
theorem d_Rq_init_9 : decode c_Rq_init 9 = .ok (.aload_n 0, 1) := by decide +kernel
theorem d_Rq_init_10 : decode c_Rq_init 10 = .ok (.iload_n 2, 1) := by decide +kernel
theorem d_Rq_init_11 : decode c_Rq_init 11 = .ok (.putfield 15, 3) := by decide +kernel
theorem d_Rq_init_14 : decode c_Rq_init 14 = .ok (.aload_n 0, 1) := by decide +kernel
theorem d_Rq_init_15 : decode c_Rq_init 15 = .ok (.iload_n 3, 1) := by decide +kernel
theorem d_Rq_init_16 : decode c_Rq_init 16 = .ok (.putfield 18, 3) := by decide +kernel
theorem d_Rq_init_19 : decode c_Rq_init 19 = .ok (.aload_n 0, 1) := by decide +kernel
theorem d_Rq_init_20 : decode c_Rq_init 20 = .ok (.iload 4, 2) := by decide +kernel
theorem d_Rq_init_22 : decode c_Rq_init 22 = .ok (.putfield 21, 3) := by decide +kernel
theorem d_Rq_init_25 : decode c_Rq_init 25 = .ok (.aload_n 0, 1) := by decide +kernel
theorem d_Rq_init_26 : decode c_Rq_init 26 = .ok (.iload 5, 2) := by decide +kernel
theorem d_Rq_init_28 : decode c_Rq_init 28 = .ok (.putfield 24, 3) := by decide +kernel
theorem d_Rq_init_31 : decode c_Rq_init 31 = .ok (.aload_n 0, 1) := by decide +kernel
theorem d_Rq_init_32 : decode c_Rq_init 32 = .ok (.iconst 0, 1) := by decide +kernel
theorem d_Rq_init_33 : decode c_Rq_init 33 = .ok (.putfield 27, 3) := by decide +kernel
theorem d_Rq_init_36 : decode c_Rq_init 36 = .ok (.return_, 1) := by decide +kernel
theorem d_SS_attempt_0 : decode c_SS_attempt 0 = .ok (.aload_n 0, 1) := by decide +kernel
theorem d_SS_attempt_1 : decode c_SS_attempt 1 = .ok (.aload_n 1, 1) := by decide +kernel
theorem d_SS_attempt_2 : decode c_SS_attempt 2 = .ok (.getfield 227, 3) := by decide +kernel
theorem d_SS_attempt_5 : decode c_SS_attempt 5 = .ok (.invokevirtual 111, 3) := by decide +kernel
theorem d_SS_attempt_8 : decode c_SS_attempt 8 = .ok (.ifCond .ne 6, 3) := by decide +kernel
theorem d_SS_attempt_11 : decode c_SS_attempt 11 = .ok (.bipush (-3), 2) := by decide +kernel
theorem d_SS_attempt_13 : decode c_SS_attempt 13 = .ok (.ireturn, 1) := by decide +kernel
theorem d_SS_attempt_14 : decode c_SS_attempt 14 = .ok (.aload_n 0, 1) := by decide +kernel
theorem d_SS_attempt_15 : decode c_SS_attempt 15 = .ok (.aload_n 1, 1) := by decide +kernel
theorem d_SS_attempt_16 : decode c_SS_attempt 16 = .ok (.getfield 227, 3) := by decide +kernel
theorem d_SS_attempt_19 : decode c_SS_attempt 19 = .ok (.aload_n 1, 1) := by decide +kernel
theorem d_SS_attempt_20 : decode c_SS_attempt 20 = .ok (.getfield 228, 3) := by decide +kernel
theorem d_SS_attempt_23 : decode c_SS_attempt 23 = .ok (.invokevirtual 117, 3) := by decide +kernel
theorem d_SS_attempt_26 : decode c_SS_attempt 26 = .ok (.astore_n 2, 1) := by decide +kernel
theorem d_SS_attempt_27 : decode c_SS_attempt 27 = .ok (.aload_n 2, 1) := by decide +kernel
theorem d_SS_attempt_28 : decode c_SS_attempt 28 = .ok (.ifnonnull 11, 3) := by decide +kernel
theorem d_SS_attempt_31 : decode c_SS_attempt 31 = .ok (.aload_n 0, 1) := by decide +kernel
theorem d_SS_attempt_32 : decode c_SS_attempt 32 = .ok (.aload_n 1, 1) := by decide +kernel
theorem d_SS_attempt_33 : decode c_SS_attempt 33 = .ok (.invokevirtual 229, 3) := by decide +kernel
theorem d_SS_attempt_36 : decode c_SS_attempt 36 = .ok (.goto 9, 3) := by decide +kernel
theorem d_SS_attempt_39 : decode c_SS_attempt 39 = .ok (.aload_n 0, 1) := by decide +kernel
theorem d_SS_attempt_40 : decode c_SS_attempt 40 = .ok (.aload_n 1, 1) := by decide +kernel
theorem d_SS_attempt_41 : decode c_SS_attempt 41 = .ok (.aload_n 2, 1) := by decide +kernel
theorem d_SS_attempt_42 : decode c_SS_attempt 42 = .ok (.invokevirtual 232, 3) := by decide +kernel
theorem d_SS_attempt_45 : decode c_SS_attempt 45 = .ok (.ireturn, 1) := by decide +kernel
theorem d_SS_isFolderThere_0 : decode c_SS_isFolderThere 0 = .ok (.iload_n 1, 1) := by decide +kernel
theorem d_SS_isFolderThere_1 : decode c_SS_isFolderThere 1 = .ok (.aload_n 0, 1) := by decide +kernel
theorem d_SS_isFolderThere_2 : decode c_SS_isFolderThere 2 = .ok (.getfield 11, 3) := by decide +kernel
theorem d_SS_isFolderThere_5 : decode c_SS_isFolderThere 5 = .ok (.arraylength, 1) := by decide +kernel
theorem d_SS_isFolderThere_6 : decode c_SS_isFolderThere 6 = .ok (.invokestatic 37, 3) := by decide +kernel
theorem d_SS_isFolderThere_9 : decode c_SS_isFolderThere 9 = .ok (.ifCond .eq 28, 3) := by decide +kernel
theorem d_SS_isFolderThere_12 : decode c_SS_isFolderThere 12 = .ok (.aload_n 0, 1) := by decide +kernel
theorem d_SS_isFolderThere_13 : decode c_SS_isFolderThere 13 = .ok (.getfield 11, 3) := by decide +kernel
theorem d_SS_isFolderThere_16 : decode c_SS_isFolderThere 16 = .ok (.iload_n 1, 1) := by decide +kernel
theorem d_SS_isFolderThere_17 : decode c_SS_isFolderThere 17 = .ok (.aaload, 1) := by decide +kernel
theorem d_SS_isFolderThere_18 : decode c_SS_isFolderThere 18 = .ok (.ifnull 19, 3) := by decide +kernel
theorem d_SS_isFolderThere_21 : decode c_SS_isFolderThere 21 = .ok (.aload_n 0, 1) := by decide +kernel
theorem d_SS_isFolderThere_22 : decode c_SS_isFolderThere 22 = .ok (.getfield 11, 3) := by decide +kernel
theorem d_SS_isFolderThere_25 : decode c_SS_isFolderThere 25 = .ok (.iload_n 1, 1) := by decide +kernel
theorem d_SS_isFolderThere_26 : decode c_SS_isFolderThere 26 = .ok (.aaload, 1) := by decide +kernel
theorem d_SS_isFolderThere_27 : decode c_SS_isFolderThere 27 = .ok (.getfield 136, 3) := by decide +kernel
theorem d_SS_isFolderThere_30 : decode c_SS_isFolderThere 30 = .ok (.ifCond .eq 7, 3) := by decide +kernel
theorem d_SS_isFolderThere_33 : decode c_SS_isFolderThere 33 = .ok (.iconst 1, 1) := by decide +kernel
theorem d_SS_isFolderThere_34 : decode c_SS_isFolderThere 34 = .ok (.goto 4, 3) := by decide +kernel
theorem d_SS_isFolderThere_37 : decode c_SS_isFolderThere 37 = .ok (.iconst 0, 1) := by decide +kernel
theorem d_SS_isFolderThere_38 : decode c_SS_isFolderThere 38 = .ok (.ireturn, 1) := by decide +kernel
theorem d_SS_nodeAt_0 : decode c_SS_nodeAt 0 = .ok (.iconst 0, 1) := by decide +kernel
theorem d_SS_nodeAt_1 : decode c_SS_nodeAt 1 = .ok (.istore_n 3, 1) := by decide +kernel
theorem d_SS_nodeAt_2 : decode c_SS_nodeAt 2 = .ok (.iload_n 3, 1) := by decide +kernel
theorem d_SS_nodeAt_3 : decode c_SS_nodeAt 3 = .ok (.aload_n 0, 1) := by decide +kernel
theorem d_SS_nodeAt_4 : decode c_SS_nodeAt 4 = .ok (.getfield 11, 3) := by decide +kernel
theorem d_SS_nodeAt_7 : decode c_SS_nodeAt 7 = .ok (.arraylength, 1) := by decide +kernel
theorem d_SS_nodeAt_8 : decode c_SS_nodeAt 8 = .ok (.if_icmp .ge 43, 3) := by decide +kernel
theorem d_SS_nodeAt_11 : decode c_SS_nodeAt 11 = .ok (.aload_n 0, 1) := by decide +kernel
theorem d_SS_nodeAt_12 : decode c_SS_nodeAt 12 = .ok (.getfield 11, 3) := by decide +kernel
theorem d_SS_nodeAt_15 : decode c_SS_nodeAt 15 = .ok (.iload_n 3, 1) := by decide +kernel
theorem d_SS_nodeAt_16 : decode c_SS_nodeAt 16 = .ok (.aaload, 1) := by decide +kernel
theorem d_SS_nodeAt_17 : decode c_SS_nodeAt 17 = .ok (.astore 4, 2) := by decide +kernel
theorem d_SS_nodeAt_19 : decode c_SS_nodeAt 19 = .ok (.aload 4, 2) := by decide +kernel
theorem d_SS_nodeAt_21 : decode c_SS_nodeAt 21 = .ok (.ifnull 24, 3) := by decide +kernel
theorem d_SS_nodeAt_24 : decode c_SS_nodeAt 24 = .ok (.aload 4, 2) := by decide +kernel
theorem d_SS_nodeAt_26 : decode c_SS_nodeAt 26 = .ok (.getfield 123, 3) := by decide +kernel
theorem d_SS_nodeAt_29 : decode c_SS_nodeAt 29 = .ok (.iload_n 1, 1) := by decide +kernel
theorem d_SS_nodeAt_30 : decode c_SS_nodeAt 30 = .ok (.if_icmp .ne 15, 3) := by decide +kernel
theorem d_SS_nodeAt_33 : decode c_SS_nodeAt 33 = .ok (.aload 4, 2) := by decide +kernel
theorem d_SS_nodeAt_35 : decode c_SS_nodeAt 35 = .ok (.getfield 126, 3) := by decide +kernel
theorem d_SS_nodeAt_38 : decode c_SS_nodeAt 38 = .ok (.iload_n 2, 1) := by decide +kernel
theorem d_SS_nodeAt_39 : decode c_SS_nodeAt 39 = .ok (.if_icmp .ne 6, 3) := by decide +kernel
theorem d_SS_nodeAt_42 : decode c_SS_nodeAt 42 = .ok (.aload 4, 2) := by decide +kernel
theorem d_SS_nodeAt_44 : decode c_SS_nodeAt 44 = .ok (.areturn, 1) := by decide +kernel
theorem d_SS_nodeAt_45 : decode c_SS_nodeAt 45 = .ok (.iinc 3 1, 3) := by decide +kernel
theorem d_SS_nodeAt_48 : decode c_SS_nodeAt 48 = .ok (.goto (-46), 3) := by decide +kernel
theorem d_SS_nodeAt_51 : decode c_SS_nodeAt 51 = .ok (.aconst_null, 1) := by decide +kernel
theorem d_SS_nodeAt_52 : decode c_SS_nodeAt 52 = .ok (.areturn, 1) := by decide +kernel
theorem d_SS_openNew_0 : decode c_SS_openNew 0 = .ok (.aload_n 1, 1) := by decide +kernel
theorem d_SS_openNew_1 : decode c_SS_openNew 1 = .ok (.bipush 64, 2) := by decide +kernel
theorem d_SS_openNew_3 : decode c_SS_openNew 3 = .ok (.invokevirtual 236, 3) := by decide +kernel
theorem d_SS_openNew_6 : decode c_SS_openNew 6 = .ok (.ifCond .ne 6, 3) := by decide +kernel
theorem d_SS_openNew_9 : decode c_SS_openNew 9 = .ok (.bipush (-3), 2) := by decide +kernel
theorem d_SS_openNew_11 : decode c_SS_openNew 11 = .ok (.ireturn, 1) := by decide +kernel
theorem d_SS_openNew_12 : decode c_SS_openNew 12 = .ok (.aload_n 0, 1) := by decide +kernel
theorem d_SS_openNew_13 : decode c_SS_openNew 13 = .ok (.getfield 11, 3) := by decide +kernel
theorem d_SS_openNew_16 : decode c_SS_openNew 16 = .ok (.aload_n 1, 1) := by decide +kernel
theorem d_SS_openNew_17 : decode c_SS_openNew 17 = .ok (.getfield 227, 3) := by decide +kernel
theorem d_SS_openNew_20 : decode c_SS_openNew 20 = .ok (.aaload, 1) := by decide +kernel
theorem d_SS_openNew_21 : decode c_SS_openNew 21 = .ok (.getfield 104, 3) := by decide +kernel
theorem d_SS_openNew_24 : decode c_SS_openNew 24 = .ok (.ifCond .eq 6, 3) := by decide +kernel
theorem d_SS_openNew_27 : decode c_SS_openNew 27 = .ok (.bipush (-7), 2) := by decide +kernel
theorem d_SS_openNew_29 : decode c_SS_openNew 29 = .ok (.ireturn, 1) := by decide +kernel
theorem d_SS_openNew_30 : decode c_SS_openNew 30 = .ok (.aload_n 0, 1) := by decide +kernel
theorem d_SS_openNew_31 : decode c_SS_openNew 31 = .ok (.getfield 215, 3) := by decide +kernel
theorem d_SS_openNew_34 : decode c_SS_openNew 34 = .ok (.bipush 24, 2) := by decide +kernel
theorem d_SS_openNew_36 : decode c_SS_openNew 36 = .ok (.if_icmp .ge 12, 3) := by decide +kernel
theorem d_SS_openNew_39 : decode c_SS_openNew 39 = .ok (.aload_n 0, 1) := by decide +kernel
theorem d_SS_openNew_40 : decode c_SS_openNew 40 = .ok (.getfield 94, 3) := by decide +kernel
theorem d_SS_openNew_43 : decode c_SS_openNew 43 = .ok (.bipush 12, 2) := by decide +kernel
theorem d_SS_openNew_45 : decode c_SS_openNew 45 = .ok (.if_icmp .lt 6, 3) := by decide +kernel
theorem d_SS_openNew_48 : decode c_SS_openNew 48 = .ok (.bipush (-2), 2) := by decide +kernel
theorem d_SS_openNew_50 : decode c_SS_openNew 50 = .ok (.ireturn, 1) := by decide +kernel
theorem d_SS_openNew_51 : decode c_SS_openNew 51 = .ok (.aload_n 0, 1) := by decide +kernel
theorem d_SS_openNew_52 : decode c_SS_openNew 52 = .ok (.aload_n 1, 1) := by decide +kernel
theorem d_SS_openNew_53 : decode c_SS_openNew 53 = .ok (.aload_n 0, 1) := by decide +kernel
theorem d_SS_openNew_54 : decode c_SS_openNew 54 = .ok (.aload_n 1, 1) := by decide +kernel
theorem d_SS_openNew_55 : decode c_SS_openNew 55 = .ok (.invokevirtual 239, 3) := by decide +kernel
theorem d_SS_openNew_58 : decode c_SS_openNew 58 = .ok (.invokevirtual 243, 3) := by decide +kernel
theorem d_SS_openNew_61 : decode c_SS_openNew 61 = .ok (.ireturn, 1) := by decide +kernel
theorem d_Rq_has_0 : decode c_Rq_has 0 = .ok (.aload_n 0, 1) := by decide +kernel
theorem d_Rq_has_1 : decode c_Rq_has 1 = .ok (.getfield 21, 3) := by decide +kernel
theorem d_Rq_has_4 : decode c_Rq_has 4 = .ok (.iload_n 1, 1) := by decide +kernel
theorem d_Rq_has_5 : decode c_Rq_has 5 = .ok (.iand, 1) := by decide +kernel
theorem d_Rq_has_6 : decode c_Rq_has 6 = .ok (.ifCond .eq 7, 3) := by decide +kernel
theorem d_Rq_has_9 : decode c_Rq_has 9 = .ok (.iconst 1, 1) := by decide +kernel
theorem d_Rq_has_10 : decode c_Rq_has 10 = .ok (.goto 4, 3) := by decide +kernel
theorem d_Rq_has_13 : decode c_Rq_has 13 = .ok (.iconst 0, 1) := by decide +kernel
theorem d_Rq_has_14 : decode c_Rq_has 14 = .ok (.ireturn, 1) := by decide +kernel
theorem d_SS_makeNode_0 : decode c_SS_makeNode 0 = .ok (.aload_n 0, 1) := by decide +kernel
theorem d_SS_makeNode_1 : decode c_SS_makeNode 1 = .ok (.dup, 1) := by decide +kernel
theorem d_SS_makeNode_2 : decode c_SS_makeNode 2 = .ok (.getfield 215, 3) := by decide +kernel
theorem d_SS_makeNode_5 : decode c_SS_makeNode 5 = .ok (.iconst 1, 1) := by decide +kernel
theorem d_SS_makeNode_6 : decode c_SS_makeNode 6 = .ok (.iadd, 1) := by decide +kernel
theorem d_SS_makeNode_7 : decode c_SS_makeNode 7 = .ok (.putfield 215, 3) := by decide +kernel
theorem d_SS_makeNode_10 : decode c_SS_makeNode 10 = .ok (.new 9, 3) := by decide +kernel
theorem d_SS_makeNode_13 : decode c_SS_makeNode 13 = .ok (.dup, 1) := by decide +kernel
theorem d_SS_makeNode_14 : decode c_SS_makeNode 14 = .ok (.aload_n 0, 1) := by decide +kernel
theorem d_SS_makeNode_15 : decode c_SS_makeNode 15 = .ok (.getfield 215, 3) := by decide +kernel
theorem d_SS_makeNode_18 : decode c_SS_makeNode 18 = .ok (.aload_n 1, 1) := by decide +kernel
theorem d_SS_makeNode_19 : decode c_SS_makeNode 19 = .ok (.getfield 227, 3) := by decide +kernel
theorem d_SS_makeNode_22 : decode c_SS_makeNode 22 = .ok (.aload_n 1, 1) := by decide +kernel
theorem d_SS_makeNode_23 : decode c_SS_makeNode 23 = .ok (.getfield 228, 3) := by decide +kernel
theorem d_SS_makeNode_26 : decode c_SS_makeNode 26 = .ok (.aload_n 1, 1) := by decide +kernel
theorem d_SS_makeNode_27 : decode c_SS_makeNode 27 = .ok (.sipush 256, 3) := by decide +kernel
theorem d_SS_makeNode_30 : decode c_SS_makeNode 30 = .ok (.invokevirtual 236, 3) := by decide +kernel
theorem d_SS_makeNode_33 : decode c_SS_makeNode 33 = .ok (.invokespecial 15, 3) := by decide +kernel
theorem d_SS_makeNode_36 : decode c_SS_makeNode 36 = .ok (.astore_n 2, 1) := by decide +kernel
theorem d_SS_makeNode_37 : decode c_SS_makeNode 37 = .ok (.aload_n 0, 1) := by decide +kernel
theorem d_SS_makeNode_38 : decode c_SS_makeNode 38 = .ok (.getfield 11, 3) := by decide +kernel
theorem d_SS_makeNode_41 : decode c_SS_makeNode 41 = .ok (.aload_n 2, 1) := by decide +kernel
theorem d_SS_makeNode_42 : decode c_SS_makeNode 42 = .ok (.getfield 108, 3) := by decide +kernel
theorem d_SS_makeNode_45 : decode c_SS_makeNode 45 = .ok (.aload_n 2, 1) := by decide +kernel
theorem d_SS_makeNode_46 : decode c_SS_makeNode 46 = .ok (.aastore, 1) := by decide +kernel
theorem d_SS_makeNode_47 : decode c_SS_makeNode 47 = .ok (.aload_n 0, 1) := by decide +kernel
theorem d_SS_makeNode_48 : decode c_SS_makeNode 48 = .ok (.getfield 33, 3) := by decide +kernel
theorem d_SS_makeNode_51 : decode c_SS_makeNode 51 = .ok (.new 121, 3) := by decide +kernel
theorem d_SS_makeNode_54 : decode c_SS_makeNode 54 = .ok (.dup, 1) := by decide +kernel
theorem d_SS_makeNode_55 : decode c_SS_makeNode 55 = .ok (.iconst 0, 1) := by decide +kernel
theorem d_SS_makeNode_56 : decode c_SS_makeNode 56 = .ok (.aload_n 2, 1) := by decide +kernel
theorem d_SS_makeNode_57 : decode c_SS_makeNode 57 = .ok (.iconst 0, 1) := by decide +kernel
theorem d_SS_makeNode_58 : decode c_SS_makeNode 58 = .ok (.iconst 0, 1) := by decide +kernel
theorem d_SS_makeNode_59 : decode c_SS_makeNode 59 = .ok (.invokespecial 129, 3) := by decide +kernel
theorem d_SS_makeNode_62 : decode c_SS_makeNode 62 = .ok (.invokevirtual 132, 3) := by decide +kernel
theorem d_SS_makeNode_65 : decode c_SS_makeNode 65 = .ok (.aload_n 2, 1) := by decide +kernel
theorem d_SS_makeNode_66 : decode c_SS_makeNode 66 = .ok (.areturn, 1) := by decide +kernel
theorem d_Cg_init_0 : decode c_Cg_init 0 = .ok (.aload_n 0, 1) := by decide +kernel
theorem d_Cg_init_1 : decode c_Cg_init 1 = .ok (.invokespecial 1, 3) := by decide +kernel
theorem d_Cg_init_4 : decode c_Cg_init 4 = .ok (.aload_n 0, 1) := by decide +kernel
theorem d_Cg_init_5 : decode c_Cg_init 5 = .ok (.iload_n 1, 1) := by decide +kernel
theorem d_Cg_init_6 : decode c_Cg_init 6 = .ok (.putfield 7, 3) := by decide +kernel
theorem d_Cg_init_9 : decode c_Cg_init 9 = .ok (.aload_n 0, 1) := by decide +kernel
theorem d_Cg_init_10 : decode c_Cg_init 10 = .ok (.aload_n 2, 1) := by decide +kernel
theorem d_Cg_init_11 : decode c_Cg_init 11 = .ok (.putfield 13, 3) := by decide +kernel
theorem d_Cg_init_14 : decode c_Cg_init 14 = .ok (.aload_n 0, 1) := by decide +kernel
theorem d_Cg_init_15 : decode c_Cg_init 15 = .ok (.iload_n 3, 1) := by decide +kernel
theorem d_Cg_init_16 : decode c_Cg_init 16 = .ok (.putfield 17, 3) := by decide +kernel
theorem d_Cg_init_19 : decode c_Cg_init 19 = .ok (.aload_n 0, 1) := by decide +kernel
theorem d_Cg_init_20 : decode c_Cg_init 20 = .ok (.iload 4, 2) := by decide +kernel
theorem d_Cg_init_22 : decode c_Cg_init 22 = .ok (.putfield 20, 3) := by decide +kernel
theorem d_Cg_init_25 : decode c_Cg_init 25 = .ok (.return_, 1) := by decide +kernel
theorem d_Lg_add_0 : decode c_Lg_add 0 = .ok (.aload_n 0, 1) := by decide +kernel
theorem d_Lg_add_1 : decode c_Lg_add 1 = .ok (.getfield 17, 3) := by decide +kernel
theorem d_Lg_add_4 : decode c_Lg_add 4 = .ok (.aload_n 0, 1) := by decide +kernel
theorem d_Lg_add_5 : decode c_Lg_add 5 = .ok (.getfield 11, 3) := by decide +kernel
theorem d_Lg_add_8 : decode c_Lg_add 8 = .ok (.arraylength, 1) := by decide +kernel
theorem d_Lg_add_9 : decode c_Lg_add 9 = .ok (.if_icmp .ge 23, 3) := by decide +kernel
theorem d_Lg_add_12 : decode c_Lg_add 12 = .ok (.aload_n 0, 1) := by decide +kernel
theorem d_Lg_add_13 : decode c_Lg_add 13 = .ok (.getfield 11, 3) := by decide +kernel
theorem d_Lg_add_16 : decode c_Lg_add 16 = .ok (.aload_n 0, 1) := by decide +kernel
theorem d_Lg_add_17 : decode c_Lg_add 17 = .ok (.getfield 17, 3) := by decide +kernel
theorem d_Lg_add_20 : decode c_Lg_add 20 = .ok (.aload_n 1, 1) := by decide +kernel
theorem d_Lg_add_21 : decode c_Lg_add 21 = .ok (.aastore, 1) := by decide +kernel
theorem d_Lg_add_22 : decode c_Lg_add 22 = .ok (.aload_n 0, 1) := by decide +kernel
theorem d_Lg_add_23 : decode c_Lg_add 23 = .ok (.dup, 1) := by decide +kernel
theorem d_Lg_add_24 : decode c_Lg_add 24 = .ok (.getfield 17, 3) := by decide +kernel
theorem d_Lg_add_27 : decode c_Lg_add 27 = .ok (.iconst 1, 1) := by decide +kernel
theorem d_Lg_add_28 : decode c_Lg_add 28 = .ok (.iadd, 1) := by decide +kernel
theorem d_Lg_add_29 : decode c_Lg_add 29 = .ok (.putfield 17, 3) := by decide +kernel
theorem d_Lg_add_32 : decode c_Lg_add 32 = .ok (.aload_n 0, 1) := by decide +kernel
theorem d_Lg_add_33 : decode c_Lg_add 33 = .ok (.getfield 17, 3) := by decide +kernel
theorem d_Lg_add_36 : decode c_Lg_add 36 = .ok (.aload_n 0, 1) := by decide +kernel
theorem d_Lg_add_37 : decode c_Lg_add 37 = .ok (.getfield 11, 3) := by decide +kernel
theorem d_Lg_add_40 : decode c_Lg_add 40 = .ok (.arraylength, 1) := by decide +kernel
theorem d_Lg_add_41 : decode c_Lg_add 41 = .ok (.if_icmp .lt 7, 3) := by decide +kernel
theorem d_Lg_add_44 : decode c_Lg_add 44 = .ok (.aload_n 0, 1) := by decide +kernel
theorem d_Lg_add_45 : decode c_Lg_add 45 = .ok (.invokevirtual 21, 3) := by decide +kernel
theorem d_Lg_add_48 : decode c_Lg_add 48 = .ok (.return_, 1) := by decide +kernel
theorem d_Lg_makeAllDurable_0 : decode c_Lg_makeAllDurable 0 = .ok (.aload_n 0, 1) := by decide +kernel
theorem d_Lg_makeAllDurable_1 : decode c_Lg_makeAllDurable 1 = .ok (.dup, 1) := by decide +kernel
theorem d_Lg_makeAllDurable_2 : decode c_Lg_makeAllDurable 2 = .ok (.getfield 24, 3) := by decide +kernel
theorem d_Lg_makeAllDurable_5 : decode c_Lg_makeAllDurable 5 = .ok (.aload_n 0, 1) := by decide +kernel
theorem d_Lg_makeAllDurable_6 : decode c_Lg_makeAllDurable 6 = .ok (.getfield 17, 3) := by decide +kernel
theorem d_Lg_makeAllDurable_9 : decode c_Lg_makeAllDurable 9 = .ok (.iadd, 1) := by decide +kernel
theorem d_Lg_makeAllDurable_10 : decode c_Lg_makeAllDurable 10 = .ok (.putfield 24, 3) := by decide +kernel
theorem d_Lg_makeAllDurable_13 : decode c_Lg_makeAllDurable 13 = .ok (.aload_n 0, 1) := by decide +kernel
theorem d_Lg_makeAllDurable_14 : decode c_Lg_makeAllDurable 14 = .ok (.iconst 0, 1) := by decide +kernel
theorem d_Lg_makeAllDurable_15 : decode c_Lg_makeAllDurable 15 = .ok (.putfield 17, 3) := by decide +kernel
theorem d_Lg_makeAllDurable_18 : decode c_Lg_makeAllDurable 18 = .ok (.return_, 1) := by decide +kernel
theorem d_SS_makeHandle_0 : decode c_SS_makeHandle 0 = .ok (.aload_n 0, 1) := by decide +kernel
theorem d_SS_makeHandle_1 : decode c_SS_makeHandle 1 = .ok (.aload_n 1, 1) := by decide +kernel
theorem d_SS_makeHandle_2 : decode c_SS_makeHandle 2 = .ok (.aload_n 2, 1) := by decide +kernel
theorem d_SS_makeHandle_3 : decode c_SS_makeHandle 3 = .ok (.invokevirtual 253, 3) := by decide +kernel
theorem d_SS_makeHandle_6 : decode c_SS_makeHandle 6 = .ok (.istore_n 3, 1) := by decide +kernel
theorem d_SS_makeHandle_7 : decode c_SS_makeHandle 7 = .ok (.aload_n 0, 1) := by decide +kernel
theorem d_SS_makeHandle_8 : decode c_SS_makeHandle 8 = .ok (.dup, 1) := by decide +kernel
theorem d_SS_makeHandle_9 : decode c_SS_makeHandle 9 = .ok (.getfield 224, 3) := by decide +kernel
theorem d_SS_makeHandle_12 : decode c_SS_makeHandle 12 = .ok (.iconst 1, 1) := by decide +kernel
theorem d_SS_makeHandle_13 : decode c_SS_makeHandle 13 = .ok (.iadd, 1) := by decide +kernel
theorem d_SS_makeHandle_14 : decode c_SS_makeHandle 14 = .ok (.putfield 224, 3) := by decide +kernel
theorem d_SS_makeHandle_17 : decode c_SS_makeHandle 17 = .ok (.aload_n 0, 1) := by decide +kernel
theorem d_SS_makeHandle_18 : decode c_SS_makeHandle 18 = .ok (.getfield 20, 3) := by decide +kernel
theorem d_SS_makeHandle_21 : decode c_SS_makeHandle 21 = .ok (.aload_n 0, 1) := by decide +kernel
theorem d_SS_makeHandle_22 : decode c_SS_makeHandle 22 = .ok (.getfield 94, 3) := by decide +kernel
theorem d_SS_makeHandle_25 : decode c_SS_makeHandle 25 = .ok (.new 18, 3) := by decide +kernel
theorem d_SS_makeHandle_28 : decode c_SS_makeHandle 28 = .ok (.dup, 1) := by decide +kernel
theorem d_SS_makeHandle_29 : decode c_SS_makeHandle 29 = .ok (.aload_n 0, 1) := by decide +kernel
theorem d_SS_makeHandle_30 : decode c_SS_makeHandle 30 = .ok (.getfield 224, 3) := by decide +kernel
theorem d_SS_makeHandle_33 : decode c_SS_makeHandle 33 = .ok (.aload_n 2, 1) := by decide +kernel
theorem d_SS_makeHandle_34 : decode c_SS_makeHandle 34 = .ok (.aload_n 1, 1) := by decide +kernel
theorem d_SS_makeHandle_35 : decode c_SS_makeHandle 35 = .ok (.iload_n 3, 1) := by decide +kernel
theorem d_SS_makeHandle_36 : decode c_SS_makeHandle 36 = .ok (.invokespecial 256, 3) := by decide +kernel
theorem d_SS_makeHandle_39 : decode c_SS_makeHandle 39 = .ok (.aastore, 1) := by decide +kernel
theorem d_SS_makeHandle_40 : decode c_SS_makeHandle 40 = .ok (.aload_n 0, 1) := by decide +kernel
theorem d_SS_makeHandle_41 : decode c_SS_makeHandle 41 = .ok (.dup, 1) := by decide +kernel
theorem d_SS_makeHandle_42 : decode c_SS_makeHandle 42 = .ok (.getfield 94, 3) := by decide +kernel
theorem d_SS_makeHandle_45 : decode c_SS_makeHandle 45 = .ok (.iconst 1, 1) := by decide +kernel
theorem d_SS_makeHandle_46 : decode c_SS_makeHandle 46 = .ok (.iadd, 1) := by decide +kernel
theorem d_SS_makeHandle_47 : decode c_SS_makeHandle 47 = .ok (.putfield 94, 3) := by decide +kernel
theorem d_SS_makeHandle_50 : decode c_SS_makeHandle 50 = .ok (.aload_n 0, 1) := by decide +kernel
theorem d_SS_makeHandle_51 : decode c_SS_makeHandle 51 = .ok (.getfield 224, 3) := by decide +kernel
theorem d_SS_makeHandle_54 : decode c_SS_makeHandle 54 = .ok (.ireturn, 1) := by decide +kernel
theorem d_SS_grantFor_0 : decode c_SS_grantFor 0 = .ok (.aload_n 2, 1) := by decide +kernel
theorem d_SS_grantFor_1 : decode c_SS_grantFor 1 = .ok (.getfield 136, 3) := by decide +kernel
theorem d_SS_grantFor_4 : decode c_SS_grantFor 4 = .ok (.ifCond .ne 10, 3) := by decide +kernel
theorem d_SS_grantFor_7 : decode c_SS_grantFor 7 = .ok (.aload_n 1, 1) := by decide +kernel
theorem d_SS_grantFor_8 : decode c_SS_grantFor 8 = .ok (.getfield 259, 3) := by decide +kernel
theorem d_SS_grantFor_11 : decode c_SS_grantFor 11 = .ok (.ifCond .ne 5, 3) := by decide +kernel
theorem d_SS_grantFor_14 : decode c_SS_grantFor 14 = .ok (.iconst 0, 1) := by decide +kernel
theorem d_SS_grantFor_15 : decode c_SS_grantFor 15 = .ok (.ireturn, 1) := by decide +kernel
theorem d_SS_grantFor_16 : decode c_SS_grantFor 16 = .ok (.aload_n 1, 1) := by decide +kernel
theorem d_SS_grantFor_17 : decode c_SS_grantFor 17 = .ok (.getfield 259, 3) := by decide +kernel
theorem d_SS_grantFor_20 : decode c_SS_grantFor 20 = .ok (.iconst 2, 1) := by decide +kernel
theorem d_SS_grantFor_21 : decode c_SS_grantFor 21 = .ok (.if_icmp .ne 15, 3) := by decide +kernel
theorem d_SS_grantFor_24 : decode c_SS_grantFor 24 = .ok (.aload_n 0, 1) := by decide +kernel
theorem d_SS_grantFor_25 : decode c_SS_grantFor 25 = .ok (.aload_n 2, 1) := by decide +kernel
theorem d_SS_grantFor_26 : decode c_SS_grantFor 26 = .ok (.invokevirtual 199, 3) := by decide +kernel
theorem d_SS_grantFor_29 : decode c_SS_grantFor 29 = .ok (.ifCond .ne 7, 3) := by decide +kernel
theorem d_SS_grantFor_32 : decode c_SS_grantFor 32 = .ok (.iconst 2, 1) := by decide +kernel
theorem d_SS_grantFor_33 : decode c_SS_grantFor 33 = .ok (.goto 4, 3) := by decide +kernel
theorem d_SS_grantFor_36 : decode c_SS_grantFor 36 = .ok (.iconst 1, 1) := by decide +kernel
theorem d_SS_grantFor_37 : decode c_SS_grantFor 37 = .ok (.ireturn, 1) := by decide +kernel
theorem d_SS_opensOf_0 : decode c_SS_opensOf 0 = .ok (.iconst 0, 1) := by decide +kernel
theorem d_SS_opensOf_1 : decode c_SS_opensOf 1 = .ok (.istore_n 2, 1) := by decide +kernel
theorem d_SS_opensOf_2 : decode c_SS_opensOf 2 = .ok (.iconst 0, 1) := by decide +kernel
theorem d_SS_opensOf_3 : decode c_SS_opensOf 3 = .ok (.istore_n 3, 1) := by decide +kernel
theorem d_SS_opensOf_4 : decode c_SS_opensOf 4 = .ok (.iload_n 3, 1) := by decide +kernel
theorem d_SS_opensOf_5 : decode c_SS_opensOf 5 = .ok (.aload_n 0, 1) := by decide +kernel
theorem d_SS_opensOf_6 : decode c_SS_opensOf 6 = .ok (.getfield 94, 3) := by decide +kernel
theorem d_SS_opensOf_9 : decode c_SS_opensOf 9 = .ok (.if_icmp .ge 25, 3) := by decide +kernel
theorem d_SS_opensOf_12 : decode c_SS_opensOf 12 = .ok (.aload_n 0, 1) := by decide +kernel
theorem d_SS_opensOf_13 : decode c_SS_opensOf 13 = .ok (.getfield 20, 3) := by decide +kernel
theorem d_SS_opensOf_16 : decode c_SS_opensOf 16 = .ok (.iload_n 3, 1) := by decide +kernel
theorem d_SS_opensOf_17 : decode c_SS_opensOf 17 = .ok (.aaload, 1) := by decide +kernel
theorem d_SS_opensOf_18 : decode c_SS_opensOf 18 = .ok (.getfield 76, 3) := by decide +kernel
theorem d_SS_opensOf_21 : decode c_SS_opensOf 21 = .ok (.aload_n 1, 1) := by decide +kernel
theorem d_SS_opensOf_22 : decode c_SS_opensOf 22 = .ok (.if_acmp .ne 6, 3) := by decide +kernel
theorem d_SS_opensOf_25 : decode c_SS_opensOf 25 = .ok (.iinc 2 1, 3) := by decide +kernel
theorem d_SS_opensOf_28 : decode c_SS_opensOf 28 = .ok (.iinc 3 1, 3) := by decide +kernel
theorem d_SS_opensOf_31 : decode c_SS_opensOf 31 = .ok (.goto (-27), 3) := by decide +kernel
theorem d_SS_opensOf_34 : decode c_SS_opensOf 34 = .ok (.iload_n 2, 1) := by decide +kernel
theorem d_SS_opensOf_35 : decode c_SS_opensOf 35 = .ok (.ireturn, 1) := by decide +kernel
theorem d_Hd_init_0 : decode c_Hd_init 0 = .ok (.aload_n 0, 1) := by decide +kernel
theorem d_Hd_init_1 : decode c_Hd_init 1 = .ok (.invokespecial 3, 3) := by decide +kernel
theorem d_Hd_init_4 : decode c_Hd_init 4 = .ok (.aload_n 0, 1) := by decide +kernel
theorem d_Hd_init_5 : decode c_Hd_init 5 = .ok (.iload_n 1, 1) := by decide +kernel
theorem d_Hd_init_6 : decode c_Hd_init 6 = .ok (.putfield 9, 3) := by decide +kernel
theorem d_Hd_init_9 : decode c_Hd_init 9 = .ok (.aload_n 0, 1) := by decide +kernel
theorem d_Hd_init_10 : decode c_Hd_init 10 = .ok (.aload_n 2, 1) := by decide +kernel
theorem d_Hd_init_11 : decode c_Hd_init 11 = .ok (.putfield 15, 3) := by decide +kernel
theorem d_Hd_init_14 : decode c_Hd_init 14 = .ok (.aload_n 0, 1) := by decide +kernel
theorem d_Hd_init_15 : decode c_Hd_init 15 = .ok (.aload_n 3, 1) := by decide +kernel
theorem d_Hd_init_16 : decode c_Hd_init 16 = .ok (.getfield 19, 3) := by decide +kernel
theorem d_Hd_init_19 : decode c_Hd_init 19 = .ok (.putfield 24, 3) := by decide +kernel
theorem d_Hd_init_22 : decode c_Hd_init 22 = .ok (.aload_n 0, 1) := by decide +kernel
theorem d_Hd_init_23 : decode c_Hd_init 23 = .ok (.aload_n 3, 1) := by decide +kernel
theorem d_Hd_init_24 : decode c_Hd_init 24 = .ok (.invokevirtual 25, 3) := by decide +kernel
theorem d_Hd_init_27 : decode c_Hd_init 27 = .ok (.putfield 29, 3) := by decide +kernel
theorem d_Hd_init_30 : decode c_Hd_init 30 = .ok (.aload_n 0, 1) := by decide +kernel
theorem d_Hd_init_31 : decode c_Hd_init 31 = .ok (.aload_n 3, 1) := by decide +kernel
theorem d_Hd_init_32 : decode c_Hd_init 32 = .ok (.invokevirtual 31, 3) := by decide +kernel
theorem d_Hd_init_35 : decode c_Hd_init 35 = .ok (.putfield 34, 3) := by decide +kernel
theorem d_Hd_init_38 : decode c_Hd_init 38 = .ok (.aload_n 0, 1) := by decide +kernel
theorem d_Hd_init_39 : decode c_Hd_init 39 = .ok (.aload_n 3, 1) := by decide +kernel
theorem d_Hd_init_40 : decode c_Hd_init 40 = .ok (.sipush 512, 3) := by decide +kernel
theorem d_Hd_init_43 : decode c_Hd_init 43 = .ok (.invokevirtual 36, 3) := by decide +kernel
theorem d_Hd_init_46 : decode c_Hd_init 46 = .ok (.putfield 40, 3) := by decide +kernel
theorem d_Hd_init_49 : decode c_Hd_init 49 = .ok (.aload_n 0, 1) := by decide +kernel
theorem d_Hd_init_50 : decode c_Hd_init 50 = .ok (.iload 4, 2) := by decide +kernel
theorem d_Hd_init_52 : decode c_Hd_init 52 = .ok (.putfield 44, 3) := by decide +kernel
theorem d_Hd_init_55 : decode c_Hd_init 55 = .ok (.return_, 1) := by decide +kernel
theorem d_Rq_access_0 : decode c_Rq_access 0 = .ok (.aload_n 0, 1) := by decide +kernel
theorem d_Rq_access_1 : decode c_Rq_access 1 = .ok (.getfield 21, 3) := by decide +kernel
theorem d_Rq_access_4 : decode c_Rq_access 4 = .ok (.bipush 7, 2) := by decide +kernel
theorem d_Rq_access_6 : decode c_Rq_access 6 = .ok (.iand, 1) := by decide +kernel
theorem d_Rq_access_7 : decode c_Rq_access 7 = .ok (.ireturn, 1) := by decide +kernel
theorem d_Rq_share_0 : decode c_Rq_share 0 = .ok (.aload_n 0, 1) := by decide +kernel
theorem d_Rq_share_1 : decode c_Rq_share 1 = .ok (.getfield 21, 3) := by decide +kernel
theorem d_Rq_share_4 : decode c_Rq_share 4 = .ok (.iconst 3, 1) := by decide +kernel
theorem d_Rq_share_5 : decode c_Rq_share 5 = .ok (.ishr, 1) := by decide +kernel
theorem d_Rq_share_6 : decode c_Rq_share 6 = .ok (.bipush 7, 2) := by decide +kernel
theorem d_Rq_share_8 : decode c_Rq_share 8 = .ok (.iand, 1) := by decide +kernel
theorem d_Rq_share_9 : decode c_Rq_share 9 = .ok (.ireturn, 1) := by decide +kernel
theorem d_SS_openThere_0 : decode c_SS_openThere 0 = .ok (.aload_n 1, 1) := by decide +kernel
theorem d_SS_openThere_1 : decode c_SS_openThere 1 = .ok (.bipush 64, 2) := by decide +kernel
theorem d_SS_openThere_3 : decode c_SS_openThere 3 = .ok (.invokevirtual 236, 3) := by decide +kernel
theorem d_SS_openThere_6 : decode c_SS_openThere 6 = .ok (.ifCond .eq 16, 3) := by decide +kernel
theorem d_SS_openThere_9 : decode c_SS_openThere 9 = .ok (.aload_n 1, 1) := by decide +kernel
theorem d_SS_openThere_10 : decode c_SS_openThere 10 = .ok (.sipush 128, 3) := by decide +kernel
theorem d_SS_openThere_13 : decode c_SS_openThere 13 = .ok (.invokevirtual 236, 3) := by decide +kernel
theorem d_SS_openThere_16 : decode c_SS_openThere 16 = .ok (.ifCond .eq 6, 3) := by decide +kernel
theorem d_SS_openThere_19 : decode c_SS_openThere 19 = .ok (.bipush (-4), 2) := by decide +kernel
theorem d_SS_openThere_21 : decode c_SS_openThere 21 = .ok (.ireturn, 1) := by decide +kernel
theorem d_SS_openThere_22 : decode c_SS_openThere 22 = .ok (.aload_n 2, 1) := by decide +kernel
theorem d_SS_openThere_23 : decode c_SS_openThere 23 = .ok (.getfield 136, 3) := by decide +kernel
theorem d_SS_openThere_26 : decode c_SS_openThere 26 = .ok (.aload_n 1, 1) := by decide +kernel
theorem d_SS_openThere_27 : decode c_SS_openThere 27 = .ok (.sipush 256, 3) := by decide +kernel
theorem d_SS_openThere_30 : decode c_SS_openThere 30 = .ok (.invokevirtual 236, 3) := by decide +kernel
theorem d_SS_openThere_33 : decode c_SS_openThere 33 = .ok (.if_icmp .eq 6, 3) := by decide +kernel
theorem d_SS_openThere_36 : decode c_SS_openThere 36 = .ok (.bipush (-5), 2) := by decide +kernel
theorem d_SS_openThere_38 : decode c_SS_openThere 38 = .ok (.ireturn, 1) := by decide +kernel
theorem d_SS_openThere_39 : decode c_SS_openThere 39 = .ok (.aload_n 0, 1) := by decide +kernel
theorem d_SS_openThere_40 : decode c_SS_openThere 40 = .ok (.aload_n 2, 1) := by decide +kernel
theorem d_SS_openThere_41 : decode c_SS_openThere 41 = .ok (.invokevirtual 246, 3) := by decide +kernel
theorem d_SS_openThere_44 : decode c_SS_openThere 44 = .ok (.ifCond .eq 5, 3) := by decide +kernel
theorem d_SS_openThere_47 : decode c_SS_openThere 47 = .ok (.iconst 0, 1) := by decide +kernel
theorem d_SS_openThere_48 : decode c_SS_openThere 48 = .ok (.ireturn, 1) := by decide +kernel
theorem d_SS_openThere_49 : decode c_SS_openThere 49 = .ok (.aload_n 2, 1) := by decide +kernel
theorem d_SS_openThere_50 : decode c_SS_openThere 50 = .ok (.getfield 104, 3) := by decide +kernel
theorem d_SS_openThere_53 : decode c_SS_openThere 53 = .ok (.ifCond .eq 6, 3) := by decide +kernel
theorem d_SS_openThere_56 : decode c_SS_openThere 56 = .ok (.bipush (-7), 2) := by decide +kernel
theorem d_SS_openThere_58 : decode c_SS_openThere 58 = .ok (.ireturn, 1) := by decide +kernel
theorem d_SS_openThere_59 : decode c_SS_openThere 59 = .ok (.aload_n 0, 1) := by decide +kernel
theorem d_SS_openThere_60 : decode c_SS_openThere 60 = .ok (.aload_n 1, 1) := by decide +kernel
theorem d_SS_openThere_61 : decode c_SS_openThere 61 = .ok (.aload_n 2, 1) := by decide +kernel
theorem d_SS_openThere_62 : decode c_SS_openThere 62 = .ok (.invokevirtual 249, 3) := by decide +kernel
theorem d_SS_openThere_65 : decode c_SS_openThere 65 = .ok (.ifCond .eq 6, 3) := by decide +kernel
theorem d_SS_openThere_68 : decode c_SS_openThere 68 = .ok (.bipush (-6), 2) := by decide +kernel
theorem d_SS_openThere_70 : decode c_SS_openThere 70 = .ok (.ireturn, 1) := by decide +kernel
theorem d_SS_openThere_71 : decode c_SS_openThere 71 = .ok (.aload_n 0, 1) := by decide +kernel
theorem d_SS_openThere_72 : decode c_SS_openThere 72 = .ok (.getfield 94, 3) := by decide +kernel
theorem d_SS_openThere_75 : decode c_SS_openThere 75 = .ok (.bipush 12, 2) := by decide +kernel
theorem d_SS_openThere_77 : decode c_SS_openThere 77 = .ok (.if_icmp .lt 6, 3) := by decide +kernel
theorem d_SS_openThere_80 : decode c_SS_openThere 80 = .ok (.bipush (-2), 2) := by decide +kernel
theorem d_SS_openThere_82 : decode c_SS_openThere 82 = .ok (.ireturn, 1) := by decide +kernel
theorem d_SS_openThere_83 : decode c_SS_openThere 83 = .ok (.aload_n 0, 1) := by decide +kernel
theorem d_SS_openThere_84 : decode c_SS_openThere 84 = .ok (.aload_n 1, 1) := by decide +kernel
theorem d_SS_openThere_85 : decode c_SS_openThere 85 = .ok (.aload_n 2, 1) := by decide +kernel
theorem d_SS_openThere_86 : decode c_SS_openThere 86 = .ok (.invokevirtual 243, 3) := by decide +kernel
theorem d_SS_openThere_89 : decode c_SS_openThere 89 = .ok (.ireturn, 1) := by decide +kernel
theorem d_SS_breaksGrant_0 : decode c_SS_breaksGrant 0 = .ok (.iconst 0, 1) := by decide +kernel
theorem d_SS_breaksGrant_1 : decode c_SS_breaksGrant 1 = .ok (.istore_n 2, 1) := by decide +kernel
theorem d_SS_breaksGrant_2 : decode c_SS_breaksGrant 2 = .ok (.iload_n 2, 1) := by decide +kernel
theorem d_SS_breaksGrant_3 : decode c_SS_breaksGrant 3 = .ok (.aload_n 0, 1) := by decide +kernel
theorem d_SS_breaksGrant_4 : decode c_SS_breaksGrant 4 = .ok (.getfield 94, 3) := by decide +kernel
theorem d_SS_breaksGrant_7 : decode c_SS_breaksGrant 7 = .ok (.if_icmp .ge 39, 3) := by decide +kernel
theorem d_SS_breaksGrant_10 : decode c_SS_breaksGrant 10 = .ok (.aload_n 0, 1) := by decide +kernel
theorem d_SS_breaksGrant_11 : decode c_SS_breaksGrant 11 = .ok (.getfield 20, 3) := by decide +kernel
theorem d_SS_breaksGrant_14 : decode c_SS_breaksGrant 14 = .ok (.iload_n 2, 1) := by decide +kernel
theorem d_SS_breaksGrant_15 : decode c_SS_breaksGrant 15 = .ok (.aaload, 1) := by decide +kernel
theorem d_SS_breaksGrant_16 : decode c_SS_breaksGrant 16 = .ok (.astore_n 3, 1) := by decide +kernel
theorem d_SS_breaksGrant_17 : decode c_SS_breaksGrant 17 = .ok (.aload_n 3, 1) := by decide +kernel
theorem d_SS_breaksGrant_18 : decode c_SS_breaksGrant 18 = .ok (.getfield 76, 3) := by decide +kernel
theorem d_SS_breaksGrant_21 : decode c_SS_breaksGrant 21 = .ok (.aload_n 1, 1) := by decide +kernel
theorem d_SS_breaksGrant_22 : decode c_SS_breaksGrant 22 = .ok (.if_acmp .ne 18, 3) := by decide +kernel
theorem d_SS_breaksGrant_25 : decode c_SS_breaksGrant 25 = .ok (.aload_n 3, 1) := by decide +kernel
theorem d_SS_breaksGrant_26 : decode c_SS_breaksGrant 26 = .ok (.getfield 70, 3) := by decide +kernel
theorem d_SS_breaksGrant_29 : decode c_SS_breaksGrant 29 = .ok (.iconst 2, 1) := by decide +kernel
theorem d_SS_breaksGrant_30 : decode c_SS_breaksGrant 30 = .ok (.if_icmp .lt 10, 3) := by decide +kernel
theorem d_SS_breaksGrant_33 : decode c_SS_breaksGrant 33 = .ok (.aload_n 3, 1) := by decide +kernel
theorem d_SS_breaksGrant_34 : decode c_SS_breaksGrant 34 = .ok (.iconst 3, 1) := by decide +kernel
theorem d_SS_breaksGrant_35 : decode c_SS_breaksGrant 35 = .ok (.putfield 70, 3) := by decide +kernel
theorem d_SS_breaksGrant_38 : decode c_SS_breaksGrant 38 = .ok (.iconst 1, 1) := by decide +kernel
theorem d_SS_breaksGrant_39 : decode c_SS_breaksGrant 39 = .ok (.ireturn, 1) := by decide +kernel
theorem d_SS_breaksGrant_40 : decode c_SS_breaksGrant 40 = .ok (.iinc 2 1, 3) := by decide +kernel
theorem d_SS_breaksGrant_43 : decode c_SS_breaksGrant 43 = .ok (.goto (-41), 3) := by decide +kernel
theorem d_SS_breaksGrant_46 : decode c_SS_breaksGrant 46 = .ok (.iconst 0, 1) := by decide +kernel
theorem d_SS_breaksGrant_47 : decode c_SS_breaksGrant 47 = .ok (.ireturn, 1) := by decide +kernel
theorem d_SS_clashesWithOpens_0 : decode c_SS_clashesWithOpens 0 = .ok (.iconst 0, 1) := by decide +kernel
theorem d_SS_clashesWithOpens_1 : decode c_SS_clashesWithOpens 1 = .ok (.istore_n 3, 1) := by decide +kernel
theorem d_SS_clashesWithOpens_2 : decode c_SS_clashesWithOpens 2 = .ok (.iload_n 3, 1) := by decide +kernel
theorem d_SS_clashesWithOpens_3 : decode c_SS_clashesWithOpens 3 = .ok (.aload_n 0, 1) := by decide +kernel
theorem d_SS_clashesWithOpens_4 : decode c_SS_clashesWithOpens 4 = .ok (.getfield 94, 3) := by decide +kernel
theorem d_SS_clashesWithOpens_7 : decode c_SS_clashesWithOpens 7 = .ok (.if_icmp .ge 70, 3) := by decide +kernel
theorem d_SS_clashesWithOpens_10 : decode c_SS_clashesWithOpens 10 = .ok (.aload_n 0, 1) := by decide +kernel
theorem d_SS_clashesWithOpens_11 : decode c_SS_clashesWithOpens 11 = .ok (.getfield 20, 3) := by decide +kernel
theorem d_SS_clashesWithOpens_14 : decode c_SS_clashesWithOpens 14 = .ok (.iload_n 3, 1) := by decide +kernel
theorem d_SS_clashesWithOpens_15 : decode c_SS_clashesWithOpens 15 = .ok (.aaload, 1) := by decide +kernel
theorem d_SS_clashesWithOpens_16 : decode c_SS_clashesWithOpens 16 = .ok (.astore 4, 2) := by decide +kernel
theorem d_SS_clashesWithOpens_18 : decode c_SS_clashesWithOpens 18 = .ok (.aload_n 1, 1) := by decide +kernel
theorem d_SS_clashesWithOpens_19 : decode c_SS_clashesWithOpens 19 = .ok (.invokevirtual 262, 3) := by decide +kernel
theorem d_SS_clashesWithOpens_22 : decode c_SS_clashesWithOpens 22 = .ok (.aload 4, 2) := by decide +kernel
theorem d_SS_clashesWithOpens_24 : decode c_SS_clashesWithOpens 24 = .ok (.getfield 209, 3) := by decide +kernel
theorem d_SS_clashesWithOpens_27 : decode c_SS_clashesWithOpens 27 = .ok (.iconst (-1), 1) := by decide +kernel
theorem d_SS_clashesWithOpens_28 : decode c_SS_clashesWithOpens 28 = .ok (.ixor, 1) := by decide +kernel
theorem d_SS_clashesWithOpens_29 : decode c_SS_clashesWithOpens 29 = .ok (.iand, 1) := by decide +kernel
theorem d_SS_clashesWithOpens_30 : decode c_SS_clashesWithOpens 30 = .ok (.ifCond .ne 18, 3) := by decide +kernel
theorem d_SS_clashesWithOpens_33 : decode c_SS_clashesWithOpens 33 = .ok (.aload 4, 2) := by decide +kernel
theorem d_SS_clashesWithOpens_35 : decode c_SS_clashesWithOpens 35 = .ok (.getfield 206, 3) := by decide +kernel
theorem d_SS_clashesWithOpens_38 : decode c_SS_clashesWithOpens 38 = .ok (.aload_n 1, 1) := by decide +kernel
theorem d_SS_clashesWithOpens_39 : decode c_SS_clashesWithOpens 39 = .ok (.invokevirtual 264, 3) := by decide +kernel
theorem d_SS_clashesWithOpens_42 : decode c_SS_clashesWithOpens 42 = .ok (.iconst (-1), 1) := by decide +kernel
theorem d_SS_clashesWithOpens_43 : decode c_SS_clashesWithOpens 43 = .ok (.ixor, 1) := by decide +kernel
theorem d_SS_clashesWithOpens_44 : decode c_SS_clashesWithOpens 44 = .ok (.iand, 1) := by decide +kernel
theorem d_SS_clashesWithOpens_45 : decode c_SS_clashesWithOpens 45 = .ok (.ifCond .eq 7, 3) := by decide +kernel
theorem d_SS_clashesWithOpens_48 : decode c_SS_clashesWithOpens 48 = .ok (.iconst 1, 1) := by decide +kernel
theorem d_SS_clashesWithOpens_49 : decode c_SS_clashesWithOpens 49 = .ok (.goto 4, 3) := by decide +kernel
theorem d_SS_clashesWithOpens_52 : decode c_SS_clashesWithOpens 52 = .ok (.iconst 0, 1) := by decide +kernel
theorem d_SS_clashesWithOpens_53 : decode c_SS_clashesWithOpens 53 = .ok (.istore 5, 2) := by decide +kernel
theorem d_SS_clashesWithOpens_55 : decode c_SS_clashesWithOpens 55 = .ok (.aload 4, 2) := by decide +kernel
theorem d_SS_clashesWithOpens_57 : decode c_SS_clashesWithOpens 57 = .ok (.getfield 76, 3) := by decide +kernel
theorem d_SS_clashesWithOpens_60 : decode c_SS_clashesWithOpens 60 = .ok (.aload_n 2, 1) := by decide +kernel
theorem d_SS_clashesWithOpens_61 : decode c_SS_clashesWithOpens 61 = .ok (.if_acmp .ne 10, 3) := by decide +kernel
theorem d_SS_clashesWithOpens_64 : decode c_SS_clashesWithOpens 64 = .ok (.iload 5, 2) := by decide +kernel
theorem d_SS_clashesWithOpens_66 : decode c_SS_clashesWithOpens 66 = .ok (.ifCond .eq 5, 3) := by decide +kernel
theorem d_SS_clashesWithOpens_69 : decode c_SS_clashesWithOpens 69 = .ok (.iconst 1, 1) := by decide +kernel
theorem d_SS_clashesWithOpens_70 : decode c_SS_clashesWithOpens 70 = .ok (.ireturn, 1) := by decide +kernel
theorem d_SS_clashesWithOpens_71 : decode c_SS_clashesWithOpens 71 = .ok (.iinc 3 1, 3) := by decide +kernel
theorem d_SS_clashesWithOpens_74 : decode c_SS_clashesWithOpens 74 = .ok (.goto (-72), 3) := by decide +kernel
theorem d_SS_clashesWithOpens_77 : decode c_SS_clashesWithOpens 77 = .ok (.iconst 0, 1) := by decide +kernel
theorem d_SS_clashesWithOpens_78 : decode c_SS_clashesWithOpens 78 = .ok (.ireturn, 1) := by decide +kernel
theorem d_SS_outcome_0 : decode c_SS_outcome 0 = .ok (.aload_n 0, 1) := by decide +kernel
theorem d_SS_outcome_1 : decode c_SS_outcome 1 = .ok (.iload_n 1, 1) := by decide +kernel
theorem d_SS_outcome_2 : decode c_SS_outcome 2 = .ok (.invokevirtual 62, 3) := by decide +kernel
theorem d_SS_outcome_5 : decode c_SS_outcome 5 = .ok (.astore_n 2, 1) := by decide +kernel
theorem d_SS_outcome_6 : decode c_SS_outcome 6 = .ok (.aload_n 2, 1) := by decide +kernel
theorem d_SS_outcome_7 : decode c_SS_outcome 7 = .ok (.ifnonnull 7, 3) := by decide +kernel
theorem d_SS_outcome_10 : decode c_SS_outcome 10 = .ok (.iconst (-1), 1) := by decide +kernel
theorem d_SS_outcome_11 : decode c_SS_outcome 11 = .ok (.goto 7, 3) := by decide +kernel
theorem d_SS_outcome_14 : decode c_SS_outcome 14 = .ok (.aload_n 2, 1) := by decide +kernel
theorem d_SS_outcome_15 : decode c_SS_outcome 15 = .ok (.getfield 59, 3) := by decide +kernel
theorem d_SS_outcome_18 : decode c_SS_outcome 18 = .ok (.ireturn, 1) := by decide +kernel
theorem d_SS_requestNumbered_0 : decode c_SS_requestNumbered 0 = .ok (.iload_n 1, 1) := by decide +kernel
theorem d_SS_requestNumbered_1 : decode c_SS_requestNumbered 1 = .ok (.iconst 1, 1) := by decide +kernel
theorem d_SS_requestNumbered_2 : decode c_SS_requestNumbered 2 = .ok (.if_icmp .lt 22, 3) := by decide +kernel
theorem d_SS_requestNumbered_5 : decode c_SS_requestNumbered 5 = .ok (.iload_n 1, 1) := by decide +kernel
theorem d_SS_requestNumbered_6 : decode c_SS_requestNumbered 6 = .ok (.aload_n 0, 1) := by decide +kernel
theorem d_SS_requestNumbered_7 : decode c_SS_requestNumbered 7 = .ok (.getfield 48, 3) := by decide +kernel
theorem d_SS_requestNumbered_10 : decode c_SS_requestNumbered 10 = .ok (.if_icmp .gt 14, 3) := by decide +kernel
theorem d_SS_requestNumbered_13 : decode c_SS_requestNumbered 13 = .ok (.aload_n 0, 1) := by decide +kernel
theorem d_SS_requestNumbered_14 : decode c_SS_requestNumbered 14 = .ok (.getfield 26, 3) := by decide +kernel
theorem d_SS_requestNumbered_17 : decode c_SS_requestNumbered 17 = .ok (.iload_n 1, 1) := by decide +kernel
theorem d_SS_requestNumbered_18 : decode c_SS_requestNumbered 18 = .ok (.iconst 1, 1) := by decide +kernel
theorem d_SS_requestNumbered_19 : decode c_SS_requestNumbered 19 = .ok (.isub, 1) := by decide +kernel
theorem d_SS_requestNumbered_20 : decode c_SS_requestNumbered 20 = .ok (.aaload, 1) := by decide +kernel
theorem d_SS_requestNumbered_21 : decode c_SS_requestNumbered 21 = .ok (.goto 4, 3) := by decide +kernel
theorem d_SS_requestNumbered_24 : decode c_SS_requestNumbered 24 = .ok (.aconst_null, 1) := by decide +kernel
theorem d_SS_requestNumbered_25 : decode c_SS_requestNumbered 25 = .ok (.areturn, 1) := by decide +kernel
theorem d_SS_cancel_0 : decode c_SS_cancel 0 = .ok (.aload_n 0, 1) := by decide +kernel
theorem d_SS_cancel_1 : decode c_SS_cancel 1 = .ok (.iload_n 1, 1) := by decide +kernel
theorem d_SS_cancel_2 : decode c_SS_cancel 2 = .ok (.invokevirtual 62, 3) := by decide +kernel
theorem d_SS_cancel_5 : decode c_SS_cancel 5 = .ok (.astore_n 2, 1) := by decide +kernel
theorem d_SS_cancel_6 : decode c_SS_cancel 6 = .ok (.aload_n 2, 1) := by decide +kernel
theorem d_SS_cancel_7 : decode c_SS_cancel 7 = .ok (.ifnull 10, 3) := by decide +kernel
theorem d_SS_cancel_10 : decode c_SS_cancel 10 = .ok (.aload_n 2, 1) := by decide +kernel
theorem d_SS_cancel_11 : decode c_SS_cancel 11 = .ok (.getfield 59, 3) := by decide +kernel
theorem d_SS_cancel_14 : decode c_SS_cancel 14 = .ok (.ifCond .eq 5, 3) := by decide +kernel
theorem d_SS_cancel_17 : decode c_SS_cancel 17 = .ok (.iconst (-1), 1) := by decide +kernel
theorem d_SS_cancel_18 : decode c_SS_cancel 18 = .ok (.ireturn, 1) := by decide +kernel
theorem d_SS_cancel_19 : decode c_SS_cancel 19 = .ok (.aload_n 2, 1) := by decide +kernel
theorem d_SS_cancel_20 : decode c_SS_cancel 20 = .ok (.bipush (-9), 2) := by decide +kernel
theorem d_SS_cancel_22 : decode c_SS_cancel 22 = .ok (.putfield 59, 3) := by decide +kernel
theorem d_SS_cancel_25 : decode c_SS_cancel 25 = .ok (.iconst 0, 1) := by decide +kernel
theorem d_SS_cancel_26 : decode c_SS_cancel 26 = .ok (.ireturn, 1) := by decide +kernel
theorem d_SS_giveUp_0 : decode c_SS_giveUp 0 = .ok (.aload_n 0, 1) := by decide +kernel
theorem d_SS_giveUp_1 : decode c_SS_giveUp 1 = .ok (.iload_n 1, 1) := by decide +kernel
theorem d_SS_giveUp_2 : decode c_SS_giveUp 2 = .ok (.invokevirtual 66, 3) := by decide +kernel
theorem d_SS_giveUp_5 : decode c_SS_giveUp 5 = .ok (.astore_n 2, 1) := by decide +kernel
theorem d_SS_giveUp_6 : decode c_SS_giveUp 6 = .ok (.aload_n 2, 1) := by decide +kernel
theorem d_SS_giveUp_7 : decode c_SS_giveUp 7 = .ok (.ifnull 10, 3) := by decide +kernel
theorem d_SS_giveUp_10 : decode c_SS_giveUp 10 = .ok (.aload_n 2, 1) := by decide +kernel
theorem d_SS_giveUp_11 : decode c_SS_giveUp 11 = .ok (.getfield 70, 3) := by decide +kernel
theorem d_SS_giveUp_14 : decode c_SS_giveUp 14 = .ok (.ifCond .ne 5, 3) := by decide +kernel
theorem d_SS_giveUp_17 : decode c_SS_giveUp 17 = .ok (.iconst (-1), 1) := by decide +kernel
theorem d_SS_giveUp_18 : decode c_SS_giveUp 18 = .ok (.ireturn, 1) := by decide +kernel
theorem d_SS_giveUp_19 : decode c_SS_giveUp 19 = .ok (.aload_n 2, 1) := by decide +kernel
theorem d_SS_giveUp_20 : decode c_SS_giveUp 20 = .ok (.getfield 70, 3) := by decide +kernel
theorem d_SS_giveUp_23 : decode c_SS_giveUp 23 = .ok (.iconst 3, 1) := by decide +kernel
theorem d_SS_giveUp_24 : decode c_SS_giveUp 24 = .ok (.if_icmp .ne 7, 3) := by decide +kernel
theorem d_SS_giveUp_27 : decode c_SS_giveUp 27 = .ok (.iconst 1, 1) := by decide +kernel
theorem d_SS_giveUp_28 : decode c_SS_giveUp 28 = .ok (.goto 4, 3) := by decide +kernel
theorem d_SS_giveUp_31 : decode c_SS_giveUp 31 = .ok (.iconst 0, 1) := by decide +kernel
theorem d_SS_giveUp_32 : decode c_SS_giveUp 32 = .ok (.istore_n 3, 1) := by decide +kernel
theorem d_SS_giveUp_33 : decode c_SS_giveUp 33 = .ok (.aload_n 2, 1) := by decide +kernel
theorem d_SS_giveUp_34 : decode c_SS_giveUp 34 = .ok (.aload_n 2, 1) := by decide +kernel
theorem d_SS_giveUp_35 : decode c_SS_giveUp 35 = .ok (.getfield 70, 3) := by decide +kernel
theorem d_SS_giveUp_38 : decode c_SS_giveUp 38 = .ok (.iconst 1, 1) := by decide +kernel
theorem d_SS_giveUp_39 : decode c_SS_giveUp 39 = .ok (.if_icmp .ne 7, 3) := by decide +kernel
theorem d_SS_giveUp_42 : decode c_SS_giveUp 42 = .ok (.iconst 0, 1) := by decide +kernel
theorem d_SS_giveUp_43 : decode c_SS_giveUp 43 = .ok (.goto 4, 3) := by decide +kernel
theorem d_SS_giveUp_46 : decode c_SS_giveUp 46 = .ok (.iconst 1, 1) := by decide +kernel
theorem d_SS_giveUp_47 : decode c_SS_giveUp 47 = .ok (.putfield 70, 3) := by decide +kernel
theorem d_SS_giveUp_50 : decode c_SS_giveUp 50 = .ok (.iload_n 3, 1) := by decide +kernel
theorem d_SS_giveUp_51 : decode c_SS_giveUp 51 = .ok (.ifCond .eq 7, 3) := by decide +kernel
theorem d_SS_giveUp_54 : decode c_SS_giveUp 54 = .ok (.aload_n 0, 1) := by decide +kernel
theorem d_SS_giveUp_55 : decode c_SS_giveUp 55 = .ok (.invokevirtual 73, 3) := by decide +kernel
theorem d_SS_giveUp_58 : decode c_SS_giveUp 58 = .ok (.aload_n 2, 1) := by decide +kernel
theorem d_SS_giveUp_59 : decode c_SS_giveUp 59 = .ok (.getfield 70, 3) := by decide +kernel
theorem d_SS_giveUp_62 : decode c_SS_giveUp 62 = .ok (.ireturn, 1) := by decide +kernel
theorem d_SS_openHandle_0 : decode c_SS_openHandle 0 = .ok (.iconst 0, 1) := by decide +kernel
theorem d_SS_openHandle_1 : decode c_SS_openHandle 1 = .ok (.istore_n 2, 1) := by decide +kernel
theorem d_SS_openHandle_2 : decode c_SS_openHandle 2 = .ok (.iload_n 2, 1) := by decide +kernel
theorem d_SS_openHandle_3 : decode c_SS_openHandle 3 = .ok (.aload_n 0, 1) := by decide +kernel
theorem d_SS_openHandle_4 : decode c_SS_openHandle 4 = .ok (.getfield 94, 3) := by decide +kernel
theorem d_SS_openHandle_7 : decode c_SS_openHandle 7 = .ok (.if_icmp .ge 29, 3) := by decide +kernel
theorem d_SS_openHandle_10 : decode c_SS_openHandle 10 = .ok (.aload_n 0, 1) := by decide +kernel
theorem d_SS_openHandle_11 : decode c_SS_openHandle 11 = .ok (.getfield 20, 3) := by decide +kernel
theorem d_SS_openHandle_14 : decode c_SS_openHandle 14 = .ok (.iload_n 2, 1) := by decide +kernel
theorem d_SS_openHandle_15 : decode c_SS_openHandle 15 = .ok (.aaload, 1) := by decide +kernel
theorem d_SS_openHandle_16 : decode c_SS_openHandle 16 = .ok (.getfield 266, 3) := by decide +kernel
theorem d_SS_openHandle_19 : decode c_SS_openHandle 19 = .ok (.iload_n 1, 1) := by decide +kernel
theorem d_SS_openHandle_20 : decode c_SS_openHandle 20 = .ok (.if_icmp .ne 10, 3) := by decide +kernel
theorem d_SS_openHandle_23 : decode c_SS_openHandle 23 = .ok (.aload_n 0, 1) := by decide +kernel
theorem d_SS_openHandle_24 : decode c_SS_openHandle 24 = .ok (.getfield 20, 3) := by decide +kernel
theorem d_SS_openHandle_27 : decode c_SS_openHandle 27 = .ok (.iload_n 2, 1) := by decide +kernel
theorem d_SS_openHandle_28 : decode c_SS_openHandle 28 = .ok (.aaload, 1) := by decide +kernel
theorem d_SS_openHandle_29 : decode c_SS_openHandle 29 = .ok (.areturn, 1) := by decide +kernel
theorem d_SS_openHandle_30 : decode c_SS_openHandle 30 = .ok (.iinc 2 1, 3) := by decide +kernel
theorem d_SS_openHandle_33 : decode c_SS_openHandle 33 = .ok (.goto (-31), 3) := by decide +kernel
theorem d_SS_openHandle_36 : decode c_SS_openHandle 36 = .ok (.aconst_null, 1) := by decide +kernel
theorem d_SS_openHandle_37 : decode c_SS_openHandle 37 = .ok (.areturn, 1) := by decide +kernel
theorem d_SS_tryWaitingAgain_0 : decode c_SS_tryWaitingAgain 0 = .ok (.iconst 0, 1) := by decide +kernel
theorem d_SS_tryWaitingAgain_1 : decode c_SS_tryWaitingAgain 1 = .ok (.istore_n 1, 1) := by decide +kernel
theorem d_SS_tryWaitingAgain_2 : decode c_SS_tryWaitingAgain 2 = .ok (.iload_n 1, 1) := by decide +kernel
theorem d_SS_tryWaitingAgain_3 : decode c_SS_tryWaitingAgain 3 = .ok (.aload_n 0, 1) := by decide +kernel
theorem d_SS_tryWaitingAgain_4 : decode c_SS_tryWaitingAgain 4 = .ok (.getfield 48, 3) := by decide +kernel
theorem d_SS_tryWaitingAgain_7 : decode c_SS_tryWaitingAgain 7 = .ok (.if_icmp .ge 40, 3) := by decide +kernel
theorem d_SS_tryWaitingAgain_10 : decode c_SS_tryWaitingAgain 10 = .ok (.aload_n 0, 1) := by decide +kernel
theorem d_SS_tryWaitingAgain_11 : decode c_SS_tryWaitingAgain 11 = .ok (.getfield 26, 3) := by decide +kernel
theorem d_SS_tryWaitingAgain_14 : decode c_SS_tryWaitingAgain 14 = .ok (.iload_n 1, 1) := by decide +kernel
theorem d_SS_tryWaitingAgain_15 : decode c_SS_tryWaitingAgain 15 = .ok (.aaload, 1) := by decide +kernel
theorem d_SS_tryWaitingAgain_16 : decode c_SS_tryWaitingAgain 16 = .ok (.getfield 59, 3) := by decide +kernel
theorem d_SS_tryWaitingAgain_19 : decode c_SS_tryWaitingAgain 19 = .ok (.ifCond .ne 22, 3) := by decide +kernel
theorem d_SS_tryWaitingAgain_22 : decode c_SS_tryWaitingAgain 22 = .ok (.aload_n 0, 1) := by decide +kernel
theorem d_SS_tryWaitingAgain_23 : decode c_SS_tryWaitingAgain 23 = .ok (.getfield 26, 3) := by decide +kernel
theorem d_SS_tryWaitingAgain_26 : decode c_SS_tryWaitingAgain 26 = .ok (.iload_n 1, 1) := by decide +kernel
theorem d_SS_tryWaitingAgain_27 : decode c_SS_tryWaitingAgain 27 = .ok (.aaload, 1) := by decide +kernel
theorem d_SS_tryWaitingAgain_28 : decode c_SS_tryWaitingAgain 28 = .ok (.aload_n 0, 1) := by decide +kernel
theorem d_SS_tryWaitingAgain_29 : decode c_SS_tryWaitingAgain 29 = .ok (.aload_n 0, 1) := by decide +kernel
theorem d_SS_tryWaitingAgain_30 : decode c_SS_tryWaitingAgain 30 = .ok (.getfield 26, 3) := by decide +kernel
theorem d_SS_tryWaitingAgain_33 : decode c_SS_tryWaitingAgain 33 = .ok (.iload_n 1, 1) := by decide +kernel
theorem d_SS_tryWaitingAgain_34 : decode c_SS_tryWaitingAgain 34 = .ok (.aaload, 1) := by decide +kernel
theorem d_SS_tryWaitingAgain_35 : decode c_SS_tryWaitingAgain 35 = .ok (.invokevirtual 55, 3) := by decide +kernel
theorem d_SS_tryWaitingAgain_38 : decode c_SS_tryWaitingAgain 38 = .ok (.putfield 59, 3) := by decide +kernel
theorem d_SS_tryWaitingAgain_41 : decode c_SS_tryWaitingAgain 41 = .ok (.iinc 1 1, 3) := by decide +kernel
theorem d_SS_tryWaitingAgain_44 : decode c_SS_tryWaitingAgain 44 = .ok (.goto (-42), 3) := by decide +kernel
theorem d_SS_tryWaitingAgain_47 : decode c_SS_tryWaitingAgain 47 = .ok (.return_, 1) := by decide +kernel
theorem d_SS_close_0 : decode c_SS_close 0 = .ok (.aload_n 0, 1) := by decide +kernel
theorem d_SS_close_1 : decode c_SS_close 1 = .ok (.iload_n 1, 1) := by decide +kernel
theorem d_SS_close_2 : decode c_SS_close 2 = .ok (.invokevirtual 66, 3) := by decide +kernel
theorem d_SS_close_5 : decode c_SS_close 5 = .ok (.astore_n 2, 1) := by decide +kernel
theorem d_SS_close_6 : decode c_SS_close 6 = .ok (.aload_n 2, 1) := by decide +kernel
theorem d_SS_close_7 : decode c_SS_close 7 = .ok (.ifnonnull 5, 3) := by decide +kernel
theorem d_SS_close_10 : decode c_SS_close 10 = .ok (.iconst (-1), 1) := by decide +kernel
theorem d_SS_close_11 : decode c_SS_close 11 = .ok (.ireturn, 1) := by decide +kernel
theorem d_SS_close_12 : decode c_SS_close 12 = .ok (.aload_n 2, 1) := by decide +kernel
theorem d_SS_close_13 : decode c_SS_close 13 = .ok (.getfield 76, 3) := by decide +kernel
theorem d_SS_close_16 : decode c_SS_close 16 = .ok (.aload_n 2, 1) := by decide +kernel
theorem d_SS_close_17 : decode c_SS_close 17 = .ok (.invokevirtual 80, 3) := by decide +kernel
theorem d_SS_close_20 : decode c_SS_close 20 = .ok (.aload_n 0, 1) := by decide +kernel
theorem d_SS_close_21 : decode c_SS_close 21 = .ok (.aload_n 2, 1) := by decide +kernel
theorem d_SS_close_22 : decode c_SS_close 22 = .ok (.invokevirtual 84, 3) := by decide +kernel
theorem d_SS_close_25 : decode c_SS_close 25 = .ok (.aload_n 0, 1) := by decide +kernel
theorem d_SS_close_26 : decode c_SS_close 26 = .ok (.aload_n 2, 1) := by decide +kernel
theorem d_SS_close_27 : decode c_SS_close 27 = .ok (.invokevirtual 87, 3) := by decide +kernel
theorem d_SS_close_30 : decode c_SS_close 30 = .ok (.aload_n 0, 1) := by decide +kernel
theorem d_SS_close_31 : decode c_SS_close 31 = .ok (.aload_n 2, 1) := by decide +kernel
theorem d_SS_close_32 : decode c_SS_close 32 = .ok (.getfield 76, 3) := by decide +kernel
theorem d_SS_close_35 : decode c_SS_close 35 = .ok (.invokevirtual 90, 3) := by decide +kernel
theorem d_SS_close_38 : decode c_SS_close 38 = .ok (.aload_n 2, 1) := by decide +kernel
theorem d_SS_close_39 : decode c_SS_close 39 = .ok (.getfield 70, 3) := by decide +kernel
theorem d_SS_close_42 : decode c_SS_close 42 = .ok (.iconst 3, 1) := by decide +kernel
theorem d_SS_close_43 : decode c_SS_close 43 = .ok (.if_icmp .ne 7, 3) := by decide +kernel
theorem d_SS_close_46 : decode c_SS_close 46 = .ok (.aload_n 0, 1) := by decide +kernel
theorem d_SS_close_47 : decode c_SS_close 47 = .ok (.invokevirtual 73, 3) := by decide +kernel
theorem d_SS_close_50 : decode c_SS_close 50 = .ok (.aload_n 0, 1) := by decide +kernel
theorem d_SS_close_51 : decode c_SS_close 51 = .ok (.getfield 94, 3) := by decide +kernel
theorem d_SS_close_54 : decode c_SS_close 54 = .ok (.ireturn, 1) := by decide +kernel
theorem d_Nd_dropLocksOf_0 : decode c_Nd_dropLocksOf 0 = .ok (.iconst 0, 1) := by decide +kernel
theorem d_Nd_dropLocksOf_1 : decode c_Nd_dropLocksOf 1 = .ok (.istore_n 2, 1) := by decide +kernel
theorem d_Nd_dropLocksOf_2 : decode c_Nd_dropLocksOf 2 = .ok (.iconst 0, 1) := by decide +kernel
theorem d_Nd_dropLocksOf_3 : decode c_Nd_dropLocksOf 3 = .ok (.istore_n 3, 1) := by decide +kernel
theorem d_Nd_dropLocksOf_4 : decode c_Nd_dropLocksOf 4 = .ok (.iload_n 3, 1) := by decide +kernel
theorem d_Nd_dropLocksOf_5 : decode c_Nd_dropLocksOf 5 = .ok (.aload_n 0, 1) := by decide +kernel
theorem d_Nd_dropLocksOf_6 : decode c_Nd_dropLocksOf 6 = .ok (.getfield 35, 3) := by decide +kernel
theorem d_Nd_dropLocksOf_9 : decode c_Nd_dropLocksOf 9 = .ok (.if_icmp .ge 37, 3) := by decide +kernel
theorem d_Nd_dropLocksOf_12 : decode c_Nd_dropLocksOf 12 = .ok (.aload_n 0, 1) := by decide +kernel
theorem d_Nd_dropLocksOf_13 : decode c_Nd_dropLocksOf 13 = .ok (.getfield 31, 3) := by decide +kernel
theorem d_Nd_dropLocksOf_16 : decode c_Nd_dropLocksOf 16 = .ok (.iload_n 3, 1) := by decide +kernel
theorem d_Nd_dropLocksOf_17 : decode c_Nd_dropLocksOf 17 = .ok (.aaload, 1) := by decide +kernel
theorem d_Nd_dropLocksOf_18 : decode c_Nd_dropLocksOf 18 = .ok (.getfield 45, 3) := by decide +kernel
theorem d_Nd_dropLocksOf_21 : decode c_Nd_dropLocksOf 21 = .ok (.aload_n 1, 1) := by decide +kernel
theorem d_Nd_dropLocksOf_22 : decode c_Nd_dropLocksOf 22 = .ok (.if_acmp .eq 18, 3) := by decide +kernel
theorem d_Nd_dropLocksOf_25 : decode c_Nd_dropLocksOf 25 = .ok (.aload_n 0, 1) := by decide +kernel
theorem d_Nd_dropLocksOf_26 : decode c_Nd_dropLocksOf 26 = .ok (.getfield 31, 3) := by decide +kernel
theorem d_Nd_dropLocksOf_29 : decode c_Nd_dropLocksOf 29 = .ok (.iload_n 2, 1) := by decide +kernel
theorem d_Nd_dropLocksOf_30 : decode c_Nd_dropLocksOf 30 = .ok (.aload_n 0, 1) := by decide +kernel
theorem d_Nd_dropLocksOf_31 : decode c_Nd_dropLocksOf 31 = .ok (.getfield 31, 3) := by decide +kernel
theorem d_Nd_dropLocksOf_34 : decode c_Nd_dropLocksOf 34 = .ok (.iload_n 3, 1) := by decide +kernel
theorem d_Nd_dropLocksOf_35 : decode c_Nd_dropLocksOf 35 = .ok (.aaload, 1) := by decide +kernel
theorem d_Nd_dropLocksOf_36 : decode c_Nd_dropLocksOf 36 = .ok (.aastore, 1) := by decide +kernel
theorem d_Nd_dropLocksOf_37 : decode c_Nd_dropLocksOf 37 = .ok (.iinc 2 1, 3) := by decide +kernel
theorem d_Nd_dropLocksOf_40 : decode c_Nd_dropLocksOf 40 = .ok (.iinc 3 1, 3) := by decide +kernel
theorem d_Nd_dropLocksOf_43 : decode c_Nd_dropLocksOf 43 = .ok (.goto (-39), 3) := by decide +kernel
theorem d_Nd_dropLocksOf_46 : decode c_Nd_dropLocksOf 46 = .ok (.aload_n 0, 1) := by decide +kernel
theorem d_Nd_dropLocksOf_47 : decode c_Nd_dropLocksOf 47 = .ok (.iload_n 2, 1) := by decide +kernel
theorem d_Nd_dropLocksOf_48 : decode c_Nd_dropLocksOf 48 = .ok (.putfield 35, 3) := by decide +kernel
theorem d_Nd_dropLocksOf_51 : decode c_Nd_dropLocksOf 51 = .ok (.return_, 1) := by decide +kernel
theorem d_SS_dropFromOpens_0 : decode c_SS_dropFromOpens 0 = .ok (.iconst 0, 1) := by decide +kernel
theorem d_SS_dropFromOpens_1 : decode c_SS_dropFromOpens 1 = .ok (.istore_n 2, 1) := by decide +kernel
theorem d_SS_dropFromOpens_2 : decode c_SS_dropFromOpens 2 = .ok (.iconst 0, 1) := by decide +kernel
theorem d_SS_dropFromOpens_3 : decode c_SS_dropFromOpens 3 = .ok (.istore_n 3, 1) := by decide +kernel
theorem d_SS_dropFromOpens_4 : decode c_SS_dropFromOpens 4 = .ok (.iload_n 3, 1) := by decide +kernel
theorem d_SS_dropFromOpens_5 : decode c_SS_dropFromOpens 5 = .ok (.aload_n 0, 1) := by decide +kernel
theorem d_SS_dropFromOpens_6 : decode c_SS_dropFromOpens 6 = .ok (.getfield 94, 3) := by decide +kernel
theorem d_SS_dropFromOpens_9 : decode c_SS_dropFromOpens 9 = .ok (.if_icmp .ge 34, 3) := by decide +kernel
theorem d_SS_dropFromOpens_12 : decode c_SS_dropFromOpens 12 = .ok (.aload_n 0, 1) := by decide +kernel
theorem d_SS_dropFromOpens_13 : decode c_SS_dropFromOpens 13 = .ok (.getfield 20, 3) := by decide +kernel
theorem d_SS_dropFromOpens_16 : decode c_SS_dropFromOpens 16 = .ok (.iload_n 3, 1) := by decide +kernel
theorem d_SS_dropFromOpens_17 : decode c_SS_dropFromOpens 17 = .ok (.aaload, 1) := by decide +kernel
theorem d_SS_dropFromOpens_18 : decode c_SS_dropFromOpens 18 = .ok (.aload_n 1, 1) := by decide +kernel
theorem d_SS_dropFromOpens_19 : decode c_SS_dropFromOpens 19 = .ok (.if_acmp .eq 18, 3) := by decide +kernel
theorem d_SS_dropFromOpens_22 : decode c_SS_dropFromOpens 22 = .ok (.aload_n 0, 1) := by decide +kernel
theorem d_SS_dropFromOpens_23 : decode c_SS_dropFromOpens 23 = .ok (.getfield 20, 3) := by decide +kernel
theorem d_SS_dropFromOpens_26 : decode c_SS_dropFromOpens 26 = .ok (.iload_n 2, 1) := by decide +kernel
theorem d_SS_dropFromOpens_27 : decode c_SS_dropFromOpens 27 = .ok (.aload_n 0, 1) := by decide +kernel
theorem d_SS_dropFromOpens_28 : decode c_SS_dropFromOpens 28 = .ok (.getfield 20, 3) := by decide +kernel
theorem d_SS_dropFromOpens_31 : decode c_SS_dropFromOpens 31 = .ok (.iload_n 3, 1) := by decide +kernel
theorem d_SS_dropFromOpens_32 : decode c_SS_dropFromOpens 32 = .ok (.aaload, 1) := by decide +kernel
theorem d_SS_dropFromOpens_33 : decode c_SS_dropFromOpens 33 = .ok (.aastore, 1) := by decide +kernel
theorem d_SS_dropFromOpens_34 : decode c_SS_dropFromOpens 34 = .ok (.iinc 2 1, 3) := by decide +kernel
theorem d_SS_dropFromOpens_37 : decode c_SS_dropFromOpens 37 = .ok (.iinc 3 1, 3) := by decide +kernel
theorem d_SS_dropFromOpens_40 : decode c_SS_dropFromOpens 40 = .ok (.goto (-36), 3) := by decide +kernel
theorem d_SS_dropFromOpens_43 : decode c_SS_dropFromOpens 43 = .ok (.aload_n 0, 1) := by decide +kernel
theorem d_SS_dropFromOpens_44 : decode c_SS_dropFromOpens 44 = .ok (.iload_n 2, 1) := by decide +kernel
theorem d_SS_dropFromOpens_45 : decode c_SS_dropFromOpens 45 = .ok (.putfield 94, 3) := by decide +kernel
theorem d_SS_dropFromOpens_48 : decode c_SS_dropFromOpens 48 = .ok (.return_, 1) := by decide +kernel
theorem d_SS_doomIfItRemoves_0 : decode c_SS_doomIfItRemoves 0 = .ok (.aload_n 1, 1) := by decide +kernel
theorem d_SS_doomIfItRemoves_1 : decode c_SS_doomIfItRemoves 1 = .ok (.getfield 267, 3) := by decide +kernel
theorem d_SS_doomIfItRemoves_4 : decode c_SS_doomIfItRemoves 4 = .ok (.ifCond .eq 22, 3) := by decide +kernel
theorem d_SS_doomIfItRemoves_7 : decode c_SS_doomIfItRemoves 7 = .ok (.aload_n 0, 1) := by decide +kernel
theorem d_SS_doomIfItRemoves_8 : decode c_SS_doomIfItRemoves 8 = .ok (.aload_n 1, 1) := by decide +kernel
theorem d_SS_doomIfItRemoves_9 : decode c_SS_doomIfItRemoves 9 = .ok (.getfield 76, 3) := by decide +kernel
theorem d_SS_doomIfItRemoves_12 : decode c_SS_doomIfItRemoves 12 = .ok (.invokevirtual 100, 3) := by decide +kernel
theorem d_SS_doomIfItRemoves_15 : decode c_SS_doomIfItRemoves 15 = .ok (.ifCond .eq 11, 3) := by decide +kernel
theorem d_SS_doomIfItRemoves_18 : decode c_SS_doomIfItRemoves 18 = .ok (.aload_n 1, 1) := by decide +kernel
theorem d_SS_doomIfItRemoves_19 : decode c_SS_doomIfItRemoves 19 = .ok (.getfield 76, 3) := by decide +kernel
theorem d_SS_doomIfItRemoves_22 : decode c_SS_doomIfItRemoves 22 = .ok (.iconst 1, 1) := by decide +kernel
theorem d_SS_doomIfItRemoves_23 : decode c_SS_doomIfItRemoves 23 = .ok (.putfield 104, 3) := by decide +kernel
theorem d_SS_doomIfItRemoves_26 : decode c_SS_doomIfItRemoves 26 = .ok (.return_, 1) := by decide +kernel
theorem d_SS_isRemovable_0 : decode c_SS_isRemovable 0 = .ok (.aload_n 1, 1) := by decide +kernel
theorem d_SS_isRemovable_1 : decode c_SS_isRemovable 1 = .ok (.getfield 108, 3) := by decide +kernel
theorem d_SS_isRemovable_4 : decode c_SS_isRemovable 4 = .ok (.ifCond .eq 15, 3) := by decide +kernel
theorem d_SS_isRemovable_7 : decode c_SS_isRemovable 7 = .ok (.aload_n 0, 1) := by decide +kernel
theorem d_SS_isRemovable_8 : decode c_SS_isRemovable 8 = .ok (.aload_n 1, 1) := by decide +kernel
theorem d_SS_isRemovable_9 : decode c_SS_isRemovable 9 = .ok (.invokevirtual 203, 3) := by decide +kernel
theorem d_SS_isRemovable_12 : decode c_SS_isRemovable 12 = .ok (.ifCond .ne 7, 3) := by decide +kernel
theorem d_SS_isRemovable_15 : decode c_SS_isRemovable 15 = .ok (.iconst 1, 1) := by decide +kernel
theorem d_SS_isRemovable_16 : decode c_SS_isRemovable 16 = .ok (.goto 4, 3) := by decide +kernel
theorem d_SS_isRemovable_19 : decode c_SS_isRemovable 19 = .ok (.iconst 0, 1) := by decide +kernel
theorem d_SS_isRemovable_20 : decode c_SS_isRemovable 20 = .ok (.ireturn, 1) := by decide +kernel
theorem d_SS_nodesIn_0 : decode c_SS_nodesIn 0 = .ok (.iconst 0, 1) := by decide +kernel
theorem d_SS_nodesIn_1 : decode c_SS_nodesIn 1 = .ok (.istore_n 2, 1) := by decide +kernel
theorem d_SS_nodesIn_2 : decode c_SS_nodesIn 2 = .ok (.iconst 0, 1) := by decide +kernel
theorem d_SS_nodesIn_3 : decode c_SS_nodesIn 3 = .ok (.istore_n 3, 1) := by decide +kernel
theorem d_SS_nodesIn_4 : decode c_SS_nodesIn 4 = .ok (.iload_n 3, 1) := by decide +kernel
theorem d_SS_nodesIn_5 : decode c_SS_nodesIn 5 = .ok (.aload_n 0, 1) := by decide +kernel
theorem d_SS_nodesIn_6 : decode c_SS_nodesIn 6 = .ok (.getfield 11, 3) := by decide +kernel
theorem d_SS_nodesIn_9 : decode c_SS_nodesIn 9 = .ok (.arraylength, 1) := by decide +kernel
theorem d_SS_nodesIn_10 : decode c_SS_nodesIn 10 = .ok (.if_icmp .ge 37, 3) := by decide +kernel
theorem d_SS_nodesIn_13 : decode c_SS_nodesIn 13 = .ok (.aload_n 0, 1) := by decide +kernel
theorem d_SS_nodesIn_14 : decode c_SS_nodesIn 14 = .ok (.getfield 11, 3) := by decide +kernel
theorem d_SS_nodesIn_17 : decode c_SS_nodesIn 17 = .ok (.iload_n 3, 1) := by decide +kernel
theorem d_SS_nodesIn_18 : decode c_SS_nodesIn 18 = .ok (.aaload, 1) := by decide +kernel
theorem d_SS_nodesIn_19 : decode c_SS_nodesIn 19 = .ok (.ifnull 22, 3) := by decide +kernel
theorem d_SS_nodesIn_22 : decode c_SS_nodesIn 22 = .ok (.aload_n 0, 1) := by decide +kernel
theorem d_SS_nodesIn_23 : decode c_SS_nodesIn 23 = .ok (.getfield 11, 3) := by decide +kernel
theorem d_SS_nodesIn_26 : decode c_SS_nodesIn 26 = .ok (.iload_n 3, 1) := by decide +kernel
theorem d_SS_nodesIn_27 : decode c_SS_nodesIn 27 = .ok (.aaload, 1) := by decide +kernel
theorem d_SS_nodesIn_28 : decode c_SS_nodesIn 28 = .ok (.getfield 123, 3) := by decide +kernel
theorem d_SS_nodesIn_31 : decode c_SS_nodesIn 31 = .ok (.aload_n 1, 1) := by decide +kernel
theorem d_SS_nodesIn_32 : decode c_SS_nodesIn 32 = .ok (.getfield 108, 3) := by decide +kernel
theorem d_SS_nodesIn_35 : decode c_SS_nodesIn 35 = .ok (.if_icmp .ne 6, 3) := by decide +kernel
theorem d_SS_nodesIn_38 : decode c_SS_nodesIn 38 = .ok (.iinc 2 1, 3) := by decide +kernel
theorem d_SS_nodesIn_41 : decode c_SS_nodesIn 41 = .ok (.iinc 3 1, 3) := by decide +kernel
theorem d_SS_nodesIn_44 : decode c_SS_nodesIn 44 = .ok (.goto (-40), 3) := by decide +kernel
theorem d_SS_nodesIn_47 : decode c_SS_nodesIn 47 = .ok (.iload_n 2, 1) := by decide +kernel
theorem d_SS_nodesIn_48 : decode c_SS_nodesIn 48 = .ok (.ireturn, 1) := by decide +kernel
theorem d_SS_settleDoom_0 : decode c_SS_settleDoom 0 = .ok (.aload_n 1, 1) := by decide +kernel
theorem d_SS_settleDoom_1 : decode c_SS_settleDoom 1 = .ok (.getfield 104, 3) := by decide +kernel
theorem d_SS_settleDoom_4 : decode c_SS_settleDoom 4 = .ok (.ifCond .eq 11, 3) := by decide +kernel
theorem d_SS_settleDoom_7 : decode c_SS_settleDoom 7 = .ok (.aload_n 0, 1) := by decide +kernel
theorem d_SS_settleDoom_8 : decode c_SS_settleDoom 8 = .ok (.aload_n 1, 1) := by decide +kernel
theorem d_SS_settleDoom_9 : decode c_SS_settleDoom 9 = .ok (.invokevirtual 199, 3) := by decide +kernel
theorem d_SS_settleDoom_12 : decode c_SS_settleDoom 12 = .ok (.ifCond .le 4, 3) := by decide +kernel
theorem d_SS_settleDoom_15 : decode c_SS_settleDoom 15 = .ok (.return_, 1) := by decide +kernel
theorem d_SS_settleDoom_16 : decode c_SS_settleDoom 16 = .ok (.aload_n 0, 1) := by decide +kernel
theorem d_SS_settleDoom_17 : decode c_SS_settleDoom 17 = .ok (.aload_n 1, 1) := by decide +kernel
theorem d_SS_settleDoom_18 : decode c_SS_settleDoom 18 = .ok (.invokevirtual 100, 3) := by decide +kernel
theorem d_SS_settleDoom_21 : decode c_SS_settleDoom 21 = .ok (.ifCond .eq 34, 3) := by decide +kernel
theorem d_SS_settleDoom_24 : decode c_SS_settleDoom 24 = .ok (.aload_n 0, 1) := by decide +kernel
theorem d_SS_settleDoom_25 : decode c_SS_settleDoom 25 = .ok (.getfield 11, 3) := by decide +kernel
theorem d_SS_settleDoom_28 : decode c_SS_settleDoom 28 = .ok (.aload_n 1, 1) := by decide +kernel
theorem d_SS_settleDoom_29 : decode c_SS_settleDoom 29 = .ok (.getfield 108, 3) := by decide +kernel
theorem d_SS_settleDoom_32 : decode c_SS_settleDoom 32 = .ok (.aconst_null, 1) := by decide +kernel
theorem d_SS_settleDoom_33 : decode c_SS_settleDoom 33 = .ok (.aastore, 1) := by decide +kernel
theorem d_SS_settleDoom_34 : decode c_SS_settleDoom 34 = .ok (.aload_n 0, 1) := by decide +kernel
theorem d_SS_settleDoom_35 : decode c_SS_settleDoom 35 = .ok (.getfield 33, 3) := by decide +kernel
theorem d_SS_settleDoom_38 : decode c_SS_settleDoom 38 = .ok (.new 121, 3) := by decide +kernel
theorem d_SS_settleDoom_41 : decode c_SS_settleDoom 41 = .ok (.dup, 1) := by decide +kernel
theorem d_SS_settleDoom_42 : decode c_SS_settleDoom 42 = .ok (.iconst 1, 1) := by decide +kernel
theorem d_SS_settleDoom_43 : decode c_SS_settleDoom 43 = .ok (.aload_n 1, 1) := by decide +kernel
theorem d_SS_settleDoom_44 : decode c_SS_settleDoom 44 = .ok (.iconst 0, 1) := by decide +kernel
theorem d_SS_settleDoom_45 : decode c_SS_settleDoom 45 = .ok (.iconst 0, 1) := by decide +kernel
theorem d_SS_settleDoom_46 : decode c_SS_settleDoom 46 = .ok (.invokespecial 129, 3) := by decide +kernel
theorem d_SS_settleDoom_49 : decode c_SS_settleDoom 49 = .ok (.invokevirtual 132, 3) := by decide +kernel
theorem d_SS_settleDoom_52 : decode c_SS_settleDoom 52 = .ok (.goto 8, 3) := by decide +kernel
theorem d_SS_settleDoom_55 : decode c_SS_settleDoom 55 = .ok (.aload_n 1, 1) := by decide +kernel
theorem d_SS_settleDoom_56 : decode c_SS_settleDoom 56 = .ok (.iconst 0, 1) := by decide +kernel
theorem d_SS_settleDoom_57 : decode c_SS_settleDoom 57 = .ok (.putfield 104, 3) := by decide +kernel
theorem d_SS_settleDoom_60 : decode c_SS_settleDoom 60 = .ok (.return_, 1) := by decide +kernel
theorem d_SS_doom_0 : decode c_SS_doom 0 = .ok (.aload_n 0, 1) := by decide +kernel
theorem d_SS_doom_1 : decode c_SS_doom 1 = .ok (.iload_n 1, 1) := by decide +kernel
theorem d_SS_doom_2 : decode c_SS_doom 2 = .ok (.invokevirtual 66, 3) := by decide +kernel
theorem d_SS_doom_5 : decode c_SS_doom 5 = .ok (.astore_n 3, 1) := by decide +kernel
theorem d_SS_doom_6 : decode c_SS_doom 6 = .ok (.aload_n 3, 1) := by decide +kernel
theorem d_SS_doom_7 : decode c_SS_doom 7 = .ok (.ifnull 11, 3) := by decide +kernel
theorem d_SS_doom_10 : decode c_SS_doom 10 = .ok (.aload_n 3, 1) := by decide +kernel
theorem d_SS_doom_11 : decode c_SS_doom 11 = .ok (.iconst 4, 1) := by decide +kernel
theorem d_SS_doom_12 : decode c_SS_doom 12 = .ok (.invokevirtual 97, 3) := by decide +kernel
theorem d_SS_doom_15 : decode c_SS_doom 15 = .ok (.ifCond .ne 5, 3) := by decide +kernel
theorem d_SS_doom_18 : decode c_SS_doom 18 = .ok (.iconst (-1), 1) := by decide +kernel
theorem d_SS_doom_19 : decode c_SS_doom 19 = .ok (.ireturn, 1) := by decide +kernel
theorem d_SS_doom_20 : decode c_SS_doom 20 = .ok (.iload_n 2, 1) := by decide +kernel
theorem d_SS_doom_21 : decode c_SS_doom 21 = .ok (.ifCond .eq 16, 3) := by decide +kernel
theorem d_SS_doom_24 : decode c_SS_doom 24 = .ok (.aload_n 0, 1) := by decide +kernel
theorem d_SS_doom_25 : decode c_SS_doom 25 = .ok (.aload_n 3, 1) := by decide +kernel
theorem d_SS_doom_26 : decode c_SS_doom 26 = .ok (.getfield 76, 3) := by decide +kernel
theorem d_SS_doom_29 : decode c_SS_doom 29 = .ok (.invokevirtual 100, 3) := by decide +kernel
theorem d_SS_doom_32 : decode c_SS_doom 32 = .ok (.ifCond .ne 5, 3) := by decide +kernel
theorem d_SS_doom_35 : decode c_SS_doom 35 = .ok (.iconst (-1), 1) := by decide +kernel
theorem d_SS_doom_36 : decode c_SS_doom 36 = .ok (.ireturn, 1) := by decide +kernel
theorem d_SS_doom_37 : decode c_SS_doom 37 = .ok (.aload_n 3, 1) := by decide +kernel
theorem d_SS_doom_38 : decode c_SS_doom 38 = .ok (.getfield 76, 3) := by decide +kernel
theorem d_SS_doom_41 : decode c_SS_doom 41 = .ok (.iload_n 2, 1) := by decide +kernel
theorem d_SS_doom_42 : decode c_SS_doom 42 = .ok (.putfield 104, 3) := by decide +kernel
theorem d_SS_doom_45 : decode c_SS_doom 45 = .ok (.iconst 0, 1) := by decide +kernel
theorem d_SS_doom_46 : decode c_SS_doom 46 = .ok (.ireturn, 1) := by decide +kernel
theorem d_Hd_may_0 : decode c_Hd_may 0 = .ok (.aload_n 0, 1) := by decide +kernel
theorem d_Hd_may_1 : decode c_Hd_may 1 = .ok (.getfield 29, 3) := by decide +kernel
theorem d_Hd_may_4 : decode c_Hd_may 4 = .ok (.iload_n 1, 1) := by decide +kernel
theorem d_Hd_may_5 : decode c_Hd_may 5 = .ok (.iand, 1) := by decide +kernel
theorem d_Hd_may_6 : decode c_Hd_may 6 = .ok (.ifCond .eq 7, 3) := by decide +kernel
theorem d_Hd_may_9 : decode c_Hd_may 9 = .ok (.iconst 1, 1) := by decide +kernel
theorem d_Hd_may_10 : decode c_Hd_may 10 = .ok (.goto 4, 3) := by decide +kernel
theorem d_Hd_may_13 : decode c_Hd_may 13 = .ok (.iconst 0, 1) := by decide +kernel
theorem d_Hd_may_14 : decode c_Hd_may 14 = .ok (.ireturn, 1) := by decide +kernel
theorem d_SS_move_0 : decode c_SS_move 0 = .ok (.aload_n 0, 1) := by decide +kernel
theorem d_SS_move_1 : decode c_SS_move 1 = .ok (.iload_n 1, 1) := by decide +kernel
theorem d_SS_move_2 : decode c_SS_move 2 = .ok (.invokevirtual 66, 3) := by decide +kernel
theorem d_SS_move_5 : decode c_SS_move 5 = .ok (.astore 4, 2) := by decide +kernel
theorem d_SS_move_7 : decode c_SS_move 7 = .ok (.aload 4, 2) := by decide +kernel
theorem d_SS_move_9 : decode c_SS_move 9 = .ok (.ifnull 31, 3) := by decide +kernel
theorem d_SS_move_12 : decode c_SS_move 12 = .ok (.iload_n 2, 1) := by decide +kernel
theorem d_SS_move_13 : decode c_SS_move 13 = .ok (.iload_n 3, 1) := by decide +kernel
theorem d_SS_move_14 : decode c_SS_move 14 = .ok (.invokestatic 41, 3) := by decide +kernel
theorem d_SS_move_17 : decode c_SS_move 17 = .ok (.ifCond .eq 23, 3) := by decide +kernel
theorem d_SS_move_20 : decode c_SS_move 20 = .ok (.aload 4, 2) := by decide +kernel
theorem d_SS_move_22 : decode c_SS_move 22 = .ok (.iconst 4, 1) := by decide +kernel
theorem d_SS_move_23 : decode c_SS_move 23 = .ok (.invokevirtual 97, 3) := by decide +kernel
theorem d_SS_move_26 : decode c_SS_move 26 = .ok (.ifCond .eq 14, 3) := by decide +kernel
theorem d_SS_move_29 : decode c_SS_move 29 = .ok (.aload 4, 2) := by decide +kernel
theorem d_SS_move_31 : decode c_SS_move 31 = .ok (.getfield 76, 3) := by decide +kernel
theorem d_SS_move_34 : decode c_SS_move 34 = .ok (.getfield 108, 3) := by decide +kernel
theorem d_SS_move_37 : decode c_SS_move 37 = .ok (.ifCond .ne 5, 3) := by decide +kernel
theorem d_SS_move_40 : decode c_SS_move 40 = .ok (.iconst (-1), 1) := by decide +kernel
theorem d_SS_move_41 : decode c_SS_move 41 = .ok (.ireturn, 1) := by decide +kernel
theorem d_SS_move_42 : decode c_SS_move 42 = .ok (.aload_n 0, 1) := by decide +kernel
theorem d_SS_move_43 : decode c_SS_move 43 = .ok (.iload_n 2, 1) := by decide +kernel
theorem d_SS_move_44 : decode c_SS_move 44 = .ok (.invokevirtual 111, 3) := by decide +kernel
theorem d_SS_move_47 : decode c_SS_move 47 = .ok (.ifCond .ne 6, 3) := by decide +kernel
theorem d_SS_move_50 : decode c_SS_move 50 = .ok (.bipush (-3), 2) := by decide +kernel
theorem d_SS_move_52 : decode c_SS_move 52 = .ok (.ireturn, 1) := by decide +kernel
theorem d_SS_move_53 : decode c_SS_move 53 = .ok (.aload_n 0, 1) := by decide +kernel
theorem d_SS_move_54 : decode c_SS_move 54 = .ok (.getfield 11, 3) := by decide +kernel
theorem d_SS_move_57 : decode c_SS_move 57 = .ok (.iload_n 2, 1) := by decide +kernel
theorem d_SS_move_58 : decode c_SS_move 58 = .ok (.aaload, 1) := by decide +kernel
theorem d_SS_move_59 : decode c_SS_move 59 = .ok (.getfield 104, 3) := by decide +kernel
theorem d_SS_move_62 : decode c_SS_move 62 = .ok (.ifCond .eq 6, 3) := by decide +kernel
theorem d_SS_move_65 : decode c_SS_move 65 = .ok (.bipush (-7), 2) := by decide +kernel
theorem d_SS_move_67 : decode c_SS_move 67 = .ok (.ireturn, 1) := by decide +kernel
theorem d_SS_move_68 : decode c_SS_move 68 = .ok (.aload_n 0, 1) := by decide +kernel
theorem d_SS_move_69 : decode c_SS_move 69 = .ok (.iload_n 2, 1) := by decide +kernel
theorem d_SS_move_70 : decode c_SS_move 70 = .ok (.aload 4, 2) := by decide +kernel
theorem d_SS_move_72 : decode c_SS_move 72 = .ok (.getfield 76, 3) := by decide +kernel
theorem d_SS_move_75 : decode c_SS_move 75 = .ok (.getfield 108, 3) := by decide +kernel
theorem d_SS_move_78 : decode c_SS_move 78 = .ok (.invokevirtual 114, 3) := by decide +kernel
theorem d_SS_move_81 : decode c_SS_move 81 = .ok (.ifCond .eq 5, 3) := by decide +kernel
theorem d_SS_move_84 : decode c_SS_move 84 = .ok (.iconst (-1), 1) := by decide +kernel
theorem d_SS_move_85 : decode c_SS_move 85 = .ok (.ireturn, 1) := by decide +kernel
theorem d_SS_move_86 : decode c_SS_move 86 = .ok (.aload_n 0, 1) := by decide +kernel
theorem d_SS_move_87 : decode c_SS_move 87 = .ok (.iload_n 2, 1) := by decide +kernel
theorem d_SS_move_88 : decode c_SS_move 88 = .ok (.iload_n 3, 1) := by decide +kernel
theorem d_SS_move_89 : decode c_SS_move 89 = .ok (.invokevirtual 117, 3) := by decide +kernel
theorem d_SS_move_92 : decode c_SS_move 92 = .ok (.ifnull 6, 3) := by decide +kernel
theorem d_SS_move_95 : decode c_SS_move 95 = .ok (.bipush (-4), 2) := by decide +kernel
theorem d_SS_move_97 : decode c_SS_move 97 = .ok (.ireturn, 1) := by decide +kernel
theorem d_SS_move_98 : decode c_SS_move 98 = .ok (.aload_n 0, 1) := by decide +kernel
theorem d_SS_move_99 : decode c_SS_move 99 = .ok (.getfield 33, 3) := by decide +kernel
theorem d_SS_move_102 : decode c_SS_move 102 = .ok (.new 121, 3) := by decide +kernel
theorem d_SS_move_105 : decode c_SS_move 105 = .ok (.dup, 1) := by decide +kernel
theorem d_SS_move_106 : decode c_SS_move 106 = .ok (.iconst 2, 1) := by decide +kernel
theorem d_SS_move_107 : decode c_SS_move 107 = .ok (.aload 4, 2) := by decide +kernel
theorem d_SS_move_109 : decode c_SS_move 109 = .ok (.getfield 76, 3) := by decide +kernel
theorem d_SS_move_112 : decode c_SS_move 112 = .ok (.aload 4, 2) := by decide +kernel
theorem d_SS_move_114 : decode c_SS_move 114 = .ok (.getfield 76, 3) := by decide +kernel
theorem d_SS_move_117 : decode c_SS_move 117 = .ok (.getfield 123, 3) := by decide +kernel
theorem d_SS_move_120 : decode c_SS_move 120 = .ok (.aload 4, 2) := by decide +kernel
theorem d_SS_move_122 : decode c_SS_move 122 = .ok (.getfield 76, 3) := by decide +kernel
theorem d_SS_move_125 : decode c_SS_move 125 = .ok (.getfield 126, 3) := by decide +kernel
theorem d_SS_move_128 : decode c_SS_move 128 = .ok (.invokespecial 129, 3) := by decide +kernel
theorem d_SS_move_131 : decode c_SS_move 131 = .ok (.invokevirtual 132, 3) := by decide +kernel
theorem d_SS_move_134 : decode c_SS_move 134 = .ok (.aload 4, 2) := by decide +kernel
theorem d_SS_move_136 : decode c_SS_move 136 = .ok (.getfield 76, 3) := by decide +kernel
theorem d_SS_move_139 : decode c_SS_move 139 = .ok (.iload_n 2, 1) := by decide +kernel
theorem d_SS_move_140 : decode c_SS_move 140 = .ok (.putfield 123, 3) := by decide +kernel
theorem d_SS_move_143 : decode c_SS_move 143 = .ok (.aload 4, 2) := by decide +kernel
theorem d_SS_move_145 : decode c_SS_move 145 = .ok (.getfield 76, 3) := by decide +kernel
theorem d_SS_move_148 : decode c_SS_move 148 = .ok (.iload_n 3, 1) := by decide +kernel
theorem d_SS_move_149 : decode c_SS_move 149 = .ok (.putfield 126, 3) := by decide +kernel
theorem d_SS_move_152 : decode c_SS_move 152 = .ok (.iconst 0, 1) := by decide +kernel
theorem d_SS_move_153 : decode c_SS_move 153 = .ok (.ireturn, 1) := by decide +kernel
theorem d_SS_isOrLiesInside_0 : decode c_SS_isOrLiesInside 0 = .ok (.iload_n 1, 1) := by decide +kernel
theorem d_SS_isOrLiesInside_1 : decode c_SS_isOrLiesInside 1 = .ok (.istore_n 3, 1) := by decide +kernel
theorem d_SS_isOrLiesInside_2 : decode c_SS_isOrLiesInside 2 = .ok (.iconst 0, 1) := by decide +kernel
theorem d_SS_isOrLiesInside_3 : decode c_SS_isOrLiesInside 3 = .ok (.istore 4, 2) := by decide +kernel
theorem d_SS_isOrLiesInside_5 : decode c_SS_isOrLiesInside 5 = .ok (.iload 4, 2) := by decide +kernel
theorem d_SS_isOrLiesInside_7 : decode c_SS_isOrLiesInside 7 = .ok (.bipush 24, 2) := by decide +kernel
theorem d_SS_isOrLiesInside_9 : decode c_SS_isOrLiesInside 9 = .ok (.if_icmp .gt 36, 3) := by decide +kernel
theorem d_SS_isOrLiesInside_12 : decode c_SS_isOrLiesInside 12 = .ok (.iload_n 3, 1) := by decide +kernel
theorem d_SS_isOrLiesInside_13 : decode c_SS_isOrLiesInside 13 = .ok (.iload_n 2, 1) := by decide +kernel
theorem d_SS_isOrLiesInside_14 : decode c_SS_isOrLiesInside 14 = .ok (.if_icmp .ne 5, 3) := by decide +kernel
theorem d_SS_isOrLiesInside_17 : decode c_SS_isOrLiesInside 17 = .ok (.iconst 1, 1) := by decide +kernel
theorem d_SS_isOrLiesInside_18 : decode c_SS_isOrLiesInside 18 = .ok (.ireturn, 1) := by decide +kernel
theorem d_SS_isOrLiesInside_19 : decode c_SS_isOrLiesInside 19 = .ok (.aload_n 0, 1) := by decide +kernel
theorem d_SS_isOrLiesInside_20 : decode c_SS_isOrLiesInside 20 = .ok (.iload_n 3, 1) := by decide +kernel
theorem d_SS_isOrLiesInside_21 : decode c_SS_isOrLiesInside 21 = .ok (.invokevirtual 111, 3) := by decide +kernel
theorem d_SS_isOrLiesInside_24 : decode c_SS_isOrLiesInside 24 = .ok (.ifCond .ne 5, 3) := by decide +kernel
theorem d_SS_isOrLiesInside_27 : decode c_SS_isOrLiesInside 27 = .ok (.iconst 0, 1) := by decide +kernel
theorem d_SS_isOrLiesInside_28 : decode c_SS_isOrLiesInside 28 = .ok (.ireturn, 1) := by decide +kernel
theorem d_SS_isOrLiesInside_29 : decode c_SS_isOrLiesInside 29 = .ok (.aload_n 0, 1) := by decide +kernel
theorem d_SS_isOrLiesInside_30 : decode c_SS_isOrLiesInside 30 = .ok (.getfield 11, 3) := by decide +kernel
theorem d_SS_isOrLiesInside_33 : decode c_SS_isOrLiesInside 33 = .ok (.iload_n 3, 1) := by decide +kernel
theorem d_SS_isOrLiesInside_34 : decode c_SS_isOrLiesInside 34 = .ok (.aaload, 1) := by decide +kernel
theorem d_SS_isOrLiesInside_35 : decode c_SS_isOrLiesInside 35 = .ok (.getfield 123, 3) := by decide +kernel
theorem d_SS_isOrLiesInside_38 : decode c_SS_isOrLiesInside 38 = .ok (.istore_n 3, 1) := by decide +kernel
theorem d_SS_isOrLiesInside_39 : decode c_SS_isOrLiesInside 39 = .ok (.iinc 4 1, 3) := by decide +kernel
theorem d_SS_isOrLiesInside_42 : decode c_SS_isOrLiesInside 42 = .ok (.goto (-37), 3) := by decide +kernel
theorem d_SS_isOrLiesInside_45 : decode c_SS_isOrLiesInside 45 = .ok (.iconst 0, 1) := by decide +kernel
theorem d_SS_isOrLiesInside_46 : decode c_SS_isOrLiesInside 46 = .ok (.ireturn, 1) := by decide +kernel
theorem d_SS_read_0 : decode c_SS_read 0 = .ok (.aload_n 0, 1) := by decide +kernel
theorem d_SS_read_1 : decode c_SS_read 1 = .ok (.iload_n 1, 1) := by decide +kernel
theorem d_SS_read_2 : decode c_SS_read 2 = .ok (.invokevirtual 66, 3) := by decide +kernel
theorem d_SS_read_5 : decode c_SS_read 5 = .ok (.astore_n 3, 1) := by decide +kernel
theorem d_SS_read_6 : decode c_SS_read 6 = .ok (.aload_n 3, 1) := by decide +kernel
theorem d_SS_read_7 : decode c_SS_read 7 = .ok (.ifnull 30, 3) := by decide +kernel
theorem d_SS_read_10 : decode c_SS_read 10 = .ok (.iload_n 2, 1) := by decide +kernel
theorem d_SS_read_11 : decode c_SS_read 11 = .ok (.bipush 32, 2) := by decide +kernel
theorem d_SS_read_13 : decode c_SS_read 13 = .ok (.invokestatic 37, 3) := by decide +kernel
theorem d_SS_read_16 : decode c_SS_read 16 = .ok (.ifCond .eq 21, 3) := by decide +kernel
theorem d_SS_read_19 : decode c_SS_read 19 = .ok (.aload_n 3, 1) := by decide +kernel
theorem d_SS_read_20 : decode c_SS_read 20 = .ok (.iconst 1, 1) := by decide +kernel
theorem d_SS_read_21 : decode c_SS_read 21 = .ok (.invokevirtual 97, 3) := by decide +kernel
theorem d_SS_read_24 : decode c_SS_read 24 = .ok (.ifCond .eq 13, 3) := by decide +kernel
theorem d_SS_read_27 : decode c_SS_read 27 = .ok (.aload_n 3, 1) := by decide +kernel
theorem d_SS_read_28 : decode c_SS_read 28 = .ok (.getfield 76, 3) := by decide +kernel
theorem d_SS_read_31 : decode c_SS_read 31 = .ok (.getfield 136, 3) := by decide +kernel
theorem d_SS_read_34 : decode c_SS_read 34 = .ok (.ifCond .eq 5, 3) := by decide +kernel
theorem d_SS_read_37 : decode c_SS_read 37 = .ok (.iconst (-1), 1) := by decide +kernel
theorem d_SS_read_38 : decode c_SS_read 38 = .ok (.ireturn, 1) := by decide +kernel
theorem d_SS_read_39 : decode c_SS_read 39 = .ok (.aload_n 3, 1) := by decide +kernel
theorem d_SS_read_40 : decode c_SS_read 40 = .ok (.getfield 76, 3) := by decide +kernel
theorem d_SS_read_43 : decode c_SS_read 43 = .ok (.aload_n 3, 1) := by decide +kernel
theorem d_SS_read_44 : decode c_SS_read 44 = .ok (.iload_n 2, 1) := by decide +kernel
theorem d_SS_read_45 : decode c_SS_read 45 = .ok (.invokevirtual 139, 3) := by decide +kernel
theorem d_SS_read_48 : decode c_SS_read 48 = .ok (.ifCond .eq 6, 3) := by decide +kernel
theorem d_SS_read_51 : decode c_SS_read 51 = .ok (.bipush (-8), 2) := by decide +kernel
theorem d_SS_read_53 : decode c_SS_read 53 = .ok (.ireturn, 1) := by decide +kernel
theorem d_SS_read_54 : decode c_SS_read 54 = .ok (.aload_n 0, 1) := by decide +kernel
theorem d_SS_read_55 : decode c_SS_read 55 = .ok (.aload_n 3, 1) := by decide +kernel
theorem d_SS_read_56 : decode c_SS_read 56 = .ok (.getfield 76, 3) := by decide +kernel
theorem d_SS_read_59 : decode c_SS_read 59 = .ok (.getfield 143, 3) := by decide +kernel
theorem d_SS_read_62 : decode c_SS_read 62 = .ok (.iload_n 2, 1) := by decide +kernel
theorem d_SS_read_63 : decode c_SS_read 63 = .ok (.iaload, 1) := by decide +kernel
theorem d_SS_read_64 : decode c_SS_read 64 = .ok (.putfield 147, 3) := by decide +kernel
theorem d_SS_read_67 : decode c_SS_read 67 = .ok (.iconst 0, 1) := by decide +kernel
theorem d_SS_read_68 : decode c_SS_read 68 = .ok (.ireturn, 1) := by decide +kernel
theorem d_Nd_barsReading_0 : decode c_Nd_barsReading 0 = .ok (.iconst 0, 1) := by decide +kernel
theorem d_Nd_barsReading_1 : decode c_Nd_barsReading 1 = .ok (.istore_n 3, 1) := by decide +kernel
theorem d_Nd_barsReading_2 : decode c_Nd_barsReading 2 = .ok (.iload_n 3, 1) := by decide +kernel
theorem d_Nd_barsReading_3 : decode c_Nd_barsReading 3 = .ok (.aload_n 0, 1) := by decide +kernel
theorem d_Nd_barsReading_4 : decode c_Nd_barsReading 4 = .ok (.getfield 35, 3) := by decide +kernel
theorem d_Nd_barsReading_7 : decode c_Nd_barsReading 7 = .ok (.if_icmp .ge 49, 3) := by decide +kernel
theorem d_Nd_barsReading_10 : decode c_Nd_barsReading 10 = .ok (.aload_n 0, 1) := by decide +kernel
theorem d_Nd_barsReading_11 : decode c_Nd_barsReading 11 = .ok (.getfield 31, 3) := by decide +kernel
theorem d_Nd_barsReading_14 : decode c_Nd_barsReading 14 = .ok (.iload_n 3, 1) := by decide +kernel
theorem d_Nd_barsReading_15 : decode c_Nd_barsReading 15 = .ok (.aaload, 1) := by decide +kernel
theorem d_Nd_barsReading_16 : decode c_Nd_barsReading 16 = .ok (.iload_n 2, 1) := by decide +kernel
theorem d_Nd_barsReading_17 : decode c_Nd_barsReading 17 = .ok (.invokevirtual 38, 3) := by decide +kernel
theorem d_Nd_barsReading_20 : decode c_Nd_barsReading 20 = .ok (.ifCond .eq 30, 3) := by decide +kernel
theorem d_Nd_barsReading_23 : decode c_Nd_barsReading 23 = .ok (.aload_n 0, 1) := by decide +kernel
theorem d_Nd_barsReading_24 : decode c_Nd_barsReading 24 = .ok (.getfield 31, 3) := by decide +kernel
theorem d_Nd_barsReading_27 : decode c_Nd_barsReading 27 = .ok (.iload_n 3, 1) := by decide +kernel
theorem d_Nd_barsReading_28 : decode c_Nd_barsReading 28 = .ok (.aaload, 1) := by decide +kernel
theorem d_Nd_barsReading_29 : decode c_Nd_barsReading 29 = .ok (.getfield 42, 3) := by decide +kernel
theorem d_Nd_barsReading_32 : decode c_Nd_barsReading 32 = .ok (.ifCond .eq 18, 3) := by decide +kernel
theorem d_Nd_barsReading_35 : decode c_Nd_barsReading 35 = .ok (.aload_n 0, 1) := by decide +kernel
theorem d_Nd_barsReading_36 : decode c_Nd_barsReading 36 = .ok (.getfield 31, 3) := by decide +kernel
theorem d_Nd_barsReading_39 : decode c_Nd_barsReading 39 = .ok (.iload_n 3, 1) := by decide +kernel
theorem d_Nd_barsReading_40 : decode c_Nd_barsReading 40 = .ok (.aaload, 1) := by decide +kernel
theorem d_Nd_barsReading_41 : decode c_Nd_barsReading 41 = .ok (.getfield 45, 3) := by decide +kernel
theorem d_Nd_barsReading_44 : decode c_Nd_barsReading 44 = .ok (.aload_n 1, 1) := by decide +kernel
theorem d_Nd_barsReading_45 : decode c_Nd_barsReading 45 = .ok (.if_acmp .eq 5, 3) := by decide +kernel
theorem d_Nd_barsReading_48 : decode c_Nd_barsReading 48 = .ok (.iconst 1, 1) := by decide +kernel
theorem d_Nd_barsReading_49 : decode c_Nd_barsReading 49 = .ok (.ireturn, 1) := by decide +kernel
theorem d_Nd_barsReading_50 : decode c_Nd_barsReading 50 = .ok (.iinc 3 1, 3) := by decide +kernel
theorem d_Nd_barsReading_53 : decode c_Nd_barsReading 53 = .ok (.goto (-51), 3) := by decide +kernel
theorem d_Nd_barsReading_56 : decode c_Nd_barsReading 56 = .ok (.iconst 0, 1) := by decide +kernel
theorem d_Nd_barsReading_57 : decode c_Nd_barsReading 57 = .ok (.ireturn, 1) := by decide +kernel
theorem d_Lk_covers_0 : decode c_Lk_covers 0 = .ok (.iload_n 1, 1) := by decide +kernel
theorem d_Lk_covers_1 : decode c_Lk_covers 1 = .ok (.aload_n 0, 1) := by decide +kernel
theorem d_Lk_covers_2 : decode c_Lk_covers 2 = .ok (.getfield 13, 3) := by decide +kernel
theorem d_Lk_covers_5 : decode c_Lk_covers 5 = .ok (.if_icmp .lt 20, 3) := by decide +kernel
theorem d_Lk_covers_8 : decode c_Lk_covers 8 = .ok (.iload_n 1, 1) := by decide +kernel
theorem d_Lk_covers_9 : decode c_Lk_covers 9 = .ok (.aload_n 0, 1) := by decide +kernel
theorem d_Lk_covers_10 : decode c_Lk_covers 10 = .ok (.getfield 13, 3) := by decide +kernel
theorem d_Lk_covers_13 : decode c_Lk_covers 13 = .ok (.aload_n 0, 1) := by decide +kernel
theorem d_Lk_covers_14 : decode c_Lk_covers 14 = .ok (.getfield 17, 3) := by decide +kernel
theorem d_Lk_covers_17 : decode c_Lk_covers 17 = .ok (.iadd, 1) := by decide +kernel
theorem d_Lk_covers_18 : decode c_Lk_covers 18 = .ok (.if_icmp .ge 7, 3) := by decide +kernel
theorem d_Lk_covers_21 : decode c_Lk_covers 21 = .ok (.iconst 1, 1) := by decide +kernel
theorem d_Lk_covers_22 : decode c_Lk_covers 22 = .ok (.goto 4, 3) := by decide +kernel
theorem d_Lk_covers_25 : decode c_Lk_covers 25 = .ok (.iconst 0, 1) := by decide +kernel
theorem d_Lk_covers_26 : decode c_Lk_covers 26 = .ok (.ireturn, 1) := by decide +kernel
theorem d_SS_value_0 : decode c_SS_value 0 = .ok (.aload_n 0, 1) := by decide +kernel
theorem d_SS_value_1 : decode c_SS_value 1 = .ok (.getfield 147, 3) := by decide +kernel
theorem d_SS_value_4 : decode c_SS_value 4 = .ok (.ireturn, 1) := by decide +kernel
theorem d_SS_write_0 : decode c_SS_write 0 = .ok (.aload_n 0, 1) := by decide +kernel
theorem d_SS_write_1 : decode c_SS_write 1 = .ok (.iload_n 1, 1) := by decide +kernel
theorem d_SS_write_2 : decode c_SS_write 2 = .ok (.invokevirtual 66, 3) := by decide +kernel
theorem d_SS_write_5 : decode c_SS_write 5 = .ok (.astore 4, 2) := by decide +kernel
theorem d_SS_write_7 : decode c_SS_write 7 = .ok (.aload 4, 2) := by decide +kernel
theorem d_SS_write_9 : decode c_SS_write 9 = .ok (.ifnull 32, 3) := by decide +kernel
theorem d_SS_write_12 : decode c_SS_write 12 = .ok (.iload_n 2, 1) := by decide +kernel
theorem d_SS_write_13 : decode c_SS_write 13 = .ok (.bipush 32, 2) := by decide +kernel
theorem d_SS_write_15 : decode c_SS_write 15 = .ok (.invokestatic 37, 3) := by decide +kernel
theorem d_SS_write_18 : decode c_SS_write 18 = .ok (.ifCond .eq 23, 3) := by decide +kernel
theorem d_SS_write_21 : decode c_SS_write 21 = .ok (.aload 4, 2) := by decide +kernel
theorem d_SS_write_23 : decode c_SS_write 23 = .ok (.iconst 2, 1) := by decide +kernel
theorem d_SS_write_24 : decode c_SS_write 24 = .ok (.invokevirtual 97, 3) := by decide +kernel
theorem d_SS_write_27 : decode c_SS_write 27 = .ok (.ifCond .eq 14, 3) := by decide +kernel
theorem d_SS_write_30 : decode c_SS_write 30 = .ok (.aload 4, 2) := by decide +kernel
theorem d_SS_write_32 : decode c_SS_write 32 = .ok (.getfield 76, 3) := by decide +kernel
theorem d_SS_write_35 : decode c_SS_write 35 = .ok (.getfield 136, 3) := by decide +kernel
theorem d_SS_write_38 : decode c_SS_write 38 = .ok (.ifCond .eq 5, 3) := by decide +kernel
theorem d_SS_write_41 : decode c_SS_write 41 = .ok (.iconst (-1), 1) := by decide +kernel
theorem d_SS_write_42 : decode c_SS_write 42 = .ok (.ireturn, 1) := by decide +kernel
theorem d_SS_write_43 : decode c_SS_write 43 = .ok (.aload 4, 2) := by decide +kernel
theorem d_SS_write_45 : decode c_SS_write 45 = .ok (.getfield 76, 3) := by decide +kernel
theorem d_SS_write_48 : decode c_SS_write 48 = .ok (.aload 4, 2) := by decide +kernel
theorem d_SS_write_50 : decode c_SS_write 50 = .ok (.iload_n 2, 1) := by decide +kernel
theorem d_SS_write_51 : decode c_SS_write 51 = .ok (.invokevirtual 150, 3) := by decide +kernel
theorem d_SS_write_54 : decode c_SS_write 54 = .ok (.ifCond .eq 6, 3) := by decide +kernel
theorem d_SS_write_57 : decode c_SS_write 57 = .ok (.bipush (-8), 2) := by decide +kernel
theorem d_SS_write_59 : decode c_SS_write 59 = .ok (.ireturn, 1) := by decide +kernel
theorem d_SS_write_60 : decode c_SS_write 60 = .ok (.aload_n 0, 1) := by decide +kernel
theorem d_SS_write_61 : decode c_SS_write 61 = .ok (.aload 4, 2) := by decide +kernel
theorem d_SS_write_63 : decode c_SS_write 63 = .ok (.invokevirtual 153, 3) := by decide +kernel
theorem d_SS_write_66 : decode c_SS_write 66 = .ok (.aload_n 0, 1) := by decide +kernel
theorem d_SS_write_67 : decode c_SS_write 67 = .ok (.getfield 33, 3) := by decide +kernel
theorem d_SS_write_70 : decode c_SS_write 70 = .ok (.new 121, 3) := by decide +kernel
theorem d_SS_write_73 : decode c_SS_write 73 = .ok (.dup, 1) := by decide +kernel
theorem d_SS_write_74 : decode c_SS_write 74 = .ok (.iconst 3, 1) := by decide +kernel
theorem d_SS_write_75 : decode c_SS_write 75 = .ok (.aload 4, 2) := by decide +kernel
theorem d_SS_write_77 : decode c_SS_write 77 = .ok (.getfield 76, 3) := by decide +kernel
theorem d_SS_write_80 : decode c_SS_write 80 = .ok (.iload_n 2, 1) := by decide +kernel
theorem d_SS_write_81 : decode c_SS_write 81 = .ok (.aload 4, 2) := by decide +kernel
theorem d_SS_write_83 : decode c_SS_write 83 = .ok (.getfield 76, 3) := by decide +kernel
theorem d_SS_write_86 : decode c_SS_write 86 = .ok (.getfield 143, 3) := by decide +kernel
theorem d_SS_write_89 : decode c_SS_write 89 = .ok (.iload_n 2, 1) := by decide +kernel
theorem d_SS_write_90 : decode c_SS_write 90 = .ok (.iaload, 1) := by decide +kernel
theorem d_SS_write_91 : decode c_SS_write 91 = .ok (.invokespecial 129, 3) := by decide +kernel
theorem d_SS_write_94 : decode c_SS_write 94 = .ok (.invokevirtual 132, 3) := by decide +kernel
theorem d_SS_write_97 : decode c_SS_write 97 = .ok (.aload 4, 2) := by decide +kernel
theorem d_SS_write_99 : decode c_SS_write 99 = .ok (.getfield 76, 3) := by decide +kernel
theorem d_SS_write_102 : decode c_SS_write 102 = .ok (.getfield 143, 3) := by decide +kernel
theorem d_SS_write_105 : decode c_SS_write 105 = .ok (.iload_n 2, 1) := by decide +kernel
theorem d_SS_write_106 : decode c_SS_write 106 = .ok (.iload_n 3, 1) := by decide +kernel
theorem d_SS_write_107 : decode c_SS_write 107 = .ok (.iastore, 1) := by decide +kernel
theorem d_SS_write_108 : decode c_SS_write 108 = .ok (.iconst 0, 1) := by decide +kernel
theorem d_SS_write_109 : decode c_SS_write 109 = .ok (.ireturn, 1) := by decide +kernel
theorem d_Nd_barsWriting_0 : decode c_Nd_barsWriting 0 = .ok (.iconst 0, 1) := by decide +kernel
theorem d_Nd_barsWriting_1 : decode c_Nd_barsWriting 1 = .ok (.istore_n 3, 1) := by decide +kernel
theorem d_Nd_barsWriting_2 : decode c_Nd_barsWriting 2 = .ok (.iload_n 3, 1) := by decide +kernel
theorem d_Nd_barsWriting_3 : decode c_Nd_barsWriting 3 = .ok (.aload_n 0, 1) := by decide +kernel
theorem d_Nd_barsWriting_4 : decode c_Nd_barsWriting 4 = .ok (.getfield 35, 3) := by decide +kernel
theorem d_Nd_barsWriting_7 : decode c_Nd_barsWriting 7 = .ok (.if_icmp .ge 61, 3) := by decide +kernel
theorem d_Nd_barsWriting_10 : decode c_Nd_barsWriting 10 = .ok (.aload_n 0, 1) := by decide +kernel
theorem d_Nd_barsWriting_11 : decode c_Nd_barsWriting 11 = .ok (.getfield 31, 3) := by decide +kernel
theorem d_Nd_barsWriting_14 : decode c_Nd_barsWriting 14 = .ok (.iload_n 3, 1) := by decide +kernel
theorem d_Nd_barsWriting_15 : decode c_Nd_barsWriting 15 = .ok (.aaload, 1) := by decide +kernel
theorem d_Nd_barsWriting_16 : decode c_Nd_barsWriting 16 = .ok (.getfield 42, 3) := by decide +kernel
theorem d_Nd_barsWriting_19 : decode c_Nd_barsWriting 19 = .ok (.ifCond .eq 20, 3) := by decide +kernel
theorem d_Nd_barsWriting_22 : decode c_Nd_barsWriting 22 = .ok (.aload_n 0, 1) := by decide +kernel
theorem d_Nd_barsWriting_23 : decode c_Nd_barsWriting 23 = .ok (.getfield 31, 3) := by decide +kernel
theorem d_Nd_barsWriting_26 : decode c_Nd_barsWriting 26 = .ok (.iload_n 3, 1) := by decide +kernel
theorem d_Nd_barsWriting_27 : decode c_Nd_barsWriting 27 = .ok (.aaload, 1) := by decide +kernel
theorem d_Nd_barsWriting_28 : decode c_Nd_barsWriting 28 = .ok (.getfield 45, 3) := by decide +kernel
theorem d_Nd_barsWriting_31 : decode c_Nd_barsWriting 31 = .ok (.aload_n 1, 1) := by decide +kernel
theorem d_Nd_barsWriting_32 : decode c_Nd_barsWriting 32 = .ok (.if_acmp .ne 7, 3) := by decide +kernel
theorem d_Nd_barsWriting_35 : decode c_Nd_barsWriting 35 = .ok (.iconst 1, 1) := by decide +kernel
theorem d_Nd_barsWriting_36 : decode c_Nd_barsWriting 36 = .ok (.goto 4, 3) := by decide +kernel
theorem d_Nd_barsWriting_39 : decode c_Nd_barsWriting 39 = .ok (.iconst 0, 1) := by decide +kernel
theorem d_Nd_barsWriting_40 : decode c_Nd_barsWriting 40 = .ok (.istore 4, 2) := by decide +kernel
theorem d_Nd_barsWriting_42 : decode c_Nd_barsWriting 42 = .ok (.aload_n 0, 1) := by decide +kernel
theorem d_Nd_barsWriting_43 : decode c_Nd_barsWriting 43 = .ok (.getfield 31, 3) := by decide +kernel
theorem d_Nd_barsWriting_46 : decode c_Nd_barsWriting 46 = .ok (.iload_n 3, 1) := by decide +kernel
theorem d_Nd_barsWriting_47 : decode c_Nd_barsWriting 47 = .ok (.aaload, 1) := by decide +kernel
theorem d_Nd_barsWriting_48 : decode c_Nd_barsWriting 48 = .ok (.iload_n 2, 1) := by decide +kernel
theorem d_Nd_barsWriting_49 : decode c_Nd_barsWriting 49 = .ok (.invokevirtual 38, 3) := by decide +kernel
theorem d_Nd_barsWriting_52 : decode c_Nd_barsWriting 52 = .ok (.ifCond .eq 10, 3) := by decide +kernel
theorem d_Nd_barsWriting_55 : decode c_Nd_barsWriting 55 = .ok (.iload 4, 2) := by decide +kernel
theorem d_Nd_barsWriting_57 : decode c_Nd_barsWriting 57 = .ok (.ifCond .ne 5, 3) := by decide +kernel
theorem d_Nd_barsWriting_60 : decode c_Nd_barsWriting 60 = .ok (.iconst 1, 1) := by decide +kernel
theorem d_Nd_barsWriting_61 : decode c_Nd_barsWriting 61 = .ok (.ireturn, 1) := by decide +kernel
theorem d_Nd_barsWriting_62 : decode c_Nd_barsWriting 62 = .ok (.iinc 3 1, 3) := by decide +kernel
theorem d_Nd_barsWriting_65 : decode c_Nd_barsWriting 65 = .ok (.goto (-63), 3) := by decide +kernel
theorem d_Nd_barsWriting_68 : decode c_Nd_barsWriting 68 = .ok (.iconst 0, 1) := by decide +kernel
theorem d_Nd_barsWriting_69 : decode c_Nd_barsWriting 69 = .ok (.ireturn, 1) := by decide +kernel
theorem d_SS_endSharedGrantsBeside_0 : decode c_SS_endSharedGrantsBeside 0 = .ok (.iconst 0, 1) := by decide +kernel
theorem d_SS_endSharedGrantsBeside_1 : decode c_SS_endSharedGrantsBeside 1 = .ok (.istore_n 2, 1) := by decide +kernel
theorem d_SS_endSharedGrantsBeside_2 : decode c_SS_endSharedGrantsBeside 2 = .ok (.iload_n 2, 1) := by decide +kernel
theorem d_SS_endSharedGrantsBeside_3 : decode c_SS_endSharedGrantsBeside 3 = .ok (.aload_n 0, 1) := by decide +kernel
theorem d_SS_endSharedGrantsBeside_4 : decode c_SS_endSharedGrantsBeside 4 = .ok (.getfield 94, 3) := by decide +kernel
theorem d_SS_endSharedGrantsBeside_7 : decode c_SS_endSharedGrantsBeside 7 = .ok (.if_icmp .ge 45, 3) := by decide +kernel
theorem d_SS_endSharedGrantsBeside_10 : decode c_SS_endSharedGrantsBeside 10 = .ok (.aload_n 0, 1) := by decide +kernel
theorem d_SS_endSharedGrantsBeside_11 : decode c_SS_endSharedGrantsBeside 11 = .ok (.getfield 20, 3) := by decide +kernel
theorem d_SS_endSharedGrantsBeside_14 : decode c_SS_endSharedGrantsBeside 14 = .ok (.iload_n 2, 1) := by decide +kernel
theorem d_SS_endSharedGrantsBeside_15 : decode c_SS_endSharedGrantsBeside 15 = .ok (.aaload, 1) := by decide +kernel
theorem d_SS_endSharedGrantsBeside_16 : decode c_SS_endSharedGrantsBeside 16 = .ok (.astore_n 3, 1) := by decide +kernel
theorem d_SS_endSharedGrantsBeside_17 : decode c_SS_endSharedGrantsBeside 17 = .ok (.aload_n 3, 1) := by decide +kernel
theorem d_SS_endSharedGrantsBeside_18 : decode c_SS_endSharedGrantsBeside 18 = .ok (.aload_n 1, 1) := by decide +kernel
theorem d_SS_endSharedGrantsBeside_19 : decode c_SS_endSharedGrantsBeside 19 = .ok (.if_acmp .eq 27, 3) := by decide +kernel
theorem d_SS_endSharedGrantsBeside_22 : decode c_SS_endSharedGrantsBeside 22 = .ok (.aload_n 3, 1) := by decide +kernel
theorem d_SS_endSharedGrantsBeside_23 : decode c_SS_endSharedGrantsBeside 23 = .ok (.getfield 76, 3) := by decide +kernel
theorem d_SS_endSharedGrantsBeside_26 : decode c_SS_endSharedGrantsBeside 26 = .ok (.aload_n 1, 1) := by decide +kernel
theorem d_SS_endSharedGrantsBeside_27 : decode c_SS_endSharedGrantsBeside 27 = .ok (.getfield 76, 3) := by decide +kernel
theorem d_SS_endSharedGrantsBeside_30 : decode c_SS_endSharedGrantsBeside 30 = .ok (.if_acmp .ne 16, 3) := by decide +kernel
theorem d_SS_endSharedGrantsBeside_33 : decode c_SS_endSharedGrantsBeside 33 = .ok (.aload_n 3, 1) := by decide +kernel
theorem d_SS_endSharedGrantsBeside_34 : decode c_SS_endSharedGrantsBeside 34 = .ok (.getfield 70, 3) := by decide +kernel
theorem d_SS_endSharedGrantsBeside_37 : decode c_SS_endSharedGrantsBeside 37 = .ok (.iconst 1, 1) := by decide +kernel
theorem d_SS_endSharedGrantsBeside_38 : decode c_SS_endSharedGrantsBeside 38 = .ok (.if_icmp .ne 8, 3) := by decide +kernel
theorem d_SS_endSharedGrantsBeside_41 : decode c_SS_endSharedGrantsBeside 41 = .ok (.aload_n 3, 1) := by decide +kernel
theorem d_SS_endSharedGrantsBeside_42 : decode c_SS_endSharedGrantsBeside 42 = .ok (.iconst 0, 1) := by decide +kernel
theorem d_SS_endSharedGrantsBeside_43 : decode c_SS_endSharedGrantsBeside 43 = .ok (.putfield 70, 3) := by decide +kernel
theorem d_SS_endSharedGrantsBeside_46 : decode c_SS_endSharedGrantsBeside 46 = .ok (.iinc 2 1, 3) := by decide +kernel
theorem d_SS_endSharedGrantsBeside_49 : decode c_SS_endSharedGrantsBeside 49 = .ok (.goto (-47), 3) := by decide +kernel
theorem d_SS_endSharedGrantsBeside_52 : decode c_SS_endSharedGrantsBeside 52 = .ok (.return_, 1) := by decide +kernel
theorem d_SS_lock_0 : decode c_SS_lock 0 = .ok (.aload_n 0, 1) := by decide +kernel
theorem d_SS_lock_1 : decode c_SS_lock 1 = .ok (.iload_n 1, 1) := by decide +kernel
theorem d_SS_lock_2 : decode c_SS_lock 2 = .ok (.invokevirtual 66, 3) := by decide +kernel
theorem d_SS_lock_5 : decode c_SS_lock 5 = .ok (.astore 5, 2) := by decide +kernel
theorem d_SS_lock_7 : decode c_SS_lock 7 = .ok (.aload 5, 2) := by decide +kernel
theorem d_SS_lock_9 : decode c_SS_lock 9 = .ok (.ifnull 22, 3) := by decide +kernel
theorem d_SS_lock_12 : decode c_SS_lock 12 = .ok (.iload_n 2, 1) := by decide +kernel
theorem d_SS_lock_13 : decode c_SS_lock 13 = .ok (.iload_n 3, 1) := by decide +kernel
theorem d_SS_lock_14 : decode c_SS_lock 14 = .ok (.invokestatic 156, 3) := by decide +kernel
theorem d_SS_lock_17 : decode c_SS_lock 17 = .ok (.ifCond .eq 14, 3) := by decide +kernel
theorem d_SS_lock_20 : decode c_SS_lock 20 = .ok (.aload 5, 2) := by decide +kernel
theorem d_SS_lock_22 : decode c_SS_lock 22 = .ok (.getfield 76, 3) := by decide +kernel
theorem d_SS_lock_25 : decode c_SS_lock 25 = .ok (.getfield 136, 3) := by decide +kernel
theorem d_SS_lock_28 : decode c_SS_lock 28 = .ok (.ifCond .eq 5, 3) := by decide +kernel
theorem d_SS_lock_31 : decode c_SS_lock 31 = .ok (.iconst (-1), 1) := by decide +kernel
theorem d_SS_lock_32 : decode c_SS_lock 32 = .ok (.ireturn, 1) := by decide +kernel
theorem d_SS_lock_33 : decode c_SS_lock 33 = .ok (.new 159, 3) := by decide +kernel
theorem d_SS_lock_36 : decode c_SS_lock 36 = .ok (.dup, 1) := by decide +kernel
theorem d_SS_lock_37 : decode c_SS_lock 37 = .ok (.aload 5, 2) := by decide +kernel
theorem d_SS_lock_39 : decode c_SS_lock 39 = .ok (.iload_n 2, 1) := by decide +kernel
theorem d_SS_lock_40 : decode c_SS_lock 40 = .ok (.iload_n 3, 1) := by decide +kernel
theorem d_SS_lock_41 : decode c_SS_lock 41 = .ok (.iload 4, 2) := by decide +kernel
theorem d_SS_lock_43 : decode c_SS_lock 43 = .ok (.invokespecial 161, 3) := by decide +kernel
theorem d_SS_lock_46 : decode c_SS_lock 46 = .ok (.astore 6, 2) := by decide +kernel
theorem d_SS_lock_48 : decode c_SS_lock 48 = .ok (.aload 5, 2) := by decide +kernel
theorem d_SS_lock_50 : decode c_SS_lock 50 = .ok (.getfield 76, 3) := by decide +kernel
theorem d_SS_lock_53 : decode c_SS_lock 53 = .ok (.aload 6, 2) := by decide +kernel
theorem d_SS_lock_55 : decode c_SS_lock 55 = .ok (.invokevirtual 164, 3) := by decide +kernel
theorem d_SS_lock_58 : decode c_SS_lock 58 = .ok (.ifCond .eq 6, 3) := by decide +kernel
theorem d_SS_lock_61 : decode c_SS_lock 61 = .ok (.bipush (-8), 2) := by decide +kernel
theorem d_SS_lock_63 : decode c_SS_lock 63 = .ok (.ireturn, 1) := by decide +kernel
theorem d_SS_lock_64 : decode c_SS_lock 64 = .ok (.aload 5, 2) := by decide +kernel
theorem d_SS_lock_66 : decode c_SS_lock 66 = .ok (.getfield 76, 3) := by decide +kernel
theorem d_SS_lock_69 : decode c_SS_lock 69 = .ok (.getfield 168, 3) := by decide +kernel
theorem d_SS_lock_72 : decode c_SS_lock 72 = .ok (.bipush 8, 2) := by decide +kernel
theorem d_SS_lock_74 : decode c_SS_lock 74 = .ok (.if_icmp .lt 6, 3) := by decide +kernel
theorem d_SS_lock_77 : decode c_SS_lock 77 = .ok (.bipush (-2), 2) := by decide +kernel
theorem d_SS_lock_79 : decode c_SS_lock 79 = .ok (.ireturn, 1) := by decide +kernel
theorem d_SS_lock_80 : decode c_SS_lock 80 = .ok (.aload 5, 2) := by decide +kernel
theorem d_SS_lock_82 : decode c_SS_lock 82 = .ok (.getfield 76, 3) := by decide +kernel
theorem d_SS_lock_85 : decode c_SS_lock 85 = .ok (.aload 6, 2) := by decide +kernel
theorem d_SS_lock_87 : decode c_SS_lock 87 = .ok (.invokevirtual 171, 3) := by decide +kernel
theorem d_SS_lock_90 : decode c_SS_lock 90 = .ok (.aload 5, 2) := by decide +kernel
theorem d_SS_lock_92 : decode c_SS_lock 92 = .ok (.getfield 76, 3) := by decide +kernel
theorem d_SS_lock_95 : decode c_SS_lock 95 = .ok (.getfield 168, 3) := by decide +kernel
theorem d_SS_lock_98 : decode c_SS_lock 98 = .ok (.ireturn, 1) := by decide +kernel
theorem d_SS_isRange_0 : decode c_SS_isRange 0 = .ok (.iload_n 0, 1) := by decide +kernel
theorem d_SS_isRange_1 : decode c_SS_isRange 1 = .ok (.bipush 32, 2) := by decide +kernel
theorem d_SS_isRange_3 : decode c_SS_isRange 3 = .ok (.invokestatic 37, 3) := by decide +kernel
theorem d_SS_isRange_6 : decode c_SS_isRange 6 = .ok (.ifCond .eq 26, 3) := by decide +kernel
theorem d_SS_isRange_9 : decode c_SS_isRange 9 = .ok (.iload_n 1, 1) := by decide +kernel
theorem d_SS_isRange_10 : decode c_SS_isRange 10 = .ok (.iconst 1, 1) := by decide +kernel
theorem d_SS_isRange_11 : decode c_SS_isRange 11 = .ok (.isub, 1) := by decide +kernel
theorem d_SS_isRange_12 : decode c_SS_isRange 12 = .ok (.bipush 32, 2) := by decide +kernel
theorem d_SS_isRange_14 : decode c_SS_isRange 14 = .ok (.invokestatic 37, 3) := by decide +kernel
theorem d_SS_isRange_17 : decode c_SS_isRange 17 = .ok (.ifCond .eq 15, 3) := by decide +kernel
theorem d_SS_isRange_20 : decode c_SS_isRange 20 = .ok (.iload_n 0, 1) := by decide +kernel
theorem d_SS_isRange_21 : decode c_SS_isRange 21 = .ok (.iload_n 1, 1) := by decide +kernel
theorem d_SS_isRange_22 : decode c_SS_isRange 22 = .ok (.iadd, 1) := by decide +kernel
theorem d_SS_isRange_23 : decode c_SS_isRange 23 = .ok (.bipush 32, 2) := by decide +kernel
theorem d_SS_isRange_25 : decode c_SS_isRange 25 = .ok (.if_icmp .gt 7, 3) := by decide +kernel
theorem d_SS_isRange_28 : decode c_SS_isRange 28 = .ok (.iconst 1, 1) := by decide +kernel
theorem d_SS_isRange_29 : decode c_SS_isRange 29 = .ok (.goto 4, 3) := by decide +kernel
theorem d_SS_isRange_32 : decode c_SS_isRange 32 = .ok (.iconst 0, 1) := by decide +kernel
theorem d_SS_isRange_33 : decode c_SS_isRange 33 = .ok (.ireturn, 1) := by decide +kernel
theorem d_Lk_init_0 : decode c_Lk_init 0 = .ok (.aload_n 0, 1) := by decide +kernel
theorem d_Lk_init_1 : decode c_Lk_init 1 = .ok (.invokespecial 1, 3) := by decide +kernel
theorem d_Lk_init_4 : decode c_Lk_init 4 = .ok (.aload_n 0, 1) := by decide +kernel
theorem d_Lk_init_5 : decode c_Lk_init 5 = .ok (.aload_n 1, 1) := by decide +kernel
theorem d_Lk_init_6 : decode c_Lk_init 6 = .ok (.putfield 7, 3) := by decide +kernel
theorem d_Lk_init_9 : decode c_Lk_init 9 = .ok (.aload_n 0, 1) := by decide +kernel
theorem d_Lk_init_10 : decode c_Lk_init 10 = .ok (.iload_n 2, 1) := by decide +kernel
theorem d_Lk_init_11 : decode c_Lk_init 11 = .ok (.putfield 13, 3) := by decide +kernel
theorem d_Lk_init_14 : decode c_Lk_init 14 = .ok (.aload_n 0, 1) := by decide +kernel
theorem d_Lk_init_15 : decode c_Lk_init 15 = .ok (.iload_n 3, 1) := by decide +kernel
theorem d_Lk_init_16 : decode c_Lk_init 16 = .ok (.putfield 17, 3) := by decide +kernel
theorem d_Lk_init_19 : decode c_Lk_init 19 = .ok (.aload_n 0, 1) := by decide +kernel
theorem d_Lk_init_20 : decode c_Lk_init 20 = .ok (.iload 4, 2) := by decide +kernel
theorem d_Lk_init_22 : decode c_Lk_init 22 = .ok (.putfield 20, 3) := by decide +kernel
theorem d_Lk_init_25 : decode c_Lk_init 25 = .ok (.return_, 1) := by decide +kernel
theorem d_Nd_barsLocking_0 : decode c_Nd_barsLocking 0 = .ok (.iconst 0, 1) := by decide +kernel
theorem d_Nd_barsLocking_1 : decode c_Nd_barsLocking 1 = .ok (.istore_n 2, 1) := by decide +kernel
theorem d_Nd_barsLocking_2 : decode c_Nd_barsLocking 2 = .ok (.iload_n 2, 1) := by decide +kernel
theorem d_Nd_barsLocking_3 : decode c_Nd_barsLocking 3 = .ok (.aload_n 0, 1) := by decide +kernel
theorem d_Nd_barsLocking_4 : decode c_Nd_barsLocking 4 = .ok (.getfield 35, 3) := by decide +kernel
theorem d_Nd_barsLocking_7 : decode c_Nd_barsLocking 7 = .ok (.if_icmp .ge 43, 3) := by decide +kernel
theorem d_Nd_barsLocking_10 : decode c_Nd_barsLocking 10 = .ok (.aload_n 0, 1) := by decide +kernel
theorem d_Nd_barsLocking_11 : decode c_Nd_barsLocking 11 = .ok (.getfield 31, 3) := by decide +kernel
theorem d_Nd_barsLocking_14 : decode c_Nd_barsLocking 14 = .ok (.iload_n 2, 1) := by decide +kernel
theorem d_Nd_barsLocking_15 : decode c_Nd_barsLocking 15 = .ok (.aaload, 1) := by decide +kernel
theorem d_Nd_barsLocking_16 : decode c_Nd_barsLocking 16 = .ok (.aload_n 1, 1) := by decide +kernel
theorem d_Nd_barsLocking_17 : decode c_Nd_barsLocking 17 = .ok (.invokevirtual 49, 3) := by decide +kernel
theorem d_Nd_barsLocking_20 : decode c_Nd_barsLocking 20 = .ok (.ifCond .eq 24, 3) := by decide +kernel
theorem d_Nd_barsLocking_23 : decode c_Nd_barsLocking 23 = .ok (.aload_n 0, 1) := by decide +kernel
theorem d_Nd_barsLocking_24 : decode c_Nd_barsLocking 24 = .ok (.getfield 31, 3) := by decide +kernel
theorem d_Nd_barsLocking_27 : decode c_Nd_barsLocking 27 = .ok (.iload_n 2, 1) := by decide +kernel
theorem d_Nd_barsLocking_28 : decode c_Nd_barsLocking 28 = .ok (.aaload, 1) := by decide +kernel
theorem d_Nd_barsLocking_29 : decode c_Nd_barsLocking 29 = .ok (.getfield 42, 3) := by decide +kernel
theorem d_Nd_barsLocking_32 : decode c_Nd_barsLocking 32 = .ok (.ifCond .ne 10, 3) := by decide +kernel
theorem d_Nd_barsLocking_35 : decode c_Nd_barsLocking 35 = .ok (.aload_n 1, 1) := by decide +kernel
theorem d_Nd_barsLocking_36 : decode c_Nd_barsLocking 36 = .ok (.getfield 42, 3) := by decide +kernel
theorem d_Nd_barsLocking_39 : decode c_Nd_barsLocking 39 = .ok (.ifCond .eq 5, 3) := by decide +kernel
theorem d_Nd_barsLocking_42 : decode c_Nd_barsLocking 42 = .ok (.iconst 1, 1) := by decide +kernel
theorem d_Nd_barsLocking_43 : decode c_Nd_barsLocking 43 = .ok (.ireturn, 1) := by decide +kernel
theorem d_Nd_barsLocking_44 : decode c_Nd_barsLocking 44 = .ok (.iinc 2 1, 3) := by decide +kernel
theorem d_Nd_barsLocking_47 : decode c_Nd_barsLocking 47 = .ok (.goto (-45), 3) := by decide +kernel
theorem d_Nd_barsLocking_50 : decode c_Nd_barsLocking 50 = .ok (.iconst 0, 1) := by decide +kernel
theorem d_Nd_barsLocking_51 : decode c_Nd_barsLocking 51 = .ok (.ireturn, 1) := by decide +kernel
theorem d_Lk_meets_0 : decode c_Lk_meets 0 = .ok (.aload_n 0, 1) := by decide +kernel
theorem d_Lk_meets_1 : decode c_Lk_meets 1 = .ok (.aload_n 1, 1) := by decide +kernel
theorem d_Lk_meets_2 : decode c_Lk_meets 2 = .ok (.getfield 13, 3) := by decide +kernel
theorem d_Lk_meets_5 : decode c_Lk_meets 5 = .ok (.invokevirtual 24, 3) := by decide +kernel
theorem d_Lk_meets_8 : decode c_Lk_meets 8 = .ok (.ifCond .ne 14, 3) := by decide +kernel
theorem d_Lk_meets_11 : decode c_Lk_meets 11 = .ok (.aload_n 1, 1) := by decide +kernel
theorem d_Lk_meets_12 : decode c_Lk_meets 12 = .ok (.aload_n 0, 1) := by decide +kernel
theorem d_Lk_meets_13 : decode c_Lk_meets 13 = .ok (.getfield 13, 3) := by decide +kernel
theorem d_Lk_meets_16 : decode c_Lk_meets 16 = .ok (.invokevirtual 24, 3) := by decide +kernel
theorem d_Lk_meets_19 : decode c_Lk_meets 19 = .ok (.ifCond .eq 7, 3) := by decide +kernel
theorem d_Lk_meets_22 : decode c_Lk_meets 22 = .ok (.iconst 1, 1) := by decide +kernel
theorem d_Lk_meets_23 : decode c_Lk_meets 23 = .ok (.goto 4, 3) := by decide +kernel
theorem d_Lk_meets_26 : decode c_Lk_meets 26 = .ok (.iconst 0, 1) := by decide +kernel
theorem d_Lk_meets_27 : decode c_Lk_meets 27 = .ok (.ireturn, 1) := by decide +kernel
theorem d_Nd_addLock_0 : decode c_Nd_addLock 0 = .ok (.aload_n 0, 1) := by decide +kernel
theorem d_Nd_addLock_1 : decode c_Nd_addLock 1 = .ok (.getfield 35, 3) := by decide +kernel
theorem d_Nd_addLock_4 : decode c_Nd_addLock 4 = .ok (.aload_n 0, 1) := by decide +kernel
theorem d_Nd_addLock_5 : decode c_Nd_addLock 5 = .ok (.getfield 31, 3) := by decide +kernel
theorem d_Nd_addLock_8 : decode c_Nd_addLock 8 = .ok (.arraylength, 1) := by decide +kernel
theorem d_Nd_addLock_9 : decode c_Nd_addLock 9 = .ok (.if_icmp .ge 23, 3) := by decide +kernel
theorem d_Nd_addLock_12 : decode c_Nd_addLock 12 = .ok (.aload_n 0, 1) := by decide +kernel
theorem d_Nd_addLock_13 : decode c_Nd_addLock 13 = .ok (.getfield 31, 3) := by decide +kernel
theorem d_Nd_addLock_16 : decode c_Nd_addLock 16 = .ok (.aload_n 0, 1) := by decide +kernel
theorem d_Nd_addLock_17 : decode c_Nd_addLock 17 = .ok (.getfield 35, 3) := by decide +kernel
theorem d_Nd_addLock_20 : decode c_Nd_addLock 20 = .ok (.aload_n 1, 1) := by decide +kernel
theorem d_Nd_addLock_21 : decode c_Nd_addLock 21 = .ok (.aastore, 1) := by decide +kernel
theorem d_Nd_addLock_22 : decode c_Nd_addLock 22 = .ok (.aload_n 0, 1) := by decide +kernel
theorem d_Nd_addLock_23 : decode c_Nd_addLock 23 = .ok (.dup, 1) := by decide +kernel
theorem d_Nd_addLock_24 : decode c_Nd_addLock 24 = .ok (.getfield 35, 3) := by decide +kernel
theorem d_Nd_addLock_27 : decode c_Nd_addLock 27 = .ok (.iconst 1, 1) := by decide +kernel
theorem d_Nd_addLock_28 : decode c_Nd_addLock 28 = .ok (.iadd, 1) := by decide +kernel
theorem d_Nd_addLock_29 : decode c_Nd_addLock 29 = .ok (.putfield 35, 3) := by decide +kernel
theorem d_Nd_addLock_32 : decode c_Nd_addLock 32 = .ok (.return_, 1) := by decide +kernel
theorem d_SS_unlock_0 : decode c_SS_unlock 0 = .ok (.aload_n 0, 1) := by decide +kernel
theorem d_SS_unlock_1 : decode c_SS_unlock 1 = .ok (.iload_n 1, 1) := by decide +kernel
theorem d_SS_unlock_2 : decode c_SS_unlock 2 = .ok (.invokevirtual 66, 3) := by decide +kernel
theorem d_SS_unlock_5 : decode c_SS_unlock 5 = .ok (.astore 4, 2) := by decide +kernel
theorem d_SS_unlock_7 : decode c_SS_unlock 7 = .ok (.aload 4, 2) := by decide +kernel
theorem d_SS_unlock_9 : decode c_SS_unlock 9 = .ok (.ifnull 22, 3) := by decide +kernel
theorem d_SS_unlock_12 : decode c_SS_unlock 12 = .ok (.iload_n 2, 1) := by decide +kernel
theorem d_SS_unlock_13 : decode c_SS_unlock 13 = .ok (.iload_n 3, 1) := by decide +kernel
theorem d_SS_unlock_14 : decode c_SS_unlock 14 = .ok (.invokestatic 156, 3) := by decide +kernel
theorem d_SS_unlock_17 : decode c_SS_unlock 17 = .ok (.ifCond .eq 14, 3) := by decide +kernel
theorem d_SS_unlock_20 : decode c_SS_unlock 20 = .ok (.aload 4, 2) := by decide +kernel
theorem d_SS_unlock_22 : decode c_SS_unlock 22 = .ok (.getfield 76, 3) := by decide +kernel
theorem d_SS_unlock_25 : decode c_SS_unlock 25 = .ok (.getfield 136, 3) := by decide +kernel
theorem d_SS_unlock_28 : decode c_SS_unlock 28 = .ok (.ifCond .eq 5, 3) := by decide +kernel
theorem d_SS_unlock_31 : decode c_SS_unlock 31 = .ok (.iconst (-1), 1) := by decide +kernel
theorem d_SS_unlock_32 : decode c_SS_unlock 32 = .ok (.ireturn, 1) := by decide +kernel
theorem d_SS_unlock_33 : decode c_SS_unlock 33 = .ok (.aload 4, 2) := by decide +kernel
theorem d_SS_unlock_35 : decode c_SS_unlock 35 = .ok (.getfield 76, 3) := by decide +kernel
theorem d_SS_unlock_38 : decode c_SS_unlock 38 = .ok (.aload 4, 2) := by decide +kernel
theorem d_SS_unlock_40 : decode c_SS_unlock 40 = .ok (.iload_n 2, 1) := by decide +kernel
theorem d_SS_unlock_41 : decode c_SS_unlock 41 = .ok (.iload_n 3, 1) := by decide +kernel
theorem d_SS_unlock_42 : decode c_SS_unlock 42 = .ok (.invokevirtual 175, 3) := by decide +kernel
theorem d_SS_unlock_45 : decode c_SS_unlock 45 = .ok (.istore 5, 2) := by decide +kernel
theorem d_SS_unlock_47 : decode c_SS_unlock 47 = .ok (.iload 5, 2) := by decide +kernel
theorem d_SS_unlock_49 : decode c_SS_unlock 49 = .ok (.ifCond .ge 5, 3) := by decide +kernel
theorem d_SS_unlock_52 : decode c_SS_unlock 52 = .ok (.iconst (-1), 1) := by decide +kernel
theorem d_SS_unlock_53 : decode c_SS_unlock 53 = .ok (.ireturn, 1) := by decide +kernel
theorem d_SS_unlock_54 : decode c_SS_unlock 54 = .ok (.aload 4, 2) := by decide +kernel
theorem d_SS_unlock_56 : decode c_SS_unlock 56 = .ok (.getfield 76, 3) := by decide +kernel
theorem d_SS_unlock_59 : decode c_SS_unlock 59 = .ok (.iload 5, 2) := by decide +kernel
theorem d_SS_unlock_61 : decode c_SS_unlock 61 = .ok (.invokevirtual 179, 3) := by decide +kernel
theorem d_SS_unlock_64 : decode c_SS_unlock 64 = .ok (.aload 4, 2) := by decide +kernel
theorem d_SS_unlock_66 : decode c_SS_unlock 66 = .ok (.getfield 76, 3) := by decide +kernel
theorem d_SS_unlock_69 : decode c_SS_unlock 69 = .ok (.getfield 168, 3) := by decide +kernel
theorem d_SS_unlock_72 : decode c_SS_unlock 72 = .ok (.ireturn, 1) := by decide +kernel
theorem d_Nd_oldestLock_0 : decode c_Nd_oldestLock 0 = .ok (.iconst 0, 1) := by decide +kernel
theorem d_Nd_oldestLock_1 : decode c_Nd_oldestLock 1 = .ok (.istore 4, 2) := by decide +kernel
theorem d_Nd_oldestLock_3 : decode c_Nd_oldestLock 3 = .ok (.iload 4, 2) := by decide +kernel
theorem d_Nd_oldestLock_5 : decode c_Nd_oldestLock 5 = .ok (.aload_n 0, 1) := by decide +kernel
theorem d_Nd_oldestLock_6 : decode c_Nd_oldestLock 6 = .ok (.getfield 35, 3) := by decide +kernel
theorem d_Nd_oldestLock_9 : decode c_Nd_oldestLock 9 = .ok (.if_icmp .ge 54, 3) := by decide +kernel
theorem d_Nd_oldestLock_12 : decode c_Nd_oldestLock 12 = .ok (.aload_n 0, 1) := by decide +kernel
theorem d_Nd_oldestLock_13 : decode c_Nd_oldestLock 13 = .ok (.getfield 31, 3) := by decide +kernel
theorem d_Nd_oldestLock_16 : decode c_Nd_oldestLock 16 = .ok (.iload 4, 2) := by decide +kernel
theorem d_Nd_oldestLock_18 : decode c_Nd_oldestLock 18 = .ok (.aaload, 1) := by decide +kernel
theorem d_Nd_oldestLock_19 : decode c_Nd_oldestLock 19 = .ok (.getfield 45, 3) := by decide +kernel
theorem d_Nd_oldestLock_22 : decode c_Nd_oldestLock 22 = .ok (.aload_n 1, 1) := by decide +kernel
theorem d_Nd_oldestLock_23 : decode c_Nd_oldestLock 23 = .ok (.if_acmp .ne 34, 3) := by decide +kernel
theorem d_Nd_oldestLock_26 : decode c_Nd_oldestLock 26 = .ok (.aload_n 0, 1) := by decide +kernel
theorem d_Nd_oldestLock_27 : decode c_Nd_oldestLock 27 = .ok (.getfield 31, 3) := by decide +kernel
theorem d_Nd_oldestLock_30 : decode c_Nd_oldestLock 30 = .ok (.iload 4, 2) := by decide +kernel
theorem d_Nd_oldestLock_32 : decode c_Nd_oldestLock 32 = .ok (.aaload, 1) := by decide +kernel
theorem d_Nd_oldestLock_33 : decode c_Nd_oldestLock 33 = .ok (.getfield 53, 3) := by decide +kernel
theorem d_Nd_oldestLock_36 : decode c_Nd_oldestLock 36 = .ok (.iload_n 2, 1) := by decide +kernel
theorem d_Nd_oldestLock_37 : decode c_Nd_oldestLock 37 = .ok (.if_icmp .ne 20, 3) := by decide +kernel
theorem d_Nd_oldestLock_40 : decode c_Nd_oldestLock 40 = .ok (.aload_n 0, 1) := by decide +kernel
theorem d_Nd_oldestLock_41 : decode c_Nd_oldestLock 41 = .ok (.getfield 31, 3) := by decide +kernel
theorem d_Nd_oldestLock_44 : decode c_Nd_oldestLock 44 = .ok (.iload 4, 2) := by decide +kernel
theorem d_Nd_oldestLock_46 : decode c_Nd_oldestLock 46 = .ok (.aaload, 1) := by decide +kernel
theorem d_Nd_oldestLock_47 : decode c_Nd_oldestLock 47 = .ok (.getfield 56, 3) := by decide +kernel
theorem d_Nd_oldestLock_50 : decode c_Nd_oldestLock 50 = .ok (.iload_n 3, 1) := by decide +kernel
theorem d_Nd_oldestLock_51 : decode c_Nd_oldestLock 51 = .ok (.if_icmp .ne 6, 3) := by decide +kernel
theorem d_Nd_oldestLock_54 : decode c_Nd_oldestLock 54 = .ok (.iload 4, 2) := by decide +kernel
theorem d_Nd_oldestLock_56 : decode c_Nd_oldestLock 56 = .ok (.ireturn, 1) := by decide +kernel
theorem d_Nd_oldestLock_57 : decode c_Nd_oldestLock 57 = .ok (.iinc 4 1, 3) := by decide +kernel
theorem d_Nd_oldestLock_60 : decode c_Nd_oldestLock 60 = .ok (.goto (-57), 3) := by decide +kernel
theorem d_Nd_oldestLock_63 : decode c_Nd_oldestLock 63 = .ok (.iconst (-1), 1) := by decide +kernel
theorem d_Nd_oldestLock_64 : decode c_Nd_oldestLock 64 = .ok (.ireturn, 1) := by decide +kernel
theorem d_Nd_dropLock_0 : decode c_Nd_dropLock 0 = .ok (.iload_n 1, 1) := by decide +kernel
theorem d_Nd_dropLock_1 : decode c_Nd_dropLock 1 = .ok (.istore_n 2, 1) := by decide +kernel
theorem d_Nd_dropLock_2 : decode c_Nd_dropLock 2 = .ok (.iload_n 2, 1) := by decide +kernel
theorem d_Nd_dropLock_3 : decode c_Nd_dropLock 3 = .ok (.aload_n 0, 1) := by decide +kernel
theorem d_Nd_dropLock_4 : decode c_Nd_dropLock 4 = .ok (.getfield 35, 3) := by decide +kernel
theorem d_Nd_dropLock_7 : decode c_Nd_dropLock 7 = .ok (.iconst 1, 1) := by decide +kernel
theorem d_Nd_dropLock_8 : decode c_Nd_dropLock 8 = .ok (.isub, 1) := by decide +kernel
theorem d_Nd_dropLock_9 : decode c_Nd_dropLock 9 = .ok (.if_icmp .ge 23, 3) := by decide +kernel
theorem d_Nd_dropLock_12 : decode c_Nd_dropLock 12 = .ok (.aload_n 0, 1) := by decide +kernel
theorem d_Nd_dropLock_13 : decode c_Nd_dropLock 13 = .ok (.getfield 31, 3) := by decide +kernel
theorem d_Nd_dropLock_16 : decode c_Nd_dropLock 16 = .ok (.iload_n 2, 1) := by decide +kernel
theorem d_Nd_dropLock_17 : decode c_Nd_dropLock 17 = .ok (.aload_n 0, 1) := by decide +kernel
theorem d_Nd_dropLock_18 : decode c_Nd_dropLock 18 = .ok (.getfield 31, 3) := by decide +kernel
theorem d_Nd_dropLock_21 : decode c_Nd_dropLock 21 = .ok (.iload_n 2, 1) := by decide +kernel
theorem d_Nd_dropLock_22 : decode c_Nd_dropLock 22 = .ok (.iconst 1, 1) := by decide +kernel
theorem d_Nd_dropLock_23 : decode c_Nd_dropLock 23 = .ok (.iadd, 1) := by decide +kernel
theorem d_Nd_dropLock_24 : decode c_Nd_dropLock 24 = .ok (.aaload, 1) := by decide +kernel
theorem d_Nd_dropLock_25 : decode c_Nd_dropLock 25 = .ok (.aastore, 1) := by decide +kernel
theorem d_Nd_dropLock_26 : decode c_Nd_dropLock 26 = .ok (.iinc 2 1, 3) := by decide +kernel
theorem d_Nd_dropLock_29 : decode c_Nd_dropLock 29 = .ok (.goto (-27), 3) := by decide +kernel
theorem d_Nd_dropLock_32 : decode c_Nd_dropLock 32 = .ok (.aload_n 0, 1) := by decide +kernel
theorem d_Nd_dropLock_33 : decode c_Nd_dropLock 33 = .ok (.dup, 1) := by decide +kernel
theorem d_Nd_dropLock_34 : decode c_Nd_dropLock 34 = .ok (.getfield 35, 3) := by decide +kernel
theorem d_Nd_dropLock_37 : decode c_Nd_dropLock 37 = .ok (.iconst 1, 1) := by decide +kernel
theorem d_Nd_dropLock_38 : decode c_Nd_dropLock 38 = .ok (.isub, 1) := by decide +kernel
theorem d_Nd_dropLock_39 : decode c_Nd_dropLock 39 = .ok (.putfield 35, 3) := by decide +kernel
theorem d_Nd_dropLock_42 : decode c_Nd_dropLock 42 = .ok (.return_, 1) := by decide +kernel
theorem d_SS_sync_0 : decode c_SS_sync 0 = .ok (.aload_n 0, 1) := by decide +kernel
theorem d_SS_sync_1 : decode c_SS_sync 1 = .ok (.getfield 33, 3) := by decide +kernel
theorem d_SS_sync_4 : decode c_SS_sync 4 = .ok (.invokevirtual 183, 3) := by decide +kernel
theorem d_SS_sync_7 : decode c_SS_sync 7 = .ok (.aload_n 0, 1) := by decide +kernel
theorem d_SS_sync_8 : decode c_SS_sync 8 = .ok (.getfield 33, 3) := by decide +kernel
theorem d_SS_sync_11 : decode c_SS_sync 11 = .ok (.invokevirtual 186, 3) := by decide +kernel
theorem d_SS_sync_14 : decode c_SS_sync 14 = .ok (.ireturn, 1) := by decide +kernel
theorem d_Lg_changes_0 : decode c_Lg_changes 0 = .ok (.aload_n 0, 1) := by decide +kernel
theorem d_Lg_changes_1 : decode c_Lg_changes 1 = .ok (.getfield 24, 3) := by decide +kernel
theorem d_Lg_changes_4 : decode c_Lg_changes 4 = .ok (.aload_n 0, 1) := by decide +kernel
theorem d_Lg_changes_5 : decode c_Lg_changes 5 = .ok (.getfield 17, 3) := by decide +kernel
theorem d_Lg_changes_8 : decode c_Lg_changes 8 = .ok (.iadd, 1) := by decide +kernel
theorem d_Lg_changes_9 : decode c_Lg_changes 9 = .ok (.ireturn, 1) := by decide +kernel
theorem d_SS_crash_0 : decode c_SS_crash 0 = .ok (.aload_n 0, 1) := by decide +kernel
theorem d_SS_crash_1 : decode c_SS_crash 1 = .ok (.invokevirtual 190, 3) := by decide +kernel
theorem d_SS_crash_4 : decode c_SS_crash 4 = .ok (.aload_n 0, 1) := by decide +kernel
theorem d_SS_crash_5 : decode c_SS_crash 5 = .ok (.iconst 0, 1) := by decide +kernel
theorem d_SS_crash_6 : decode c_SS_crash 6 = .ok (.putfield 94, 3) := by decide +kernel
theorem d_SS_crash_9 : decode c_SS_crash 9 = .ok (.aload_n 0, 1) := by decide +kernel
theorem d_SS_crash_10 : decode c_SS_crash 10 = .ok (.invokevirtual 193, 3) := by decide +kernel
theorem d_SS_crash_13 : decode c_SS_crash 13 = .ok (.aload_n 0, 1) := by decide +kernel
theorem d_SS_crash_14 : decode c_SS_crash 14 = .ok (.invokevirtual 196, 3) := by decide +kernel
theorem d_SS_crash_17 : decode c_SS_crash 17 = .ok (.aload_n 0, 1) := by decide +kernel
theorem d_SS_crash_18 : decode c_SS_crash 18 = .ok (.getfield 33, 3) := by decide +kernel
theorem d_SS_crash_21 : decode c_SS_crash 21 = .ok (.invokevirtual 186, 3) := by decide +kernel
theorem d_SS_crash_24 : decode c_SS_crash 24 = .ok (.ireturn, 1) := by decide +kernel
theorem d_SS_undoUnsafeChanges_0 : decode c_SS_undoUnsafeChanges 0 = .ok (.aload_n 0, 1) := by decide +kernel
theorem d_SS_undoUnsafeChanges_1 : decode c_SS_undoUnsafeChanges 1 = .ok (.getfield 33, 3) := by decide +kernel
theorem d_SS_undoUnsafeChanges_4 : decode c_SS_undoUnsafeChanges 4 = .ok (.getfield 270, 3) := by decide +kernel
theorem d_SS_undoUnsafeChanges_7 : decode c_SS_undoUnsafeChanges 7 = .ok (.iconst 1, 1) := by decide +kernel
theorem d_SS_undoUnsafeChanges_8 : decode c_SS_undoUnsafeChanges 8 = .ok (.isub, 1) := by decide +kernel
theorem d_SS_undoUnsafeChanges_9 : decode c_SS_undoUnsafeChanges 9 = .ok (.istore_n 1, 1) := by decide +kernel
theorem d_SS_undoUnsafeChanges_10 : decode c_SS_undoUnsafeChanges 10 = .ok (.iload_n 1, 1) := by decide +kernel
theorem d_SS_undoUnsafeChanges_11 : decode c_SS_undoUnsafeChanges 11 = .ok (.ifCond .lt 22, 3) := by decide +kernel
theorem d_SS_undoUnsafeChanges_14 : decode c_SS_undoUnsafeChanges 14 = .ok (.aload_n 0, 1) := by decide +kernel
theorem d_SS_undoUnsafeChanges_15 : decode c_SS_undoUnsafeChanges 15 = .ok (.aload_n 0, 1) := by decide +kernel
theorem d_SS_undoUnsafeChanges_16 : decode c_SS_undoUnsafeChanges 16 = .ok (.getfield 33, 3) := by decide +kernel
theorem d_SS_undoUnsafeChanges_19 : decode c_SS_undoUnsafeChanges 19 = .ok (.getfield 273, 3) := by decide +kernel
theorem d_SS_undoUnsafeChanges_22 : decode c_SS_undoUnsafeChanges 22 = .ok (.iload_n 1, 1) := by decide +kernel
theorem d_SS_undoUnsafeChanges_23 : decode c_SS_undoUnsafeChanges 23 = .ok (.aaload, 1) := by decide +kernel
theorem d_SS_undoUnsafeChanges_24 : decode c_SS_undoUnsafeChanges 24 = .ok (.invokevirtual 277, 3) := by decide +kernel
theorem d_SS_undoUnsafeChanges_27 : decode c_SS_undoUnsafeChanges 27 = .ok (.iinc 1 (-1), 3) := by decide +kernel
theorem d_SS_undoUnsafeChanges_30 : decode c_SS_undoUnsafeChanges 30 = .ok (.goto (-20), 3) := by decide +kernel
theorem d_SS_undoUnsafeChanges_33 : decode c_SS_undoUnsafeChanges 33 = .ok (.aload_n 0, 1) := by decide +kernel
theorem d_SS_undoUnsafeChanges_34 : decode c_SS_undoUnsafeChanges 34 = .ok (.getfield 33, 3) := by decide +kernel
theorem d_SS_undoUnsafeChanges_37 : decode c_SS_undoUnsafeChanges 37 = .ok (.iconst 0, 1) := by decide +kernel
theorem d_SS_undoUnsafeChanges_38 : decode c_SS_undoUnsafeChanges 38 = .ok (.putfield 270, 3) := by decide +kernel
theorem d_SS_undoUnsafeChanges_41 : decode c_SS_undoUnsafeChanges 41 = .ok (.return_, 1) := by decide +kernel
theorem d_SS_undo_0 : decode c_SS_undo 0 = .ok (.aload_n 1, 1) := by decide +kernel
theorem d_SS_undo_1 : decode c_SS_undo 1 = .ok (.getfield 280, 3) := by decide +kernel
theorem d_SS_undo_4 : decode c_SS_undo 4 = .ok (.astore_n 2, 1) := by decide +kernel
theorem d_SS_undo_5 : decode c_SS_undo 5 = .ok (.aload_n 1, 1) := by decide +kernel
theorem d_SS_undo_6 : decode c_SS_undo 6 = .ok (.getfield 281, 3) := by decide +kernel
theorem d_SS_undo_9 : decode c_SS_undo 9 = .ok (.tableswitch 102 0 3 #[31, 54, 67, 86], 31) := by decide +kernel
theorem d_SS_undo_40 : decode c_SS_undo 40 = .ok (.aload_n 0, 1) := by decide +kernel
theorem d_SS_undo_41 : decode c_SS_undo 41 = .ok (.getfield 11, 3) := by decide +kernel
theorem d_SS_undo_44 : decode c_SS_undo 44 = .ok (.aload_n 2, 1) := by decide +kernel
theorem d_SS_undo_45 : decode c_SS_undo 45 = .ok (.getfield 108, 3) := by decide +kernel
theorem d_SS_undo_48 : decode c_SS_undo 48 = .ok (.aconst_null, 1) := by decide +kernel
theorem d_SS_undo_49 : decode c_SS_undo 49 = .ok (.aastore, 1) := by decide +kernel
theorem d_SS_undo_50 : decode c_SS_undo 50 = .ok (.aload_n 0, 1) := by decide +kernel
theorem d_SS_undo_51 : decode c_SS_undo 51 = .ok (.dup, 1) := by decide +kernel
theorem d_SS_undo_52 : decode c_SS_undo 52 = .ok (.getfield 215, 3) := by decide +kernel
theorem d_SS_undo_55 : decode c_SS_undo 55 = .ok (.iconst 1, 1) := by decide +kernel
theorem d_SS_undo_56 : decode c_SS_undo 56 = .ok (.isub, 1) := by decide +kernel
theorem d_SS_undo_57 : decode c_SS_undo 57 = .ok (.putfield 215, 3) := by decide +kernel
theorem d_SS_undo_60 : decode c_SS_undo 60 = .ok (.goto 51, 3) := by decide +kernel
theorem d_SS_undo_63 : decode c_SS_undo 63 = .ok (.aload_n 0, 1) := by decide +kernel
theorem d_SS_undo_64 : decode c_SS_undo 64 = .ok (.getfield 11, 3) := by decide +kernel
theorem d_SS_undo_67 : decode c_SS_undo 67 = .ok (.aload_n 2, 1) := by decide +kernel
theorem d_SS_undo_68 : decode c_SS_undo 68 = .ok (.getfield 108, 3) := by decide +kernel
theorem d_SS_undo_71 : decode c_SS_undo 71 = .ok (.aload_n 2, 1) := by decide +kernel
theorem d_SS_undo_72 : decode c_SS_undo 72 = .ok (.aastore, 1) := by decide +kernel
theorem d_SS_undo_73 : decode c_SS_undo 73 = .ok (.goto 38, 3) := by decide +kernel
theorem d_SS_undo_76 : decode c_SS_undo 76 = .ok (.aload_n 2, 1) := by decide +kernel
theorem d_SS_undo_77 : decode c_SS_undo 77 = .ok (.aload_n 1, 1) := by decide +kernel
theorem d_SS_undo_78 : decode c_SS_undo 78 = .ok (.getfield 284, 3) := by decide +kernel
theorem d_SS_undo_81 : decode c_SS_undo 81 = .ok (.putfield 123, 3) := by decide +kernel
theorem d_SS_undo_84 : decode c_SS_undo 84 = .ok (.aload_n 2, 1) := by decide +kernel
theorem d_SS_undo_85 : decode c_SS_undo 85 = .ok (.aload_n 1, 1) := by decide +kernel
theorem d_SS_undo_86 : decode c_SS_undo 86 = .ok (.getfield 287, 3) := by decide +kernel
theorem d_SS_undo_89 : decode c_SS_undo 89 = .ok (.putfield 126, 3) := by decide +kernel
theorem d_SS_undo_92 : decode c_SS_undo 92 = .ok (.goto 19, 3) := by decide +kernel
theorem d_SS_undo_95 : decode c_SS_undo 95 = .ok (.aload_n 2, 1) := by decide +kernel
theorem d_SS_undo_96 : decode c_SS_undo 96 = .ok (.getfield 143, 3) := by decide +kernel
theorem d_SS_undo_99 : decode c_SS_undo 99 = .ok (.aload_n 1, 1) := by decide +kernel
theorem d_SS_undo_100 : decode c_SS_undo 100 = .ok (.getfield 284, 3) := by decide +kernel
theorem d_SS_undo_103 : decode c_SS_undo 103 = .ok (.aload_n 1, 1) := by decide +kernel
theorem d_SS_undo_104 : decode c_SS_undo 104 = .ok (.getfield 287, 3) := by decide +kernel
theorem d_SS_undo_107 : decode c_SS_undo 107 = .ok (.iastore, 1) := by decide +kernel
theorem d_SS_undo_108 : decode c_SS_undo 108 = .ok (.goto 3, 3) := by decide +kernel
theorem d_SS_undo_111 : decode c_SS_undo 111 = .ok (.return_, 1) := by decide +kernel
theorem d_SS_calmNodes_0 : decode c_SS_calmNodes 0 = .ok (.iconst 0, 1) := by decide +kernel
theorem d_SS_calmNodes_1 : decode c_SS_calmNodes 1 = .ok (.istore_n 1, 1) := by decide +kernel
theorem d_SS_calmNodes_2 : decode c_SS_calmNodes 2 = .ok (.iload_n 1, 1) := by decide +kernel
theorem d_SS_calmNodes_3 : decode c_SS_calmNodes 3 = .ok (.aload_n 0, 1) := by decide +kernel
theorem d_SS_calmNodes_4 : decode c_SS_calmNodes 4 = .ok (.getfield 11, 3) := by decide +kernel
theorem d_SS_calmNodes_7 : decode c_SS_calmNodes 7 = .ok (.arraylength, 1) := by decide +kernel
theorem d_SS_calmNodes_8 : decode c_SS_calmNodes 8 = .ok (.if_icmp .ge 38, 3) := by decide +kernel
theorem d_SS_calmNodes_11 : decode c_SS_calmNodes 11 = .ok (.aload_n 0, 1) := by decide +kernel
theorem d_SS_calmNodes_12 : decode c_SS_calmNodes 12 = .ok (.getfield 11, 3) := by decide +kernel
theorem d_SS_calmNodes_15 : decode c_SS_calmNodes 15 = .ok (.iload_n 1, 1) := by decide +kernel
theorem d_SS_calmNodes_16 : decode c_SS_calmNodes 16 = .ok (.aaload, 1) := by decide +kernel
theorem d_SS_calmNodes_17 : decode c_SS_calmNodes 17 = .ok (.ifnull 23, 3) := by decide +kernel
theorem d_SS_calmNodes_20 : decode c_SS_calmNodes 20 = .ok (.aload_n 0, 1) := by decide +kernel
theorem d_SS_calmNodes_21 : decode c_SS_calmNodes 21 = .ok (.getfield 11, 3) := by decide +kernel
theorem d_SS_calmNodes_24 : decode c_SS_calmNodes 24 = .ok (.iload_n 1, 1) := by decide +kernel
theorem d_SS_calmNodes_25 : decode c_SS_calmNodes 25 = .ok (.aaload, 1) := by decide +kernel
theorem d_SS_calmNodes_26 : decode c_SS_calmNodes 26 = .ok (.iconst 0, 1) := by decide +kernel
theorem d_SS_calmNodes_27 : decode c_SS_calmNodes 27 = .ok (.putfield 104, 3) := by decide +kernel
theorem d_SS_calmNodes_30 : decode c_SS_calmNodes 30 = .ok (.aload_n 0, 1) := by decide +kernel
theorem d_SS_calmNodes_31 : decode c_SS_calmNodes 31 = .ok (.getfield 11, 3) := by decide +kernel
theorem d_SS_calmNodes_34 : decode c_SS_calmNodes 34 = .ok (.iload_n 1, 1) := by decide +kernel
theorem d_SS_calmNodes_35 : decode c_SS_calmNodes 35 = .ok (.aaload, 1) := by decide +kernel
theorem d_SS_calmNodes_36 : decode c_SS_calmNodes 36 = .ok (.iconst 0, 1) := by decide +kernel
theorem d_SS_calmNodes_37 : decode c_SS_calmNodes 37 = .ok (.putfield 168, 3) := by decide +kernel
theorem d_SS_calmNodes_40 : decode c_SS_calmNodes 40 = .ok (.iinc 1 1, 3) := by decide +kernel
theorem d_SS_calmNodes_43 : decode c_SS_calmNodes 43 = .ok (.goto (-41), 3) := by decide +kernel
theorem d_SS_calmNodes_46 : decode c_SS_calmNodes 46 = .ok (.return_, 1) := by decide +kernel
theorem d_SS_loseWaiting_0 : decode c_SS_loseWaiting 0 = .ok (.iconst 0, 1) := by decide +kernel
theorem d_SS_loseWaiting_1 : decode c_SS_loseWaiting 1 = .ok (.istore_n 1, 1) := by decide +kernel
theorem d_SS_loseWaiting_2 : decode c_SS_loseWaiting 2 = .ok (.iload_n 1, 1) := by decide +kernel
theorem d_SS_loseWaiting_3 : decode c_SS_loseWaiting 3 = .ok (.aload_n 0, 1) := by decide +kernel
theorem d_SS_loseWaiting_4 : decode c_SS_loseWaiting 4 = .ok (.getfield 48, 3) := by decide +kernel
theorem d_SS_loseWaiting_7 : decode c_SS_loseWaiting 7 = .ok (.if_icmp .ge 32, 3) := by decide +kernel
theorem d_SS_loseWaiting_10 : decode c_SS_loseWaiting 10 = .ok (.aload_n 0, 1) := by decide +kernel
theorem d_SS_loseWaiting_11 : decode c_SS_loseWaiting 11 = .ok (.getfield 26, 3) := by decide +kernel
theorem d_SS_loseWaiting_14 : decode c_SS_loseWaiting 14 = .ok (.iload_n 1, 1) := by decide +kernel
theorem d_SS_loseWaiting_15 : decode c_SS_loseWaiting 15 = .ok (.aaload, 1) := by decide +kernel
theorem d_SS_loseWaiting_16 : decode c_SS_loseWaiting 16 = .ok (.getfield 59, 3) := by decide +kernel
theorem d_SS_loseWaiting_19 : decode c_SS_loseWaiting 19 = .ok (.ifCond .ne 14, 3) := by decide +kernel
theorem d_SS_loseWaiting_22 : decode c_SS_loseWaiting 22 = .ok (.aload_n 0, 1) := by decide +kernel
theorem d_SS_loseWaiting_23 : decode c_SS_loseWaiting 23 = .ok (.getfield 26, 3) := by decide +kernel
theorem d_SS_loseWaiting_26 : decode c_SS_loseWaiting 26 = .ok (.iload_n 1, 1) := by decide +kernel
theorem d_SS_loseWaiting_27 : decode c_SS_loseWaiting 27 = .ok (.aaload, 1) := by decide +kernel
theorem d_SS_loseWaiting_28 : decode c_SS_loseWaiting 28 = .ok (.bipush (-9), 2) := by decide +kernel
theorem d_SS_loseWaiting_30 : decode c_SS_loseWaiting 30 = .ok (.putfield 59, 3) := by decide +kernel
theorem d_SS_loseWaiting_33 : decode c_SS_loseWaiting 33 = .ok (.iinc 1 1, 3) := by decide +kernel
theorem d_SS_loseWaiting_36 : decode c_SS_loseWaiting 36 = .ok (.goto (-34), 3) := by decide +kernel
theorem d_SS_loseWaiting_39 : decode c_SS_loseWaiting 39 = .ok (.return_, 1) := by decide +kernel
theorem d_SS_find_0 : decode c_SS_find 0 = .ok (.iload_n 1, 1) := by decide +kernel
theorem d_SS_find_1 : decode c_SS_find 1 = .ok (.iload_n 2, 1) := by decide +kernel
theorem d_SS_find_2 : decode c_SS_find 2 = .ok (.invokestatic 41, 3) := by decide +kernel
theorem d_SS_find_5 : decode c_SS_find 5 = .ok (.ifCond .ne 5, 3) := by decide +kernel
theorem d_SS_find_8 : decode c_SS_find 8 = .ok (.iconst (-1), 1) := by decide +kernel
theorem d_SS_find_9 : decode c_SS_find 9 = .ok (.ireturn, 1) := by decide +kernel
theorem d_SS_find_10 : decode c_SS_find 10 = .ok (.aload_n 0, 1) := by decide +kernel
theorem d_SS_find_11 : decode c_SS_find 11 = .ok (.iload_n 1, 1) := by decide +kernel
theorem d_SS_find_12 : decode c_SS_find 12 = .ok (.iload_n 2, 1) := by decide +kernel
theorem d_SS_find_13 : decode c_SS_find 13 = .ok (.invokevirtual 117, 3) := by decide +kernel
theorem d_SS_find_16 : decode c_SS_find 16 = .ok (.astore_n 3, 1) := by decide +kernel
theorem d_SS_find_17 : decode c_SS_find 17 = .ok (.aload_n 3, 1) := by decide +kernel
theorem d_SS_find_18 : decode c_SS_find 18 = .ok (.ifnonnull 8, 3) := by decide +kernel
theorem d_SS_find_21 : decode c_SS_find 21 = .ok (.bipush (-3), 2) := by decide +kernel
theorem d_SS_find_23 : decode c_SS_find 23 = .ok (.goto 7, 3) := by decide +kernel
theorem d_SS_find_26 : decode c_SS_find 26 = .ok (.aload_n 3, 1) := by decide +kernel
theorem d_SS_find_27 : decode c_SS_find 27 = .ok (.getfield 108, 3) := by decide +kernel
theorem d_SS_find_30 : decode c_SS_find 30 = .ok (.ireturn, 1) := by decide +kernel
theorem d_SS_node_0 : decode c_SS_node 0 = .ok (.iload_n 1, 1) := by decide +kernel
theorem d_SS_node_1 : decode c_SS_node 1 = .ok (.aload_n 0, 1) := by decide +kernel
theorem d_SS_node_2 : decode c_SS_node 2 = .ok (.getfield 11, 3) := by decide +kernel
theorem d_SS_node_5 : decode c_SS_node 5 = .ok (.arraylength, 1) := by decide +kernel
theorem d_SS_node_6 : decode c_SS_node 6 = .ok (.invokestatic 37, 3) := by decide +kernel
theorem d_SS_node_9 : decode c_SS_node 9 = .ok (.ifCond .eq 12, 3) := by decide +kernel
theorem d_SS_node_12 : decode c_SS_node 12 = .ok (.aload_n 0, 1) := by decide +kernel
theorem d_SS_node_13 : decode c_SS_node 13 = .ok (.getfield 11, 3) := by decide +kernel
theorem d_SS_node_16 : decode c_SS_node 16 = .ok (.iload_n 1, 1) := by decide +kernel
theorem d_SS_node_17 : decode c_SS_node 17 = .ok (.aaload, 1) := by decide +kernel
theorem d_SS_node_18 : decode c_SS_node 18 = .ok (.ifnonnull 5, 3) := by decide +kernel
theorem d_SS_node_21 : decode c_SS_node 21 = .ok (.iconst (-1), 1) := by decide +kernel
theorem d_SS_node_22 : decode c_SS_node 22 = .ok (.ireturn, 1) := by decide +kernel
theorem d_SS_node_23 : decode c_SS_node 23 = .ok (.aload_n 0, 1) := by decide +kernel
theorem d_SS_node_24 : decode c_SS_node 24 = .ok (.getfield 11, 3) := by decide +kernel
theorem d_SS_node_27 : decode c_SS_node 27 = .ok (.iload_n 1, 1) := by decide +kernel
theorem d_SS_node_28 : decode c_SS_node 28 = .ok (.aaload, 1) := by decide +kernel
theorem d_SS_node_29 : decode c_SS_node 29 = .ok (.astore_n 3, 1) := by decide +kernel
theorem d_SS_node_30 : decode c_SS_node 30 = .ok (.iload_n 2, 1) := by decide +kernel
theorem d_SS_node_31 : decode c_SS_node 31 = .ok (.tableswitch 94 0 6 #[41, 46, 51, 64, 77, 83, 88], 41) := by decide +kernel
theorem d_SS_node_72 : decode c_SS_node 72 = .ok (.aload_n 3, 1) := by decide +kernel
theorem d_SS_node_73 : decode c_SS_node 73 = .ok (.getfield 123, 3) := by decide +kernel
theorem d_SS_node_76 : decode c_SS_node 76 = .ok (.ireturn, 1) := by decide +kernel
theorem d_SS_node_77 : decode c_SS_node 77 = .ok (.aload_n 3, 1) := by decide +kernel
theorem d_SS_node_78 : decode c_SS_node 78 = .ok (.getfield 126, 3) := by decide +kernel
theorem d_SS_node_81 : decode c_SS_node 81 = .ok (.ireturn, 1) := by decide +kernel
theorem d_SS_node_82 : decode c_SS_node 82 = .ok (.aload_n 3, 1) := by decide +kernel
theorem d_SS_node_83 : decode c_SS_node 83 = .ok (.getfield 136, 3) := by decide +kernel
theorem d_SS_node_86 : decode c_SS_node 86 = .ok (.ifCond .eq 7, 3) := by decide +kernel
theorem d_SS_node_89 : decode c_SS_node 89 = .ok (.iconst 1, 1) := by decide +kernel
theorem d_SS_node_90 : decode c_SS_node 90 = .ok (.goto 4, 3) := by decide +kernel
theorem d_SS_node_93 : decode c_SS_node 93 = .ok (.iconst 0, 1) := by decide +kernel
theorem d_SS_node_94 : decode c_SS_node 94 = .ok (.ireturn, 1) := by decide +kernel
theorem d_SS_node_95 : decode c_SS_node 95 = .ok (.aload_n 3, 1) := by decide +kernel
theorem d_SS_node_96 : decode c_SS_node 96 = .ok (.getfield 104, 3) := by decide +kernel
theorem d_SS_node_99 : decode c_SS_node 99 = .ok (.ifCond .eq 7, 3) := by decide +kernel
theorem d_SS_node_102 : decode c_SS_node 102 = .ok (.iconst 1, 1) := by decide +kernel
theorem d_SS_node_103 : decode c_SS_node 103 = .ok (.goto 4, 3) := by decide +kernel
theorem d_SS_node_106 : decode c_SS_node 106 = .ok (.iconst 0, 1) := by decide +kernel
theorem d_SS_node_107 : decode c_SS_node 107 = .ok (.ireturn, 1) := by decide +kernel
theorem d_SS_node_108 : decode c_SS_node 108 = .ok (.aload_n 0, 1) := by decide +kernel
theorem d_SS_node_109 : decode c_SS_node 109 = .ok (.aload_n 3, 1) := by decide +kernel
theorem d_SS_node_110 : decode c_SS_node 110 = .ok (.invokevirtual 199, 3) := by decide +kernel
theorem d_SS_node_113 : decode c_SS_node 113 = .ok (.ireturn, 1) := by decide +kernel
theorem d_SS_node_114 : decode c_SS_node 114 = .ok (.aload_n 3, 1) := by decide +kernel
theorem d_SS_node_115 : decode c_SS_node 115 = .ok (.getfield 168, 3) := by decide +kernel
theorem d_SS_node_118 : decode c_SS_node 118 = .ok (.ireturn, 1) := by decide +kernel
theorem d_SS_node_119 : decode c_SS_node 119 = .ok (.aload_n 0, 1) := by decide +kernel
theorem d_SS_node_120 : decode c_SS_node 120 = .ok (.aload_n 3, 1) := by decide +kernel
theorem d_SS_node_121 : decode c_SS_node 121 = .ok (.invokevirtual 203, 3) := by decide +kernel
theorem d_SS_node_124 : decode c_SS_node 124 = .ok (.ireturn, 1) := by decide +kernel
theorem d_SS_node_125 : decode c_SS_node 125 = .ok (.iconst (-1), 1) := by decide +kernel
theorem d_SS_node_126 : decode c_SS_node 126 = .ok (.ireturn, 1) := by decide +kernel
theorem d_SS_handle_0 : decode c_SS_handle 0 = .ok (.aload_n 0, 1) := by decide +kernel
theorem d_SS_handle_1 : decode c_SS_handle 1 = .ok (.iload_n 1, 1) := by decide +kernel
theorem d_SS_handle_2 : decode c_SS_handle 2 = .ok (.invokevirtual 66, 3) := by decide +kernel
theorem d_SS_handle_5 : decode c_SS_handle 5 = .ok (.astore_n 3, 1) := by decide +kernel
theorem d_SS_handle_6 : decode c_SS_handle 6 = .ok (.aload_n 3, 1) := by decide +kernel
theorem d_SS_handle_7 : decode c_SS_handle 7 = .ok (.ifnonnull 5, 3) := by decide +kernel
theorem d_SS_handle_10 : decode c_SS_handle 10 = .ok (.iconst (-1), 1) := by decide +kernel
theorem d_SS_handle_11 : decode c_SS_handle 11 = .ok (.ireturn, 1) := by decide +kernel
theorem d_SS_handle_12 : decode c_SS_handle 12 = .ok (.iload_n 2, 1) := by decide +kernel
theorem d_SS_handle_13 : decode c_SS_handle 13 = .ok (.tableswitch 63 0 4 #[35, 43, 48, 53, 58], 35) := by decide +kernel
theorem d_SS_handle_48 : decode c_SS_handle 48 = .ok (.aload_n 3, 1) := by decide +kernel
theorem d_SS_handle_49 : decode c_SS_handle 49 = .ok (.getfield 76, 3) := by decide +kernel
theorem d_SS_handle_52 : decode c_SS_handle 52 = .ok (.getfield 108, 3) := by decide +kernel
theorem d_SS_handle_55 : decode c_SS_handle 55 = .ok (.ireturn, 1) := by decide +kernel
theorem d_SS_handle_56 : decode c_SS_handle 56 = .ok (.aload_n 3, 1) := by decide +kernel
theorem d_SS_handle_57 : decode c_SS_handle 57 = .ok (.getfield 206, 3) := by decide +kernel
theorem d_SS_handle_60 : decode c_SS_handle 60 = .ok (.ireturn, 1) := by decide +kernel
theorem d_SS_handle_61 : decode c_SS_handle 61 = .ok (.aload_n 3, 1) := by decide +kernel
theorem d_SS_handle_62 : decode c_SS_handle 62 = .ok (.getfield 209, 3) := by decide +kernel
theorem d_SS_handle_65 : decode c_SS_handle 65 = .ok (.ireturn, 1) := by decide +kernel
theorem d_SS_handle_66 : decode c_SS_handle 66 = .ok (.aload_n 3, 1) := by decide +kernel
theorem d_SS_handle_67 : decode c_SS_handle 67 = .ok (.getfield 70, 3) := by decide +kernel
theorem d_SS_handle_70 : decode c_SS_handle 70 = .ok (.ireturn, 1) := by decide +kernel
theorem d_SS_handle_71 : decode c_SS_handle 71 = .ok (.aload_n 3, 1) := by decide +kernel
theorem d_SS_handle_72 : decode c_SS_handle 72 = .ok (.getfield 212, 3) := by decide +kernel
theorem d_SS_handle_75 : decode c_SS_handle 75 = .ok (.ireturn, 1) := by decide +kernel
theorem d_SS_handle_76 : decode c_SS_handle 76 = .ok (.iconst (-1), 1) := by decide +kernel
theorem d_SS_handle_77 : decode c_SS_handle 77 = .ok (.ireturn, 1) := by decide +kernel
theorem d_SS_count_0 : decode c_SS_count 0 = .ok (.iload_n 1, 1) := by decide +kernel
theorem d_SS_count_1 : decode c_SS_count 1 = .ok (.tableswitch 84 0 6 #[43, 48, 53, 58, 66, 74, 79], 43) := by decide +kernel
theorem d_SS_count_44 : decode c_SS_count 44 = .ok (.aload_n 0, 1) := by decide +kernel
theorem d_SS_count_45 : decode c_SS_count 45 = .ok (.getfield 215, 3) := by decide +kernel
theorem d_SS_count_48 : decode c_SS_count 48 = .ok (.ireturn, 1) := by decide +kernel
theorem d_SS_count_49 : decode c_SS_count 49 = .ok (.aload_n 0, 1) := by decide +kernel
theorem d_SS_count_50 : decode c_SS_count 50 = .ok (.getfield 94, 3) := by decide +kernel
theorem d_SS_count_53 : decode c_SS_count 53 = .ok (.ireturn, 1) := by decide +kernel
theorem d_SS_count_54 : decode c_SS_count 54 = .ok (.aload_n 0, 1) := by decide +kernel
theorem d_SS_count_55 : decode c_SS_count 55 = .ok (.invokevirtual 218, 3) := by decide +kernel
theorem d_SS_count_58 : decode c_SS_count 58 = .ok (.ireturn, 1) := by decide +kernel
theorem d_SS_count_59 : decode c_SS_count 59 = .ok (.aload_n 0, 1) := by decide +kernel
theorem d_SS_count_60 : decode c_SS_count 60 = .ok (.getfield 33, 3) := by decide +kernel
theorem d_SS_count_63 : decode c_SS_count 63 = .ok (.invokevirtual 186, 3) := by decide +kernel
theorem d_SS_count_66 : decode c_SS_count 66 = .ok (.ireturn, 1) := by decide +kernel
theorem d_SS_count_67 : decode c_SS_count 67 = .ok (.aload_n 0, 1) := by decide +kernel
theorem d_SS_count_68 : decode c_SS_count 68 = .ok (.getfield 33, 3) := by decide +kernel
theorem d_SS_count_71 : decode c_SS_count 71 = .ok (.getfield 221, 3) := by decide +kernel
theorem d_SS_count_74 : decode c_SS_count 74 = .ok (.ireturn, 1) := by decide +kernel
theorem d_SS_count_75 : decode c_SS_count 75 = .ok (.aload_n 0, 1) := by decide +kernel
theorem d_SS_count_76 : decode c_SS_count 76 = .ok (.getfield 48, 3) := by decide +kernel
theorem d_SS_count_79 : decode c_SS_count 79 = .ok (.ireturn, 1) := by decide +kernel
theorem d_SS_count_80 : decode c_SS_count 80 = .ok (.aload_n 0, 1) := by decide +kernel
theorem d_SS_count_81 : decode c_SS_count 81 = .ok (.getfield 224, 3) := by decide +kernel
theorem d_SS_count_84 : decode c_SS_count 84 = .ok (.ireturn, 1) := by decide +kernel
theorem d_SS_count_85 : decode c_SS_count 85 = .ok (.iconst (-1), 1) := by decide +kernel
theorem d_SS_count_86 : decode c_SS_count 86 = .ok (.ireturn, 1) := by decide +kernel
theorem d_SS_waitingRequests_0 : decode c_SS_waitingRequests 0 = .ok (.iconst 0, 1) := by decide +kernel
theorem d_SS_waitingRequests_1 : decode c_SS_waitingRequests 1 = .ok (.istore_n 1, 1) := by decide +kernel
theorem d_SS_waitingRequests_2 : decode c_SS_waitingRequests 2 = .ok (.iconst 0, 1) := by decide +kernel
theorem d_SS_waitingRequests_3 : decode c_SS_waitingRequests 3 = .ok (.istore_n 2, 1) := by decide +kernel
theorem d_SS_waitingRequests_4 : decode c_SS_waitingRequests 4 = .ok (.iload_n 2, 1) := by decide +kernel
theorem d_SS_waitingRequests_5 : decode c_SS_waitingRequests 5 = .ok (.aload_n 0, 1) := by decide +kernel
theorem d_SS_waitingRequests_6 : decode c_SS_waitingRequests 6 = .ok (.getfield 48, 3) := by decide +kernel
theorem d_SS_waitingRequests_9 : decode c_SS_waitingRequests 9 = .ok (.if_icmp .ge 24, 3) := by decide +kernel
theorem d_SS_waitingRequests_12 : decode c_SS_waitingRequests 12 = .ok (.aload_n 0, 1) := by decide +kernel
theorem d_SS_waitingRequests_13 : decode c_SS_waitingRequests 13 = .ok (.getfield 26, 3) := by decide +kernel
theorem d_SS_waitingRequests_16 : decode c_SS_waitingRequests 16 = .ok (.iload_n 2, 1) := by decide +kernel
theorem d_SS_waitingRequests_17 : decode c_SS_waitingRequests 17 = .ok (.aaload, 1) := by decide +kernel
theorem d_SS_waitingRequests_18 : decode c_SS_waitingRequests 18 = .ok (.getfield 59, 3) := by decide +kernel
theorem d_SS_waitingRequests_21 : decode c_SS_waitingRequests 21 = .ok (.ifCond .ne 6, 3) := by decide +kernel
theorem d_SS_waitingRequests_24 : decode c_SS_waitingRequests 24 = .ok (.iinc 1 1, 3) := by decide +kernel
theorem d_SS_waitingRequests_27 : decode c_SS_waitingRequests 27 = .ok (.iinc 2 1, 3) := by decide +kernel
theorem d_SS_waitingRequests_30 : decode c_SS_waitingRequests 30 = .ok (.goto (-26), 3) := by decide +kernel
theorem d_SS_waitingRequests_33 : decode c_SS_waitingRequests 33 = .ok (.iload_n 1, 1) := by decide +kernel
theorem d_SS_waitingRequests_34 : decode c_SS_waitingRequests 34 = .ok (.ireturn, 1) := by decide +kernel
theorem d_Md_init_0 : decode c_Md_init 0 = .ok (.aload_n 0, 1) := by decide +kernel
theorem d_Md_init_1 : decode c_Md_init 1 = .ok (.invokespecial 1, 3) := by decide +kernel
theorem d_Md_init_4 : decode c_Md_init 4 = .ok (.aload_n 0, 1) := by decide +kernel
theorem d_Md_init_5 : decode c_Md_init 5 = .ok (.sipush 6000, 3) := by decide +kernel
theorem d_Md_init_8 : decode c_Md_init 8 = .ok (.newarray .int, 2) := by decide +kernel
theorem d_Md_init_10 : decode c_Md_init 10 = .ok (.putfield 7, 3) := by decide +kernel
theorem d_Md_init_13 : decode c_Md_init 13 = .ok (.aload_n 0, 1) := by decide +kernel
theorem d_Md_init_14 : decode c_Md_init 14 = .ok (.bipush 25, 2) := by decide +kernel
theorem d_Md_init_16 : decode c_Md_init 16 = .ok (.newarray .boolean, 2) := by decide +kernel
theorem d_Md_init_18 : decode c_Md_init 18 = .ok (.putfield 13, 3) := by decide +kernel
theorem d_Md_init_21 : decode c_Md_init 21 = .ok (.aload_n 0, 1) := by decide +kernel
theorem d_Md_init_22 : decode c_Md_init 22 = .ok (.bipush 25, 2) := by decide +kernel
theorem d_Md_init_24 : decode c_Md_init 24 = .ok (.newarray .boolean, 2) := by decide +kernel
theorem d_Md_init_26 : decode c_Md_init 26 = .ok (.putfield 17, 3) := by decide +kernel
theorem d_Md_init_29 : decode c_Md_init 29 = .ok (.aload_n 0, 1) := by decide +kernel
theorem d_Md_init_30 : decode c_Md_init 30 = .ok (.bipush 25, 2) := by decide +kernel
theorem d_Md_init_32 : decode c_Md_init 32 = .ok (.newarray .int, 2) := by decide +kernel
theorem d_Md_init_34 : decode c_Md_init 34 = .ok (.putfield 20, 3) := by decide +kernel
theorem d_Md_init_37 : decode c_Md_init 37 = .ok (.aload_n 0, 1) := by decide +kernel
theorem d_Md_init_38 : decode c_Md_init 38 = .ok (.bipush 25, 2) := by decide +kernel
theorem d_Md_init_40 : decode c_Md_init 40 = .ok (.newarray .int, 2) := by decide +kernel
theorem d_Md_init_42 : decode c_Md_init 42 = .ok (.putfield 23, 3) := by decide +kernel
theorem d_Md_init_45 : decode c_Md_init 45 = .ok (.aload_n 0, 1) := by decide +kernel
theorem d_Md_init_46 : decode c_Md_init 46 = .ok (.bipush 25, 2) := by decide +kernel
theorem d_Md_init_48 : decode c_Md_init 48 = .ok (.newarray .boolean, 2) := by decide +kernel
theorem d_Md_init_50 : decode c_Md_init 50 = .ok (.putfield 26, 3) := by decide +kernel
theorem d_Md_init_53 : decode c_Md_init 53 = .ok (.aload_n 0, 1) := by decide +kernel
theorem d_Md_init_54 : decode c_Md_init 54 = .ok (.sipush 800, 3) := by decide +kernel
theorem d_Md_init_57 : decode c_Md_init 57 = .ok (.newarray .int, 2) := by decide +kernel
theorem d_Md_init_59 : decode c_Md_init 59 = .ok (.putfield 29, 3) := by decide +kernel
theorem d_Md_init_62 : decode c_Md_init 62 = .ok (.aload_n 0, 1) := by decide +kernel
theorem d_Md_init_63 : decode c_Md_init 63 = .ok (.sipush 3640, 3) := by decide +kernel
theorem d_Md_init_66 : decode c_Md_init 66 = .ok (.newarray .int, 2) := by decide +kernel
theorem d_Md_init_68 : decode c_Md_init 68 = .ok (.putfield 32, 3) := by decide +kernel
theorem d_Md_init_71 : decode c_Md_init 71 = .ok (.aload_n 0, 1) := by decide +kernel
theorem d_Md_init_72 : decode c_Md_init 72 = .ok (.sipush 3120, 3) := by decide +kernel
theorem d_Md_init_75 : decode c_Md_init 75 = .ok (.newarray .int, 2) := by decide +kernel
theorem d_Md_init_77 : decode c_Md_init 77 = .ok (.putfield 35, 3) := by decide +kernel
theorem d_Md_init_80 : decode c_Md_init 80 = .ok (.aload_n 0, 1) := by decide +kernel
theorem d_Md_init_81 : decode c_Md_init 81 = .ok (.sipush 800, 3) := by decide +kernel
theorem d_Md_init_84 : decode c_Md_init 84 = .ok (.newarray .int, 2) := by decide +kernel
theorem d_Md_init_86 : decode c_Md_init 86 = .ok (.putfield 38, 3) := by decide +kernel
theorem d_Md_init_89 : decode c_Md_init 89 = .ok (.aload_n 0, 1) := by decide +kernel
theorem d_Md_init_90 : decode c_Md_init 90 = .ok (.getfield 13, 3) := by decide +kernel
theorem d_Md_init_93 : decode c_Md_init 93 = .ok (.iconst 0, 1) := by decide +kernel
theorem d_Md_init_94 : decode c_Md_init 94 = .ok (.iconst 1, 1) := by decide +kernel
theorem d_Md_init_95 : decode c_Md_init 95 = .ok (.bastore, 1) := by decide +kernel
theorem d_Md_init_96 : decode c_Md_init 96 = .ok (.aload_n 0, 1) := by decide +kernel
theorem d_Md_init_97 : decode c_Md_init 97 = .ok (.getfield 17, 3) := by decide +kernel
theorem d_Md_init_100 : decode c_Md_init 100 = .ok (.iconst 0, 1) := by decide +kernel
theorem d_Md_init_101 : decode c_Md_init 101 = .ok (.iconst 1, 1) := by decide +kernel
theorem d_Md_init_102 : decode c_Md_init 102 = .ok (.bastore, 1) := by decide +kernel
theorem d_Md_init_103 : decode c_Md_init 103 = .ok (.aload_n 0, 1) := by decide +kernel
theorem d_Md_init_104 : decode c_Md_init 104 = .ok (.getfield 20, 3) := by decide +kernel
theorem d_Md_init_107 : decode c_Md_init 107 = .ok (.iconst 0, 1) := by decide +kernel
theorem d_Md_init_108 : decode c_Md_init 108 = .ok (.bipush (-3), 2) := by decide +kernel
theorem d_Md_init_110 : decode c_Md_init 110 = .ok (.iastore, 1) := by decide +kernel
theorem d_Md_init_111 : decode c_Md_init 111 = .ok (.aload_n 0, 1) := by decide +kernel
theorem d_Md_init_112 : decode c_Md_init 112 = .ok (.getfield 23, 3) := by decide +kernel
theorem d_Md_init_115 : decode c_Md_init 115 = .ok (.iconst 0, 1) := by decide +kernel
theorem d_Md_init_116 : decode c_Md_init 116 = .ok (.bipush (-3), 2) := by decide +kernel
theorem d_Md_init_118 : decode c_Md_init 118 = .ok (.iastore, 1) := by decide +kernel
theorem d_Md_init_119 : decode c_Md_init 119 = .ok (.return_, 1) := by decide +kernel
theorem d_Md_open_0 : decode c_Md_open 0 = .ok (.iload_n 1, 1) := by decide +kernel
theorem d_Md_open_1 : decode c_Md_open 1 = .ok (.iconst 0, 1) := by decide +kernel
theorem d_Md_open_2 : decode c_Md_open 2 = .ok (.iconst 3, 1) := by decide +kernel
theorem d_Md_open_3 : decode c_Md_open 3 = .ok (.invokestatic 45, 3) := by decide +kernel
theorem d_Md_open_6 : decode c_Md_open 6 = .ok (.ifCond .eq 45, 3) := by decide +kernel
theorem d_Md_open_9 : decode c_Md_open 9 = .ok (.iload_n 2, 1) := by decide +kernel
theorem d_Md_open_10 : decode c_Md_open 10 = .ok (.iconst 0, 1) := by decide +kernel
theorem d_Md_open_11 : decode c_Md_open 11 = .ok (.bipush 24, 2) := by decide +kernel
theorem d_Md_open_13 : decode c_Md_open 13 = .ok (.invokestatic 45, 3) := by decide +kernel
theorem d_Md_open_16 : decode c_Md_open 16 = .ok (.ifCond .eq 35, 3) := by decide +kernel
theorem d_Md_open_19 : decode c_Md_open 19 = .ok (.iload_n 3, 1) := by decide +kernel
theorem d_Md_open_20 : decode c_Md_open 20 = .ok (.iconst 0, 1) := by decide +kernel
theorem d_Md_open_21 : decode c_Md_open 21 = .ok (.bipush 15, 2) := by decide +kernel
theorem d_Md_open_23 : decode c_Md_open 23 = .ok (.invokestatic 45, 3) := by decide +kernel
theorem d_Md_open_26 : decode c_Md_open 26 = .ok (.ifCond .eq 25, 3) := by decide +kernel
theorem d_Md_open_29 : decode c_Md_open 29 = .ok (.iload 4, 2) := by decide +kernel
theorem d_Md_open_31 : decode c_Md_open 31 = .ok (.iconst 0, 1) := by decide +kernel
theorem d_Md_open_32 : decode c_Md_open 32 = .ok (.sipush 1023, 3) := by decide +kernel
theorem d_Md_open_35 : decode c_Md_open 35 = .ok (.invokestatic 45, 3) := by decide +kernel
theorem d_Md_open_38 : decode c_Md_open 38 = .ok (.ifCond .eq 13, 3) := by decide +kernel
theorem d_Md_open_41 : decode c_Md_open 41 = .ok (.iload 5, 2) := by decide +kernel
theorem d_Md_open_43 : decode c_Md_open 43 = .ok (.iconst 0, 1) := by decide +kernel
theorem d_Md_open_44 : decode c_Md_open 44 = .ok (.iconst 2, 1) := by decide +kernel
theorem d_Md_open_45 : decode c_Md_open 45 = .ok (.invokestatic 45, 3) := by decide +kernel
theorem d_Md_open_48 : decode c_Md_open 48 = .ok (.ifCond .ne 5, 3) := by decide +kernel
theorem d_Md_open_51 : decode c_Md_open 51 = .ok (.iconst (-1), 1) := by decide +kernel
theorem d_Md_open_52 : decode c_Md_open 52 = .ok (.ireturn, 1) := by decide +kernel
theorem d_Md_open_53 : decode c_Md_open 53 = .ok (.iload 4, 2) := by decide +kernel
theorem d_Md_open_55 : decode c_Md_open 55 = .ok (.bipush 7, 2) := by decide +kernel
theorem d_Md_open_57 : decode c_Md_open 57 = .ok (.iand, 1) := by decide +kernel
theorem d_Md_open_58 : decode c_Md_open 58 = .ok (.ifCond .eq 15, 3) := by decide +kernel
theorem d_Md_open_61 : decode c_Md_open 61 = .ok (.iload 4, 2) := by decide +kernel
theorem d_Md_open_63 : decode c_Md_open 63 = .ok (.sipush 516, 3) := by decide +kernel
theorem d_Md_open_66 : decode c_Md_open 66 = .ok (.iand, 1) := by decide +kernel
theorem d_Md_open_67 : decode c_Md_open 67 = .ok (.sipush 512, 3) := by decide +kernel
theorem d_Md_open_70 : decode c_Md_open 70 = .ok (.if_icmp .ne 5, 3) := by decide +kernel
theorem d_Md_open_73 : decode c_Md_open 73 = .ok (.iconst (-1), 1) := by decide +kernel
theorem d_Md_open_74 : decode c_Md_open 74 = .ok (.ireturn, 1) := by decide +kernel
theorem d_Md_open_75 : decode c_Md_open 75 = .ok (.aload_n 0, 1) := by decide +kernel
theorem d_Md_open_76 : decode c_Md_open 76 = .ok (.dup, 1) := by decide +kernel
theorem d_Md_open_77 : decode c_Md_open 77 = .ok (.getfield 88, 3) := by decide +kernel
theorem d_Md_open_80 : decode c_Md_open 80 = .ok (.iconst 1, 1) := by decide +kernel
theorem d_Md_open_81 : decode c_Md_open 81 = .ok (.iadd, 1) := by decide +kernel
theorem d_Md_open_82 : decode c_Md_open 82 = .ok (.putfield 88, 3) := by decide +kernel
theorem d_Md_open_85 : decode c_Md_open 85 = .ok (.bipush 6, 2) := by decide +kernel
theorem d_Md_open_87 : decode c_Md_open 87 = .ok (.aload_n 0, 1) := by decide +kernel
theorem d_Md_open_88 : decode c_Md_open 88 = .ok (.getfield 88, 3) := by decide +kernel
theorem d_Md_open_91 : decode c_Md_open 91 = .ok (.imul, 1) := by decide +kernel
theorem d_Md_open_92 : decode c_Md_open 92 = .ok (.istore 6, 2) := by decide +kernel
theorem d_Md_open_94 : decode c_Md_open 94 = .ok (.aload_n 0, 1) := by decide +kernel
theorem d_Md_open_95 : decode c_Md_open 95 = .ok (.getfield 35, 3) := by decide +kernel
theorem d_Md_open_98 : decode c_Md_open 98 = .ok (.iload 6, 2) := by decide +kernel
theorem d_Md_open_100 : decode c_Md_open 100 = .ok (.iload_n 1, 1) := by decide +kernel
theorem d_Md_open_101 : decode c_Md_open 101 = .ok (.iastore, 1) := by decide +kernel
theorem d_Md_open_102 : decode c_Md_open 102 = .ok (.aload_n 0, 1) := by decide +kernel
theorem d_Md_open_103 : decode c_Md_open 103 = .ok (.getfield 35, 3) := by decide +kernel
theorem d_Md_open_106 : decode c_Md_open 106 = .ok (.iload 6, 2) := by decide +kernel
theorem d_Md_open_108 : decode c_Md_open 108 = .ok (.iconst 1, 1) := by decide +kernel
theorem d_Md_open_109 : decode c_Md_open 109 = .ok (.iadd, 1) := by decide +kernel
theorem d_Md_open_110 : decode c_Md_open 110 = .ok (.iload_n 2, 1) := by decide +kernel
theorem d_Md_open_111 : decode c_Md_open 111 = .ok (.iastore, 1) := by decide +kernel
theorem d_Md_open_112 : decode c_Md_open 112 = .ok (.aload_n 0, 1) := by decide +kernel
theorem d_Md_open_113 : decode c_Md_open 113 = .ok (.getfield 35, 3) := by decide +kernel
theorem d_Md_open_116 : decode c_Md_open 116 = .ok (.iload 6, 2) := by decide +kernel
theorem d_Md_open_118 : decode c_Md_open 118 = .ok (.iconst 2, 1) := by decide +kernel
theorem d_Md_open_119 : decode c_Md_open 119 = .ok (.iadd, 1) := by decide +kernel
theorem d_Md_open_120 : decode c_Md_open 120 = .ok (.iload_n 3, 1) := by decide +kernel
theorem d_Md_open_121 : decode c_Md_open 121 = .ok (.iastore, 1) := by decide +kernel
theorem d_Md_open_122 : decode c_Md_open 122 = .ok (.aload_n 0, 1) := by decide +kernel
theorem d_Md_open_123 : decode c_Md_open 123 = .ok (.getfield 35, 3) := by decide +kernel
theorem d_Md_open_126 : decode c_Md_open 126 = .ok (.iload 6, 2) := by decide +kernel
theorem d_Md_open_128 : decode c_Md_open 128 = .ok (.iconst 3, 1) := by decide +kernel
theorem d_Md_open_129 : decode c_Md_open 129 = .ok (.iadd, 1) := by decide +kernel
theorem d_Md_open_130 : decode c_Md_open 130 = .ok (.iload 4, 2) := by decide +kernel
theorem d_Md_open_132 : decode c_Md_open 132 = .ok (.iastore, 1) := by decide +kernel
theorem d_Md_open_133 : decode c_Md_open 133 = .ok (.aload_n 0, 1) := by decide +kernel
theorem d_Md_open_134 : decode c_Md_open 134 = .ok (.getfield 35, 3) := by decide +kernel
theorem d_Md_open_137 : decode c_Md_open 137 = .ok (.iload 6, 2) := by decide +kernel
theorem d_Md_open_139 : decode c_Md_open 139 = .ok (.iconst 4, 1) := by decide +kernel
theorem d_Md_open_140 : decode c_Md_open 140 = .ok (.iadd, 1) := by decide +kernel
theorem d_Md_open_141 : decode c_Md_open 141 = .ok (.iload 5, 2) := by decide +kernel
theorem d_Md_open_143 : decode c_Md_open 143 = .ok (.iastore, 1) := by decide +kernel
theorem d_Md_open_144 : decode c_Md_open 144 = .ok (.aload_n 0, 1) := by decide +kernel
theorem d_Md_open_145 : decode c_Md_open 145 = .ok (.getfield 35, 3) := by decide +kernel
theorem d_Md_open_148 : decode c_Md_open 148 = .ok (.iload 6, 2) := by decide +kernel
theorem d_Md_open_150 : decode c_Md_open 150 = .ok (.iconst 5, 1) := by decide +kernel
theorem d_Md_open_151 : decode c_Md_open 151 = .ok (.iadd, 1) := by decide +kernel
theorem d_Md_open_152 : decode c_Md_open 152 = .ok (.aload_n 0, 1) := by decide +kernel
theorem d_Md_open_153 : decode c_Md_open 153 = .ok (.aload_n 0, 1) := by decide +kernel
theorem d_Md_open_154 : decode c_Md_open 154 = .ok (.getfield 88, 3) := by decide +kernel
theorem d_Md_open_157 : decode c_Md_open 157 = .ok (.invokevirtual 91, 3) := by decide +kernel
theorem d_Md_open_160 : decode c_Md_open 160 = .ok (.iastore, 1) := by decide +kernel
theorem d_Md_open_161 : decode c_Md_open 161 = .ok (.aload_n 0, 1) := by decide +kernel
theorem d_Md_open_162 : decode c_Md_open 162 = .ok (.getfield 88, 3) := by decide +kernel
theorem d_Md_open_165 : decode c_Md_open 165 = .ok (.ireturn, 1) := by decide +kernel
theorem d_Md_in_0 : decode c_Md_in 0 = .ok (.iload_n 0, 1) := by decide +kernel
theorem d_Md_in_1 : decode c_Md_in 1 = .ok (.iload_n 1, 1) := by decide +kernel
theorem d_Md_in_2 : decode c_Md_in 2 = .ok (.if_icmp .lt 12, 3) := by decide +kernel
theorem d_Md_in_5 : decode c_Md_in 5 = .ok (.iload_n 0, 1) := by decide +kernel
theorem d_Md_in_6 : decode c_Md_in 6 = .ok (.iload_n 2, 1) := by decide +kernel
theorem d_Md_in_7 : decode c_Md_in 7 = .ok (.if_icmp .gt 7, 3) := by decide +kernel
theorem d_Md_in_10 : decode c_Md_in 10 = .ok (.iconst 1, 1) := by decide +kernel
theorem d_Md_in_11 : decode c_Md_in 11 = .ok (.goto 4, 3) := by decide +kernel
theorem d_Md_in_14 : decode c_Md_in 14 = .ok (.iconst 0, 1) := by decide +kernel
theorem d_Md_in_15 : decode c_Md_in 15 = .ok (.ireturn, 1) := by decide +kernel
theorem d_Md_attempt_0 : decode c_Md_attempt 0 = .ok (.aload_n 0, 1) := by decide +kernel
theorem d_Md_attempt_1 : decode c_Md_attempt 1 = .ok (.getfield 35, 3) := by decide +kernel
theorem d_Md_attempt_4 : decode c_Md_attempt 4 = .ok (.bipush 6, 2) := by decide +kernel
theorem d_Md_attempt_6 : decode c_Md_attempt 6 = .ok (.iload_n 1, 1) := by decide +kernel
theorem d_Md_attempt_7 : decode c_Md_attempt 7 = .ok (.imul, 1) := by decide +kernel
theorem d_Md_attempt_8 : decode c_Md_attempt 8 = .ok (.iconst 1, 1) := by decide +kernel
theorem d_Md_attempt_9 : decode c_Md_attempt 9 = .ok (.iadd, 1) := by decide +kernel
theorem d_Md_attempt_10 : decode c_Md_attempt 10 = .ok (.iaload, 1) := by decide +kernel
theorem d_Md_attempt_11 : decode c_Md_attempt 11 = .ok (.istore_n 2, 1) := by decide +kernel
theorem d_Md_attempt_12 : decode c_Md_attempt 12 = .ok (.aload_n 0, 1) := by decide +kernel
theorem d_Md_attempt_13 : decode c_Md_attempt 13 = .ok (.getfield 35, 3) := by decide +kernel
theorem d_Md_attempt_16 : decode c_Md_attempt 16 = .ok (.bipush 6, 2) := by decide +kernel
theorem d_Md_attempt_18 : decode c_Md_attempt 18 = .ok (.iload_n 1, 1) := by decide +kernel
theorem d_Md_attempt_19 : decode c_Md_attempt 19 = .ok (.imul, 1) := by decide +kernel
theorem d_Md_attempt_20 : decode c_Md_attempt 20 = .ok (.iconst 3, 1) := by decide +kernel
theorem d_Md_attempt_21 : decode c_Md_attempt 21 = .ok (.iadd, 1) := by decide +kernel
theorem d_Md_attempt_22 : decode c_Md_attempt 22 = .ok (.iaload, 1) := by decide +kernel
theorem d_Md_attempt_23 : decode c_Md_attempt 23 = .ok (.istore_n 3, 1) := by decide +kernel
theorem d_Md_attempt_24 : decode c_Md_attempt 24 = .ok (.aload_n 0, 1) := by decide +kernel
theorem d_Md_attempt_25 : decode c_Md_attempt 25 = .ok (.getfield 13, 3) := by decide +kernel
theorem d_Md_attempt_28 : decode c_Md_attempt 28 = .ok (.iload_n 2, 1) := by decide +kernel
theorem d_Md_attempt_29 : decode c_Md_attempt 29 = .ok (.baload, 1) := by decide +kernel
theorem d_Md_attempt_30 : decode c_Md_attempt 30 = .ok (.ifCond .eq 12, 3) := by decide +kernel
theorem d_Md_attempt_33 : decode c_Md_attempt 33 = .ok (.aload_n 0, 1) := by decide +kernel
theorem d_Md_attempt_34 : decode c_Md_attempt 34 = .ok (.getfield 17, 3) := by decide +kernel
theorem d_Md_attempt_37 : decode c_Md_attempt 37 = .ok (.iload_n 2, 1) := by decide +kernel
theorem d_Md_attempt_38 : decode c_Md_attempt 38 = .ok (.baload, 1) := by decide +kernel
theorem d_Md_attempt_39 : decode c_Md_attempt 39 = .ok (.ifCond .ne 6, 3) := by decide +kernel
theorem d_Md_attempt_42 : decode c_Md_attempt 42 = .ok (.bipush (-3), 2) := by decide +kernel
theorem d_Md_attempt_44 : decode c_Md_attempt 44 = .ok (.ireturn, 1) := by decide +kernel
theorem d_Md_attempt_45 : decode c_Md_attempt 45 = .ok (.aload_n 0, 1) := by decide +kernel
theorem d_Md_attempt_46 : decode c_Md_attempt 46 = .ok (.iload_n 2, 1) := by decide +kernel
theorem d_Md_attempt_47 : decode c_Md_attempt 47 = .ok (.aload_n 0, 1) := by decide +kernel
theorem d_Md_attempt_48 : decode c_Md_attempt 48 = .ok (.getfield 35, 3) := by decide +kernel
theorem d_Md_attempt_51 : decode c_Md_attempt 51 = .ok (.bipush 6, 2) := by decide +kernel
theorem d_Md_attempt_53 : decode c_Md_attempt 53 = .ok (.iload_n 1, 1) := by decide +kernel
theorem d_Md_attempt_54 : decode c_Md_attempt 54 = .ok (.imul, 1) := by decide +kernel
theorem d_Md_attempt_55 : decode c_Md_attempt 55 = .ok (.iconst 2, 1) := by decide +kernel
theorem d_Md_attempt_56 : decode c_Md_attempt 56 = .ok (.iadd, 1) := by decide +kernel
theorem d_Md_attempt_57 : decode c_Md_attempt 57 = .ok (.iaload, 1) := by decide +kernel
theorem d_Md_attempt_58 : decode c_Md_attempt 58 = .ok (.invokevirtual 70, 3) := by decide +kernel
theorem d_Md_attempt_61 : decode c_Md_attempt 61 = .ok (.istore 4, 2) := by decide +kernel
theorem d_Md_attempt_63 : decode c_Md_attempt 63 = .ok (.iload 4, 2) := by decide +kernel
theorem d_Md_attempt_65 : decode c_Md_attempt 65 = .ok (.ifCond .ge 86, 3) := by decide +kernel
theorem d_Md_attempt_68 : decode c_Md_attempt 68 = .ok (.iload_n 3, 1) := by decide +kernel
theorem d_Md_attempt_69 : decode c_Md_attempt 69 = .ok (.bipush 64, 2) := by decide +kernel
theorem d_Md_attempt_71 : decode c_Md_attempt 71 = .ok (.iand, 1) := by decide +kernel
theorem d_Md_attempt_72 : decode c_Md_attempt 72 = .ok (.ifCond .ne 6, 3) := by decide +kernel
theorem d_Md_attempt_75 : decode c_Md_attempt 75 = .ok (.bipush (-3), 2) := by decide +kernel
theorem d_Md_attempt_77 : decode c_Md_attempt 77 = .ok (.ireturn, 1) := by decide +kernel
theorem d_Md_attempt_78 : decode c_Md_attempt 78 = .ok (.aload_n 0, 1) := by decide +kernel
theorem d_Md_attempt_79 : decode c_Md_attempt 79 = .ok (.getfield 26, 3) := by decide +kernel
theorem d_Md_attempt_82 : decode c_Md_attempt 82 = .ok (.iload_n 2, 1) := by decide +kernel
theorem d_Md_attempt_83 : decode c_Md_attempt 83 = .ok (.baload, 1) := by decide +kernel
theorem d_Md_attempt_84 : decode c_Md_attempt 84 = .ok (.ifCond .eq 6, 3) := by decide +kernel
theorem d_Md_attempt_87 : decode c_Md_attempt 87 = .ok (.bipush (-7), 2) := by decide +kernel
theorem d_Md_attempt_89 : decode c_Md_attempt 89 = .ok (.ireturn, 1) := by decide +kernel
theorem d_Md_attempt_90 : decode c_Md_attempt 90 = .ok (.aload_n 0, 1) := by decide +kernel
theorem d_Md_attempt_91 : decode c_Md_attempt 91 = .ok (.getfield 53, 3) := by decide +kernel
theorem d_Md_attempt_94 : decode c_Md_attempt 94 = .ok (.bipush 24, 2) := by decide +kernel
theorem d_Md_attempt_96 : decode c_Md_attempt 96 = .ok (.if_icmp .eq 13, 3) := by decide +kernel
theorem d_Md_attempt_99 : decode c_Md_attempt 99 = .ok (.aload_n 0, 1) := by decide +kernel
theorem d_Md_attempt_100 : decode c_Md_attempt 100 = .ok (.iconst (-1), 1) := by decide +kernel
theorem d_Md_attempt_101 : decode c_Md_attempt 101 = .ok (.invokevirtual 66, 3) := by decide +kernel
theorem d_Md_attempt_104 : decode c_Md_attempt 104 = .ok (.bipush 12, 2) := by decide +kernel
theorem d_Md_attempt_106 : decode c_Md_attempt 106 = .ok (.if_icmp .ne 6, 3) := by decide +kernel
theorem d_Md_attempt_109 : decode c_Md_attempt 109 = .ok (.bipush (-2), 2) := by decide +kernel
theorem d_Md_attempt_111 : decode c_Md_attempt 111 = .ok (.ireturn, 1) := by decide +kernel
theorem d_Md_attempt_112 : decode c_Md_attempt 112 = .ok (.aload_n 0, 1) := by decide +kernel
theorem d_Md_attempt_113 : decode c_Md_attempt 113 = .ok (.iconst 1, 1) := by decide +kernel
theorem d_Md_attempt_114 : decode c_Md_attempt 114 = .ok (.aload_n 0, 1) := by decide +kernel
theorem d_Md_attempt_115 : decode c_Md_attempt 115 = .ok (.getfield 53, 3) := by decide +kernel
theorem d_Md_attempt_118 : decode c_Md_attempt 118 = .ok (.iconst 1, 1) := by decide +kernel
theorem d_Md_attempt_119 : decode c_Md_attempt 119 = .ok (.iadd, 1) := by decide +kernel
theorem d_Md_attempt_120 : decode c_Md_attempt 120 = .ok (.iload_n 2, 1) := by decide +kernel
theorem d_Md_attempt_121 : decode c_Md_attempt 121 = .ok (.aload_n 0, 1) := by decide +kernel
theorem d_Md_attempt_122 : decode c_Md_attempt 122 = .ok (.getfield 35, 3) := by decide +kernel
theorem d_Md_attempt_125 : decode c_Md_attempt 125 = .ok (.bipush 6, 2) := by decide +kernel
theorem d_Md_attempt_127 : decode c_Md_attempt 127 = .ok (.iload_n 1, 1) := by decide +kernel
theorem d_Md_attempt_128 : decode c_Md_attempt 128 = .ok (.imul, 1) := by decide +kernel
theorem d_Md_attempt_129 : decode c_Md_attempt 129 = .ok (.iconst 2, 1) := by decide +kernel
theorem d_Md_attempt_130 : decode c_Md_attempt 130 = .ok (.iadd, 1) := by decide +kernel
theorem d_Md_attempt_131 : decode c_Md_attempt 131 = .ok (.iaload, 1) := by decide +kernel
theorem d_Md_attempt_132 : decode c_Md_attempt 132 = .ok (.iload_n 3, 1) := by decide +kernel
theorem d_Md_attempt_133 : decode c_Md_attempt 133 = .ok (.bipush 8, 2) := by decide +kernel
theorem d_Md_attempt_135 : decode c_Md_attempt 135 = .ok (.ishr, 1) := by decide +kernel
theorem d_Md_attempt_136 : decode c_Md_attempt 136 = .ok (.iconst 1, 1) := by decide +kernel
theorem d_Md_attempt_137 : decode c_Md_attempt 137 = .ok (.iand, 1) := by decide +kernel
theorem d_Md_attempt_138 : decode c_Md_attempt 138 = .ok (.invokevirtual 73, 3) := by decide +kernel
theorem d_Md_attempt_141 : decode c_Md_attempt 141 = .ok (.aload_n 0, 1) := by decide +kernel
theorem d_Md_attempt_142 : decode c_Md_attempt 142 = .ok (.iload_n 1, 1) := by decide +kernel
theorem d_Md_attempt_143 : decode c_Md_attempt 143 = .ok (.aload_n 0, 1) := by decide +kernel
theorem d_Md_attempt_144 : decode c_Md_attempt 144 = .ok (.getfield 53, 3) := by decide +kernel
theorem d_Md_attempt_147 : decode c_Md_attempt 147 = .ok (.invokevirtual 77, 3) := by decide +kernel
theorem d_Md_attempt_150 : decode c_Md_attempt 150 = .ok (.ireturn, 1) := by decide +kernel
theorem d_Md_attempt_151 : decode c_Md_attempt 151 = .ok (.iload_n 3, 1) := by decide +kernel
theorem d_Md_attempt_152 : decode c_Md_attempt 152 = .ok (.sipush 192, 3) := by decide +kernel
theorem d_Md_attempt_155 : decode c_Md_attempt 155 = .ok (.iand, 1) := by decide +kernel
theorem d_Md_attempt_156 : decode c_Md_attempt 156 = .ok (.sipush 192, 3) := by decide +kernel
theorem d_Md_attempt_159 : decode c_Md_attempt 159 = .ok (.if_icmp .ne 6, 3) := by decide +kernel
theorem d_Md_attempt_162 : decode c_Md_attempt 162 = .ok (.bipush (-4), 2) := by decide +kernel
theorem d_Md_attempt_164 : decode c_Md_attempt 164 = .ok (.ireturn, 1) := by decide +kernel
theorem d_Md_attempt_165 : decode c_Md_attempt 165 = .ok (.aload_n 0, 1) := by decide +kernel
theorem d_Md_attempt_166 : decode c_Md_attempt 166 = .ok (.getfield 17, 3) := by decide +kernel
theorem d_Md_attempt_169 : decode c_Md_attempt 169 = .ok (.iload 4, 2) := by decide +kernel
theorem d_Md_attempt_171 : decode c_Md_attempt 171 = .ok (.baload, 1) := by decide +kernel
theorem d_Md_attempt_172 : decode c_Md_attempt 172 = .ok (.iload_n 3, 1) := by decide +kernel
theorem d_Md_attempt_173 : decode c_Md_attempt 173 = .ok (.sipush 256, 3) := by decide +kernel
theorem d_Md_attempt_176 : decode c_Md_attempt 176 = .ok (.iand, 1) := by decide +kernel
theorem d_Md_attempt_177 : decode c_Md_attempt 177 = .ok (.ifCond .eq 7, 3) := by decide +kernel
theorem d_Md_attempt_180 : decode c_Md_attempt 180 = .ok (.iconst 1, 1) := by decide +kernel
theorem d_Md_attempt_181 : decode c_Md_attempt 181 = .ok (.goto 4, 3) := by decide +kernel
theorem d_Md_attempt_184 : decode c_Md_attempt 184 = .ok (.iconst 0, 1) := by decide +kernel
theorem d_Md_attempt_185 : decode c_Md_attempt 185 = .ok (.if_icmp .eq 6, 3) := by decide +kernel
theorem d_Md_attempt_188 : decode c_Md_attempt 188 = .ok (.bipush (-5), 2) := by decide +kernel
theorem d_Md_attempt_190 : decode c_Md_attempt 190 = .ok (.ireturn, 1) := by decide +kernel
theorem d_Md_attempt_191 : decode c_Md_attempt 191 = .ok (.aload_n 0, 1) := by decide +kernel
theorem d_Md_attempt_192 : decode c_Md_attempt 192 = .ok (.iload 4, 2) := by decide +kernel
theorem d_Md_attempt_194 : decode c_Md_attempt 194 = .ok (.invokevirtual 80, 3) := by decide +kernel
theorem d_Md_attempt_197 : decode c_Md_attempt 197 = .ok (.ifCond .eq 5, 3) := by decide +kernel
theorem d_Md_attempt_200 : decode c_Md_attempt 200 = .ok (.iconst 0, 1) := by decide +kernel
theorem d_Md_attempt_201 : decode c_Md_attempt 201 = .ok (.ireturn, 1) := by decide +kernel
theorem d_Md_attempt_202 : decode c_Md_attempt 202 = .ok (.aload_n 0, 1) := by decide +kernel
theorem d_Md_attempt_203 : decode c_Md_attempt 203 = .ok (.getfield 26, 3) := by decide +kernel
theorem d_Md_attempt_206 : decode c_Md_attempt 206 = .ok (.iload 4, 2) := by decide +kernel
theorem d_Md_attempt_208 : decode c_Md_attempt 208 = .ok (.baload, 1) := by decide +kernel
theorem d_Md_attempt_209 : decode c_Md_attempt 209 = .ok (.ifCond .eq 6, 3) := by decide +kernel
theorem d_Md_attempt_212 : decode c_Md_attempt 212 = .ok (.bipush (-7), 2) := by decide +kernel
theorem d_Md_attempt_214 : decode c_Md_attempt 214 = .ok (.ireturn, 1) := by decide +kernel
theorem d_Md_attempt_215 : decode c_Md_attempt 215 = .ok (.aload_n 0, 1) := by decide +kernel
theorem d_Md_attempt_216 : decode c_Md_attempt 216 = .ok (.iload 4, 2) := by decide +kernel
theorem d_Md_attempt_218 : decode c_Md_attempt 218 = .ok (.iload_n 3, 1) := by decide +kernel
theorem d_Md_attempt_219 : decode c_Md_attempt 219 = .ok (.invokevirtual 84, 3) := by decide +kernel
theorem d_Md_attempt_222 : decode c_Md_attempt 222 = .ok (.ifCond .eq 6, 3) := by decide +kernel
theorem d_Md_attempt_225 : decode c_Md_attempt 225 = .ok (.bipush (-6), 2) := by decide +kernel
theorem d_Md_attempt_227 : decode c_Md_attempt 227 = .ok (.ireturn, 1) := by decide +kernel
theorem d_Md_attempt_228 : decode c_Md_attempt 228 = .ok (.aload_n 0, 1) := by decide +kernel
theorem d_Md_attempt_229 : decode c_Md_attempt 229 = .ok (.iconst (-1), 1) := by decide +kernel
theorem d_Md_attempt_230 : decode c_Md_attempt 230 = .ok (.invokevirtual 66, 3) := by decide +kernel
theorem d_Md_attempt_233 : decode c_Md_attempt 233 = .ok (.bipush 12, 2) := by decide +kernel
theorem d_Md_attempt_235 : decode c_Md_attempt 235 = .ok (.if_icmp .ne 8, 3) := by decide +kernel
theorem d_Md_attempt_238 : decode c_Md_attempt 238 = .ok (.bipush (-2), 2) := by decide +kernel
theorem d_Md_attempt_240 : decode c_Md_attempt 240 = .ok (.goto 10, 3) := by decide +kernel
theorem d_Md_attempt_243 : decode c_Md_attempt 243 = .ok (.aload_n 0, 1) := by decide +kernel
theorem d_Md_attempt_244 : decode c_Md_attempt 244 = .ok (.iload_n 1, 1) := by decide +kernel
theorem d_Md_attempt_245 : decode c_Md_attempt 245 = .ok (.iload 4, 2) := by decide +kernel
theorem d_Md_attempt_247 : decode c_Md_attempt 247 = .ok (.invokevirtual 77, 3) := by decide +kernel
theorem d_Md_attempt_250 : decode c_Md_attempt 250 = .ok (.ireturn, 1) := by decide +kernel
theorem d_Md_at_0 : decode c_Md_at 0 = .ok (.iconst 1, 1) := by decide +kernel
theorem d_Md_at_1 : decode c_Md_at 1 = .ok (.istore_n 3, 1) := by decide +kernel
theorem d_Md_at_2 : decode c_Md_at 2 = .ok (.iload_n 3, 1) := by decide +kernel
theorem d_Md_at_3 : decode c_Md_at 3 = .ok (.aload_n 0, 1) := by decide +kernel
theorem d_Md_at_4 : decode c_Md_at 4 = .ok (.getfield 53, 3) := by decide +kernel
theorem d_Md_at_7 : decode c_Md_at 7 = .ok (.if_icmp .gt 40, 3) := by decide +kernel
theorem d_Md_at_10 : decode c_Md_at 10 = .ok (.aload_n 0, 1) := by decide +kernel
theorem d_Md_at_11 : decode c_Md_at 11 = .ok (.getfield 13, 3) := by decide +kernel
theorem d_Md_at_14 : decode c_Md_at 14 = .ok (.iload_n 3, 1) := by decide +kernel
theorem d_Md_at_15 : decode c_Md_at 15 = .ok (.baload, 1) := by decide +kernel
theorem d_Md_at_16 : decode c_Md_at 16 = .ok (.ifCond .eq 25, 3) := by decide +kernel
theorem d_Md_at_19 : decode c_Md_at 19 = .ok (.aload_n 0, 1) := by decide +kernel
theorem d_Md_at_20 : decode c_Md_at 20 = .ok (.getfield 20, 3) := by decide +kernel
theorem d_Md_at_23 : decode c_Md_at 23 = .ok (.iload_n 3, 1) := by decide +kernel
theorem d_Md_at_24 : decode c_Md_at 24 = .ok (.iaload, 1) := by decide +kernel
theorem d_Md_at_25 : decode c_Md_at 25 = .ok (.iload_n 1, 1) := by decide +kernel
theorem d_Md_at_26 : decode c_Md_at 26 = .ok (.if_icmp .ne 15, 3) := by decide +kernel
theorem d_Md_at_29 : decode c_Md_at 29 = .ok (.aload_n 0, 1) := by decide +kernel
theorem d_Md_at_30 : decode c_Md_at 30 = .ok (.getfield 23, 3) := by decide +kernel
theorem d_Md_at_33 : decode c_Md_at 33 = .ok (.iload_n 3, 1) := by decide +kernel
theorem d_Md_at_34 : decode c_Md_at 34 = .ok (.iaload, 1) := by decide +kernel
theorem d_Md_at_35 : decode c_Md_at 35 = .ok (.iload_n 2, 1) := by decide +kernel
theorem d_Md_at_36 : decode c_Md_at 36 = .ok (.if_icmp .ne 5, 3) := by decide +kernel
theorem d_Md_at_39 : decode c_Md_at 39 = .ok (.iload_n 3, 1) := by decide +kernel
theorem d_Md_at_40 : decode c_Md_at 40 = .ok (.ireturn, 1) := by decide +kernel
theorem d_Md_at_41 : decode c_Md_at 41 = .ok (.iinc 3 1, 3) := by decide +kernel
theorem d_Md_at_44 : decode c_Md_at 44 = .ok (.goto (-42), 3) := by decide +kernel
theorem d_Md_at_47 : decode c_Md_at 47 = .ok (.bipush (-3), 2) := by decide +kernel
theorem d_Md_at_49 : decode c_Md_at 49 = .ok (.ireturn, 1) := by decide +kernel
theorem d_Md_openOf_0 : decode c_Md_openOf 0 = .ok (.iconst 0, 1) := by decide +kernel
theorem d_Md_openOf_1 : decode c_Md_openOf 1 = .ok (.istore_n 2, 1) := by decide +kernel
theorem d_Md_openOf_2 : decode c_Md_openOf 2 = .ok (.iconst 1, 1) := by decide +kernel
theorem d_Md_openOf_3 : decode c_Md_openOf 3 = .ok (.istore_n 3, 1) := by decide +kernel
theorem d_Md_openOf_4 : decode c_Md_openOf 4 = .ok (.iload_n 3, 1) := by decide +kernel
theorem d_Md_openOf_5 : decode c_Md_openOf 5 = .ok (.aload_n 0, 1) := by decide +kernel
theorem d_Md_openOf_6 : decode c_Md_openOf 6 = .ok (.getfield 41, 3) := by decide +kernel
theorem d_Md_openOf_9 : decode c_Md_openOf 9 = .ok (.if_icmp .gt 37, 3) := by decide +kernel
theorem d_Md_openOf_12 : decode c_Md_openOf 12 = .ok (.aload_n 0, 1) := by decide +kernel
theorem d_Md_openOf_13 : decode c_Md_openOf 13 = .ok (.iload_n 3, 1) := by decide +kernel
theorem d_Md_openOf_14 : decode c_Md_openOf 14 = .ok (.bipush 6, 2) := by decide +kernel
theorem d_Md_openOf_16 : decode c_Md_openOf 16 = .ok (.invokevirtual 49, 3) := by decide +kernel
theorem d_Md_openOf_19 : decode c_Md_openOf 19 = .ok (.iconst 1, 1) := by decide +kernel
theorem d_Md_openOf_20 : decode c_Md_openOf 20 = .ok (.if_icmp .ne 20, 3) := by decide +kernel
theorem d_Md_openOf_23 : decode c_Md_openOf 23 = .ok (.iload_n 1, 1) := by decide +kernel
theorem d_Md_openOf_24 : decode c_Md_openOf 24 = .ok (.ifCond .lt 13, 3) := by decide +kernel
theorem d_Md_openOf_27 : decode c_Md_openOf 27 = .ok (.aload_n 0, 1) := by decide +kernel
theorem d_Md_openOf_28 : decode c_Md_openOf 28 = .ok (.iload_n 3, 1) := by decide +kernel
theorem d_Md_openOf_29 : decode c_Md_openOf 29 = .ok (.iconst 0, 1) := by decide +kernel
theorem d_Md_openOf_30 : decode c_Md_openOf 30 = .ok (.invokevirtual 49, 3) := by decide +kernel
theorem d_Md_openOf_33 : decode c_Md_openOf 33 = .ok (.iload_n 1, 1) := by decide +kernel
theorem d_Md_openOf_34 : decode c_Md_openOf 34 = .ok (.if_icmp .ne 6, 3) := by decide +kernel
theorem d_Md_openOf_37 : decode c_Md_openOf 37 = .ok (.iinc 2 1, 3) := by decide +kernel
theorem d_Md_openOf_40 : decode c_Md_openOf 40 = .ok (.iinc 3 1, 3) := by decide +kernel
theorem d_Md_openOf_43 : decode c_Md_openOf 43 = .ok (.goto (-39), 3) := by decide +kernel
theorem d_Md_openOf_46 : decode c_Md_openOf 46 = .ok (.iload_n 2, 1) := by decide +kernel
theorem d_Md_openOf_47 : decode c_Md_openOf 47 = .ok (.ireturn, 1) := by decide +kernel
theorem d_Md_h_0 : decode c_Md_h 0 = .ok (.aload_n 0, 1) := by decide +kernel
theorem d_Md_h_1 : decode c_Md_h 1 = .ok (.getfield 32, 3) := by decide +kernel
theorem d_Md_h_4 : decode c_Md_h 4 = .ok (.bipush 7, 2) := by decide +kernel
theorem d_Md_h_6 : decode c_Md_h 6 = .ok (.iload_n 1, 1) := by decide +kernel
theorem d_Md_h_7 : decode c_Md_h 7 = .ok (.imul, 1) := by decide +kernel
theorem d_Md_h_8 : decode c_Md_h 8 = .ok (.iload_n 2, 1) := by decide +kernel
theorem d_Md_h_9 : decode c_Md_h 9 = .ok (.iadd, 1) := by decide +kernel
theorem d_Md_h_10 : decode c_Md_h 10 = .ok (.iaload, 1) := by decide +kernel
theorem d_Md_h_11 : decode c_Md_h 11 = .ok (.ireturn, 1) := by decide +kernel
theorem d_Md_note_0 : decode c_Md_note 0 = .ok (.iconst 5, 1) := by decide +kernel
theorem d_Md_note_1 : decode c_Md_note 1 = .ok (.aload_n 0, 1) := by decide +kernel
theorem d_Md_note_2 : decode c_Md_note 2 = .ok (.getfield 56, 3) := by decide +kernel
theorem d_Md_note_5 : decode c_Md_note 5 = .ok (.imul, 1) := by decide +kernel
theorem d_Md_note_6 : decode c_Md_note 6 = .ok (.istore 6, 2) := by decide +kernel
theorem d_Md_note_8 : decode c_Md_note 8 = .ok (.aload_n 0, 1) := by decide +kernel
theorem d_Md_note_9 : decode c_Md_note 9 = .ok (.getfield 7, 3) := by decide +kernel
theorem d_Md_note_12 : decode c_Md_note 12 = .ok (.iload 6, 2) := by decide +kernel
theorem d_Md_note_14 : decode c_Md_note 14 = .ok (.iload_n 1, 1) := by decide +kernel
theorem d_Md_note_15 : decode c_Md_note 15 = .ok (.iastore, 1) := by decide +kernel
theorem d_Md_note_16 : decode c_Md_note 16 = .ok (.aload_n 0, 1) := by decide +kernel
theorem d_Md_note_17 : decode c_Md_note 17 = .ok (.getfield 7, 3) := by decide +kernel
theorem d_Md_note_20 : decode c_Md_note 20 = .ok (.iload 6, 2) := by decide +kernel
theorem d_Md_note_22 : decode c_Md_note 22 = .ok (.iconst 1, 1) := by decide +kernel
theorem d_Md_note_23 : decode c_Md_note 23 = .ok (.iadd, 1) := by decide +kernel
theorem d_Md_note_24 : decode c_Md_note 24 = .ok (.iload_n 2, 1) := by decide +kernel
theorem d_Md_note_25 : decode c_Md_note 25 = .ok (.iastore, 1) := by decide +kernel
theorem d_Md_note_26 : decode c_Md_note 26 = .ok (.aload_n 0, 1) := by decide +kernel
theorem d_Md_note_27 : decode c_Md_note 27 = .ok (.getfield 7, 3) := by decide +kernel
theorem d_Md_note_30 : decode c_Md_note 30 = .ok (.iload 6, 2) := by decide +kernel
theorem d_Md_note_32 : decode c_Md_note 32 = .ok (.iconst 2, 1) := by decide +kernel
theorem d_Md_note_33 : decode c_Md_note 33 = .ok (.iadd, 1) := by decide +kernel
theorem d_Md_note_34 : decode c_Md_note 34 = .ok (.iload_n 3, 1) := by decide +kernel
theorem d_Md_note_35 : decode c_Md_note 35 = .ok (.iastore, 1) := by decide +kernel
theorem d_Md_note_36 : decode c_Md_note 36 = .ok (.aload_n 0, 1) := by decide +kernel
theorem d_Md_note_37 : decode c_Md_note 37 = .ok (.getfield 7, 3) := by decide +kernel
theorem d_Md_note_40 : decode c_Md_note 40 = .ok (.iload 6, 2) := by decide +kernel
theorem d_Md_note_42 : decode c_Md_note 42 = .ok (.iconst 3, 1) := by decide +kernel
theorem d_Md_note_43 : decode c_Md_note 43 = .ok (.iadd, 1) := by decide +kernel
theorem d_Md_note_44 : decode c_Md_note 44 = .ok (.iload 4, 2) := by decide +kernel
theorem d_Md_note_46 : decode c_Md_note 46 = .ok (.iastore, 1) := by decide +kernel
theorem d_Md_note_47 : decode c_Md_note 47 = .ok (.aload_n 0, 1) := by decide +kernel
theorem d_Md_note_48 : decode c_Md_note 48 = .ok (.getfield 7, 3) := by decide +kernel
theorem d_Md_note_51 : decode c_Md_note 51 = .ok (.iload 6, 2) := by decide +kernel
theorem d_Md_note_53 : decode c_Md_note 53 = .ok (.iconst 4, 1) := by decide +kernel
theorem d_Md_note_54 : decode c_Md_note 54 = .ok (.iadd, 1) := by decide +kernel
theorem d_Md_note_55 : decode c_Md_note 55 = .ok (.iload 5, 2) := by decide +kernel
theorem d_Md_note_57 : decode c_Md_note 57 = .ok (.iastore, 1) := by decide +kernel
theorem d_Md_note_58 : decode c_Md_note 58 = .ok (.aload_n 0, 1) := by decide +kernel
theorem d_Md_note_59 : decode c_Md_note 59 = .ok (.aload_n 0, 1) := by decide +kernel
theorem d_Md_note_60 : decode c_Md_note 60 = .ok (.getfield 56, 3) := by decide +kernel
theorem d_Md_note_63 : decode c_Md_note 63 = .ok (.invokevirtual 59, 3) := by decide +kernel
theorem d_Md_note_66 : decode c_Md_note 66 = .ok (.aload_n 0, 1) := by decide +kernel
theorem d_Md_note_67 : decode c_Md_note 67 = .ok (.dup, 1) := by decide +kernel
theorem d_Md_note_68 : decode c_Md_note 68 = .ok (.getfield 56, 3) := by decide +kernel
theorem d_Md_note_71 : decode c_Md_note 71 = .ok (.iconst 1, 1) := by decide +kernel
theorem d_Md_note_72 : decode c_Md_note 72 = .ok (.iadd, 1) := by decide +kernel
theorem d_Md_note_73 : decode c_Md_note 73 = .ok (.putfield 56, 3) := by decide +kernel
theorem d_Md_note_76 : decode c_Md_note 76 = .ok (.aload_n 0, 1) := by decide +kernel
theorem d_Md_note_77 : decode c_Md_note 77 = .ok (.getfield 56, 3) := by decide +kernel
theorem d_Md_note_80 : decode c_Md_note 80 = .ok (.aload_n 0, 1) := by decide +kernel
theorem d_Md_note_81 : decode c_Md_note 81 = .ok (.getfield 63, 3) := by decide +kernel
theorem d_Md_note_84 : decode c_Md_note 84 = .ok (.isub, 1) := by decide +kernel
theorem d_Md_note_85 : decode c_Md_note 85 = .ok (.bipush 6, 2) := by decide +kernel
theorem d_Md_note_87 : decode c_Md_note 87 = .ok (.if_icmp .ne 11, 3) := by decide +kernel
theorem d_Md_note_90 : decode c_Md_note 90 = .ok (.aload_n 0, 1) := by decide +kernel
theorem d_Md_note_91 : decode c_Md_note 91 = .ok (.aload_n 0, 1) := by decide +kernel
theorem d_Md_note_92 : decode c_Md_note 92 = .ok (.getfield 56, 3) := by decide +kernel
theorem d_Md_note_95 : decode c_Md_note 95 = .ok (.putfield 63, 3) := by decide +kernel
theorem d_Md_note_98 : decode c_Md_note 98 = .ok (.return_, 1) := by decide +kernel
theorem d_Md_apply_0 : decode c_Md_apply 0 = .ok (.iconst 5, 1) := by decide +kernel
theorem d_Md_apply_1 : decode c_Md_apply 1 = .ok (.iload_n 1, 1) := by decide +kernel
theorem d_Md_apply_2 : decode c_Md_apply 2 = .ok (.imul, 1) := by decide +kernel
theorem d_Md_apply_3 : decode c_Md_apply 3 = .ok (.istore_n 2, 1) := by decide +kernel
theorem d_Md_apply_4 : decode c_Md_apply 4 = .ok (.aload_n 0, 1) := by decide +kernel
theorem d_Md_apply_5 : decode c_Md_apply 5 = .ok (.getfield 7, 3) := by decide +kernel
theorem d_Md_apply_8 : decode c_Md_apply 8 = .ok (.iload_n 2, 1) := by decide +kernel
theorem d_Md_apply_9 : decode c_Md_apply 9 = .ok (.iconst 1, 1) := by decide +kernel
theorem d_Md_apply_10 : decode c_Md_apply 10 = .ok (.iadd, 1) := by decide +kernel
theorem d_Md_apply_11 : decode c_Md_apply 11 = .ok (.iaload, 1) := by decide +kernel
theorem d_Md_apply_12 : decode c_Md_apply 12 = .ok (.istore_n 3, 1) := by decide +kernel
theorem d_Md_apply_13 : decode c_Md_apply 13 = .ok (.aload_n 0, 1) := by decide +kernel
theorem d_Md_apply_14 : decode c_Md_apply 14 = .ok (.getfield 7, 3) := by decide +kernel
theorem d_Md_apply_17 : decode c_Md_apply 17 = .ok (.iload_n 2, 1) := by decide +kernel
theorem d_Md_apply_18 : decode c_Md_apply 18 = .ok (.iaload, 1) := by decide +kernel
theorem d_Md_apply_19 : decode c_Md_apply 19 = .ok (.iconst 1, 1) := by decide +kernel
theorem d_Md_apply_20 : decode c_Md_apply 20 = .ok (.if_icmp .ne 67, 3) := by decide +kernel
theorem d_Md_apply_23 : decode c_Md_apply 23 = .ok (.aload_n 0, 1) := by decide +kernel
theorem d_Md_apply_24 : decode c_Md_apply 24 = .ok (.iload_n 3, 1) := by decide +kernel
theorem d_Md_apply_25 : decode c_Md_apply 25 = .ok (.putfield 53, 3) := by decide +kernel
theorem d_Md_apply_28 : decode c_Md_apply 28 = .ok (.aload_n 0, 1) := by decide +kernel
theorem d_Md_apply_29 : decode c_Md_apply 29 = .ok (.getfield 13, 3) := by decide +kernel
theorem d_Md_apply_32 : decode c_Md_apply 32 = .ok (.iload_n 3, 1) := by decide +kernel
theorem d_Md_apply_33 : decode c_Md_apply 33 = .ok (.iconst 1, 1) := by decide +kernel
theorem d_Md_apply_34 : decode c_Md_apply 34 = .ok (.bastore, 1) := by decide +kernel
theorem d_Md_apply_35 : decode c_Md_apply 35 = .ok (.aload_n 0, 1) := by decide +kernel
theorem d_Md_apply_36 : decode c_Md_apply 36 = .ok (.getfield 17, 3) := by decide +kernel
theorem d_Md_apply_39 : decode c_Md_apply 39 = .ok (.iload_n 3, 1) := by decide +kernel
theorem d_Md_apply_40 : decode c_Md_apply 40 = .ok (.aload_n 0, 1) := by decide +kernel
theorem d_Md_apply_41 : decode c_Md_apply 41 = .ok (.getfield 7, 3) := by decide +kernel
theorem d_Md_apply_44 : decode c_Md_apply 44 = .ok (.iload_n 2, 1) := by decide +kernel
theorem d_Md_apply_45 : decode c_Md_apply 45 = .ok (.iconst 4, 1) := by decide +kernel
theorem d_Md_apply_46 : decode c_Md_apply 46 = .ok (.iadd, 1) := by decide +kernel
theorem d_Md_apply_47 : decode c_Md_apply 47 = .ok (.iaload, 1) := by decide +kernel
theorem d_Md_apply_48 : decode c_Md_apply 48 = .ok (.iconst 1, 1) := by decide +kernel
theorem d_Md_apply_49 : decode c_Md_apply 49 = .ok (.if_icmp .ne 7, 3) := by decide +kernel
theorem d_Md_apply_52 : decode c_Md_apply 52 = .ok (.iconst 1, 1) := by decide +kernel
theorem d_Md_apply_53 : decode c_Md_apply 53 = .ok (.goto 4, 3) := by decide +kernel
theorem d_Md_apply_56 : decode c_Md_apply 56 = .ok (.iconst 0, 1) := by decide +kernel
theorem d_Md_apply_57 : decode c_Md_apply 57 = .ok (.bastore, 1) := by decide +kernel
theorem d_Md_apply_58 : decode c_Md_apply 58 = .ok (.iconst 0, 1) := by decide +kernel
theorem d_Md_apply_59 : decode c_Md_apply 59 = .ok (.istore 4, 2) := by decide +kernel
theorem d_Md_apply_61 : decode c_Md_apply 61 = .ok (.iload 4, 2) := by decide +kernel
theorem d_Md_apply_63 : decode c_Md_apply 63 = .ok (.bipush 32, 2) := by decide +kernel
theorem d_Md_apply_65 : decode c_Md_apply 65 = .ok (.if_icmp .ge 22, 3) := by decide +kernel
theorem d_Md_apply_68 : decode c_Md_apply 68 = .ok (.aload_n 0, 1) := by decide +kernel
theorem d_Md_apply_69 : decode c_Md_apply 69 = .ok (.getfield 29, 3) := by decide +kernel
theorem d_Md_apply_72 : decode c_Md_apply 72 = .ok (.bipush 32, 2) := by decide +kernel
theorem d_Md_apply_74 : decode c_Md_apply 74 = .ok (.iload_n 3, 1) := by decide +kernel
theorem d_Md_apply_75 : decode c_Md_apply 75 = .ok (.imul, 1) := by decide +kernel
theorem d_Md_apply_76 : decode c_Md_apply 76 = .ok (.iload 4, 2) := by decide +kernel
theorem d_Md_apply_78 : decode c_Md_apply 78 = .ok (.iadd, 1) := by decide +kernel
theorem d_Md_apply_79 : decode c_Md_apply 79 = .ok (.iconst 0, 1) := by decide +kernel
theorem d_Md_apply_80 : decode c_Md_apply 80 = .ok (.iastore, 1) := by decide +kernel
theorem d_Md_apply_81 : decode c_Md_apply 81 = .ok (.iinc 4 1, 3) := by decide +kernel
theorem d_Md_apply_84 : decode c_Md_apply 84 = .ok (.goto (-23), 3) := by decide +kernel
theorem d_Md_apply_87 : decode c_Md_apply 87 = .ok (.aload_n 0, 1) := by decide +kernel
theorem d_Md_apply_88 : decode c_Md_apply 88 = .ok (.getfield 7, 3) := by decide +kernel
theorem d_Md_apply_91 : decode c_Md_apply 91 = .ok (.iload_n 2, 1) := by decide +kernel
theorem d_Md_apply_92 : decode c_Md_apply 92 = .ok (.iaload, 1) := by decide +kernel
theorem d_Md_apply_93 : decode c_Md_apply 93 = .ok (.iconst 2, 1) := by decide +kernel
theorem d_Md_apply_94 : decode c_Md_apply 94 = .ok (.if_icmp .ne 10, 3) := by decide +kernel
theorem d_Md_apply_97 : decode c_Md_apply 97 = .ok (.aload_n 0, 1) := by decide +kernel
theorem d_Md_apply_98 : decode c_Md_apply 98 = .ok (.getfield 13, 3) := by decide +kernel
theorem d_Md_apply_101 : decode c_Md_apply 101 = .ok (.iload_n 3, 1) := by decide +kernel
theorem d_Md_apply_102 : decode c_Md_apply 102 = .ok (.iconst 0, 1) := by decide +kernel
theorem d_Md_apply_103 : decode c_Md_apply 103 = .ok (.bastore, 1) := by decide +kernel
theorem d_Md_apply_104 : decode c_Md_apply 104 = .ok (.aload_n 0, 1) := by decide +kernel
theorem d_Md_apply_105 : decode c_Md_apply 105 = .ok (.getfield 7, 3) := by decide +kernel
theorem d_Md_apply_108 : decode c_Md_apply 108 = .ok (.iload_n 2, 1) := by decide +kernel
theorem d_Md_apply_109 : decode c_Md_apply 109 = .ok (.iaload, 1) := by decide +kernel
theorem d_Md_apply_110 : decode c_Md_apply 110 = .ok (.iconst 4, 1) := by decide +kernel
theorem d_Md_apply_111 : decode c_Md_apply 111 = .ok (.if_icmp .ne 29, 3) := by decide +kernel
theorem d_Md_apply_114 : decode c_Md_apply 114 = .ok (.aload_n 0, 1) := by decide +kernel
theorem d_Md_apply_115 : decode c_Md_apply 115 = .ok (.getfield 29, 3) := by decide +kernel
theorem d_Md_apply_118 : decode c_Md_apply 118 = .ok (.bipush 32, 2) := by decide +kernel
theorem d_Md_apply_120 : decode c_Md_apply 120 = .ok (.iload_n 3, 1) := by decide +kernel
theorem d_Md_apply_121 : decode c_Md_apply 121 = .ok (.imul, 1) := by decide +kernel
theorem d_Md_apply_122 : decode c_Md_apply 122 = .ok (.aload_n 0, 1) := by decide +kernel
theorem d_Md_apply_123 : decode c_Md_apply 123 = .ok (.getfield 7, 3) := by decide +kernel
theorem d_Md_apply_126 : decode c_Md_apply 126 = .ok (.iload_n 2, 1) := by decide +kernel
theorem d_Md_apply_127 : decode c_Md_apply 127 = .ok (.iconst 2, 1) := by decide +kernel
theorem d_Md_apply_128 : decode c_Md_apply 128 = .ok (.iadd, 1) := by decide +kernel
theorem d_Md_apply_129 : decode c_Md_apply 129 = .ok (.iaload, 1) := by decide +kernel
theorem d_Md_apply_130 : decode c_Md_apply 130 = .ok (.iadd, 1) := by decide +kernel
theorem d_Md_apply_131 : decode c_Md_apply 131 = .ok (.aload_n 0, 1) := by decide +kernel
theorem d_Md_apply_132 : decode c_Md_apply 132 = .ok (.getfield 7, 3) := by decide +kernel
theorem d_Md_apply_135 : decode c_Md_apply 135 = .ok (.iload_n 2, 1) := by decide +kernel
theorem d_Md_apply_136 : decode c_Md_apply 136 = .ok (.iconst 3, 1) := by decide +kernel
theorem d_Md_apply_137 : decode c_Md_apply 137 = .ok (.iadd, 1) := by decide +kernel
theorem d_Md_apply_138 : decode c_Md_apply 138 = .ok (.iaload, 1) := by decide +kernel
theorem d_Md_apply_139 : decode c_Md_apply 139 = .ok (.iastore, 1) := by decide +kernel
theorem d_Md_apply_140 : decode c_Md_apply 140 = .ok (.aload_n 0, 1) := by decide +kernel
theorem d_Md_apply_141 : decode c_Md_apply 141 = .ok (.getfield 7, 3) := by decide +kernel
theorem d_Md_apply_144 : decode c_Md_apply 144 = .ok (.iload_n 2, 1) := by decide +kernel
theorem d_Md_apply_145 : decode c_Md_apply 145 = .ok (.iaload, 1) := by decide +kernel
theorem d_Md_apply_146 : decode c_Md_apply 146 = .ok (.iconst 1, 1) := by decide +kernel
theorem d_Md_apply_147 : decode c_Md_apply 147 = .ok (.if_icmp .eq 13, 3) := by decide +kernel
theorem d_Md_apply_150 : decode c_Md_apply 150 = .ok (.aload_n 0, 1) := by decide +kernel
theorem d_Md_apply_151 : decode c_Md_apply 151 = .ok (.getfield 7, 3) := by decide +kernel
theorem d_Md_apply_154 : decode c_Md_apply 154 = .ok (.iload_n 2, 1) := by decide +kernel
theorem d_Md_apply_155 : decode c_Md_apply 155 = .ok (.iaload, 1) := by decide +kernel
theorem d_Md_apply_156 : decode c_Md_apply 156 = .ok (.iconst 3, 1) := by decide +kernel
theorem d_Md_apply_157 : decode c_Md_apply 157 = .ok (.if_icmp .ne 31, 3) := by decide +kernel
theorem d_Md_apply_160 : decode c_Md_apply 160 = .ok (.aload_n 0, 1) := by decide +kernel
theorem d_Md_apply_161 : decode c_Md_apply 161 = .ok (.getfield 20, 3) := by decide +kernel
theorem d_Md_apply_164 : decode c_Md_apply 164 = .ok (.iload_n 3, 1) := by decide +kernel
theorem d_Md_apply_165 : decode c_Md_apply 165 = .ok (.aload_n 0, 1) := by decide +kernel
theorem d_Md_apply_166 : decode c_Md_apply 166 = .ok (.getfield 7, 3) := by decide +kernel
theorem d_Md_apply_169 : decode c_Md_apply 169 = .ok (.iload_n 2, 1) := by decide +kernel
theorem d_Md_apply_170 : decode c_Md_apply 170 = .ok (.iconst 2, 1) := by decide +kernel
theorem d_Md_apply_171 : decode c_Md_apply 171 = .ok (.iadd, 1) := by decide +kernel
theorem d_Md_apply_172 : decode c_Md_apply 172 = .ok (.iaload, 1) := by decide +kernel
theorem d_Md_apply_173 : decode c_Md_apply 173 = .ok (.iastore, 1) := by decide +kernel
theorem d_Md_apply_174 : decode c_Md_apply 174 = .ok (.aload_n 0, 1) := by decide +kernel
theorem d_Md_apply_175 : decode c_Md_apply 175 = .ok (.getfield 23, 3) := by decide +kernel
theorem d_Md_apply_178 : decode c_Md_apply 178 = .ok (.iload_n 3, 1) := by decide +kernel
theorem d_Md_apply_179 : decode c_Md_apply 179 = .ok (.aload_n 0, 1) := by decide +kernel
theorem d_Md_apply_180 : decode c_Md_apply 180 = .ok (.getfield 7, 3) := by decide +kernel
theorem d_Md_apply_183 : decode c_Md_apply 183 = .ok (.iload_n 2, 1) := by decide +kernel
theorem d_Md_apply_184 : decode c_Md_apply 184 = .ok (.iconst 3, 1) := by decide +kernel
theorem d_Md_apply_185 : decode c_Md_apply 185 = .ok (.iadd, 1) := by decide +kernel
theorem d_Md_apply_186 : decode c_Md_apply 186 = .ok (.iaload, 1) := by decide +kernel
theorem d_Md_apply_187 : decode c_Md_apply 187 = .ok (.iastore, 1) := by decide +kernel
theorem d_Md_apply_188 : decode c_Md_apply 188 = .ok (.return_, 1) := by decide +kernel
theorem d_Md_grant_0 : decode c_Md_grant 0 = .ok (.aload_n 0, 1) := by decide +kernel
theorem d_Md_grant_1 : decode c_Md_grant 1 = .ok (.getfield 35, 3) := by decide +kernel
theorem d_Md_grant_4 : decode c_Md_grant 4 = .ok (.bipush 6, 2) := by decide +kernel
theorem d_Md_grant_6 : decode c_Md_grant 6 = .ok (.iload_n 1, 1) := by decide +kernel
theorem d_Md_grant_7 : decode c_Md_grant 7 = .ok (.imul, 1) := by decide +kernel
theorem d_Md_grant_8 : decode c_Md_grant 8 = .ok (.iconst 3, 1) := by decide +kernel
theorem d_Md_grant_9 : decode c_Md_grant 9 = .ok (.iadd, 1) := by decide +kernel
theorem d_Md_grant_10 : decode c_Md_grant 10 = .ok (.iaload, 1) := by decide +kernel
theorem d_Md_grant_11 : decode c_Md_grant 11 = .ok (.istore_n 3, 1) := by decide +kernel
theorem d_Md_grant_12 : decode c_Md_grant 12 = .ok (.aload_n 0, 1) := by decide +kernel
theorem d_Md_grant_13 : decode c_Md_grant 13 = .ok (.getfield 35, 3) := by decide +kernel
theorem d_Md_grant_16 : decode c_Md_grant 16 = .ok (.bipush 6, 2) := by decide +kernel
theorem d_Md_grant_18 : decode c_Md_grant 18 = .ok (.iload_n 1, 1) := by decide +kernel
theorem d_Md_grant_19 : decode c_Md_grant 19 = .ok (.imul, 1) := by decide +kernel
theorem d_Md_grant_20 : decode c_Md_grant 20 = .ok (.iconst 4, 1) := by decide +kernel
theorem d_Md_grant_21 : decode c_Md_grant 21 = .ok (.iadd, 1) := by decide +kernel
theorem d_Md_grant_22 : decode c_Md_grant 22 = .ok (.iaload, 1) := by decide +kernel
theorem d_Md_grant_23 : decode c_Md_grant 23 = .ok (.istore 4, 2) := by decide +kernel
theorem d_Md_grant_25 : decode c_Md_grant 25 = .ok (.aload_n 0, 1) := by decide +kernel
theorem d_Md_grant_26 : decode c_Md_grant 26 = .ok (.getfield 17, 3) := by decide +kernel
theorem d_Md_grant_29 : decode c_Md_grant 29 = .ok (.iload_n 2, 1) := by decide +kernel
theorem d_Md_grant_30 : decode c_Md_grant 30 = .ok (.baload, 1) := by decide +kernel
theorem d_Md_grant_31 : decode c_Md_grant 31 = .ok (.ifCond .ne 8, 3) := by decide +kernel
theorem d_Md_grant_34 : decode c_Md_grant 34 = .ok (.iload 4, 2) := by decide +kernel
theorem d_Md_grant_36 : decode c_Md_grant 36 = .ok (.ifCond .ne 7, 3) := by decide +kernel
theorem d_Md_grant_39 : decode c_Md_grant 39 = .ok (.iconst 0, 1) := by decide +kernel
theorem d_Md_grant_40 : decode c_Md_grant 40 = .ok (.goto 22, 3) := by decide +kernel
theorem d_Md_grant_43 : decode c_Md_grant 43 = .ok (.iload 4, 2) := by decide +kernel
theorem d_Md_grant_45 : decode c_Md_grant 45 = .ok (.iconst 2, 1) := by decide +kernel
theorem d_Md_grant_46 : decode c_Md_grant 46 = .ok (.if_icmp .ne 15, 3) := by decide +kernel
theorem d_Md_grant_49 : decode c_Md_grant 49 = .ok (.aload_n 0, 1) := by decide +kernel
theorem d_Md_grant_50 : decode c_Md_grant 50 = .ok (.iload_n 2, 1) := by decide +kernel
theorem d_Md_grant_51 : decode c_Md_grant 51 = .ok (.invokevirtual 66, 3) := by decide +kernel
theorem d_Md_grant_54 : decode c_Md_grant 54 = .ok (.ifCond .ne 7, 3) := by decide +kernel
theorem d_Md_grant_57 : decode c_Md_grant 57 = .ok (.iconst 2, 1) := by decide +kernel
theorem d_Md_grant_58 : decode c_Md_grant 58 = .ok (.goto 4, 3) := by decide +kernel
theorem d_Md_grant_61 : decode c_Md_grant 61 = .ok (.iconst 1, 1) := by decide +kernel
theorem d_Md_grant_62 : decode c_Md_grant 62 = .ok (.istore 5, 2) := by decide +kernel
theorem d_Md_grant_64 : decode c_Md_grant 64 = .ok (.aload_n 0, 1) := by decide +kernel
theorem d_Md_grant_65 : decode c_Md_grant 65 = .ok (.dup, 1) := by decide +kernel
theorem d_Md_grant_66 : decode c_Md_grant 66 = .ok (.getfield 41, 3) := by decide +kernel
theorem d_Md_grant_69 : decode c_Md_grant 69 = .ok (.iconst 1, 1) := by decide +kernel
theorem d_Md_grant_70 : decode c_Md_grant 70 = .ok (.iadd, 1) := by decide +kernel
theorem d_Md_grant_71 : decode c_Md_grant 71 = .ok (.putfield 41, 3) := by decide +kernel
theorem d_Md_grant_74 : decode c_Md_grant 74 = .ok (.bipush 7, 2) := by decide +kernel
theorem d_Md_grant_76 : decode c_Md_grant 76 = .ok (.aload_n 0, 1) := by decide +kernel
theorem d_Md_grant_77 : decode c_Md_grant 77 = .ok (.getfield 41, 3) := by decide +kernel
theorem d_Md_grant_80 : decode c_Md_grant 80 = .ok (.imul, 1) := by decide +kernel
theorem d_Md_grant_81 : decode c_Md_grant 81 = .ok (.istore 6, 2) := by decide +kernel
theorem d_Md_grant_83 : decode c_Md_grant 83 = .ok (.aload_n 0, 1) := by decide +kernel
theorem d_Md_grant_84 : decode c_Md_grant 84 = .ok (.getfield 32, 3) := by decide +kernel
theorem d_Md_grant_87 : decode c_Md_grant 87 = .ok (.iload 6, 2) := by decide +kernel
theorem d_Md_grant_89 : decode c_Md_grant 89 = .ok (.iload_n 2, 1) := by decide +kernel
theorem d_Md_grant_90 : decode c_Md_grant 90 = .ok (.iastore, 1) := by decide +kernel
theorem d_Md_grant_91 : decode c_Md_grant 91 = .ok (.aload_n 0, 1) := by decide +kernel
theorem d_Md_grant_92 : decode c_Md_grant 92 = .ok (.getfield 32, 3) := by decide +kernel
theorem d_Md_grant_95 : decode c_Md_grant 95 = .ok (.iload 6, 2) := by decide +kernel
theorem d_Md_grant_97 : decode c_Md_grant 97 = .ok (.iconst 1, 1) := by decide +kernel
theorem d_Md_grant_98 : decode c_Md_grant 98 = .ok (.iadd, 1) := by decide +kernel
theorem d_Md_grant_99 : decode c_Md_grant 99 = .ok (.iload_n 3, 1) := by decide +kernel
theorem d_Md_grant_100 : decode c_Md_grant 100 = .ok (.bipush 7, 2) := by decide +kernel
theorem d_Md_grant_102 : decode c_Md_grant 102 = .ok (.iand, 1) := by decide +kernel
theorem d_Md_grant_103 : decode c_Md_grant 103 = .ok (.iastore, 1) := by decide +kernel
theorem d_Md_grant_104 : decode c_Md_grant 104 = .ok (.aload_n 0, 1) := by decide +kernel
theorem d_Md_grant_105 : decode c_Md_grant 105 = .ok (.getfield 32, 3) := by decide +kernel
theorem d_Md_grant_108 : decode c_Md_grant 108 = .ok (.iload 6, 2) := by decide +kernel
theorem d_Md_grant_110 : decode c_Md_grant 110 = .ok (.iconst 2, 1) := by decide +kernel
theorem d_Md_grant_111 : decode c_Md_grant 111 = .ok (.iadd, 1) := by decide +kernel
theorem d_Md_grant_112 : decode c_Md_grant 112 = .ok (.iload_n 3, 1) := by decide +kernel
theorem d_Md_grant_113 : decode c_Md_grant 113 = .ok (.iconst 3, 1) := by decide +kernel
theorem d_Md_grant_114 : decode c_Md_grant 114 = .ok (.ishr, 1) := by decide +kernel
theorem d_Md_grant_115 : decode c_Md_grant 115 = .ok (.bipush 7, 2) := by decide +kernel
theorem d_Md_grant_117 : decode c_Md_grant 117 = .ok (.iand, 1) := by decide +kernel
theorem d_Md_grant_118 : decode c_Md_grant 118 = .ok (.iastore, 1) := by decide +kernel
theorem d_Md_grant_119 : decode c_Md_grant 119 = .ok (.aload_n 0, 1) := by decide +kernel
theorem d_Md_grant_120 : decode c_Md_grant 120 = .ok (.getfield 32, 3) := by decide +kernel
theorem d_Md_grant_123 : decode c_Md_grant 123 = .ok (.iload 6, 2) := by decide +kernel
theorem d_Md_grant_125 : decode c_Md_grant 125 = .ok (.iconst 3, 1) := by decide +kernel
theorem d_Md_grant_126 : decode c_Md_grant 126 = .ok (.iadd, 1) := by decide +kernel
theorem d_Md_grant_127 : decode c_Md_grant 127 = .ok (.iload 5, 2) := by decide +kernel
theorem d_Md_grant_129 : decode c_Md_grant 129 = .ok (.iastore, 1) := by decide +kernel
theorem d_Md_grant_130 : decode c_Md_grant 130 = .ok (.aload_n 0, 1) := by decide +kernel
theorem d_Md_grant_131 : decode c_Md_grant 131 = .ok (.getfield 32, 3) := by decide +kernel
theorem d_Md_grant_134 : decode c_Md_grant 134 = .ok (.iload 6, 2) := by decide +kernel
theorem d_Md_grant_136 : decode c_Md_grant 136 = .ok (.iconst 4, 1) := by decide +kernel
theorem d_Md_grant_137 : decode c_Md_grant 137 = .ok (.iadd, 1) := by decide +kernel
theorem d_Md_grant_138 : decode c_Md_grant 138 = .ok (.aload_n 0, 1) := by decide +kernel
theorem d_Md_grant_139 : decode c_Md_grant 139 = .ok (.getfield 35, 3) := by decide +kernel
theorem d_Md_grant_142 : decode c_Md_grant 142 = .ok (.bipush 6, 2) := by decide +kernel
theorem d_Md_grant_144 : decode c_Md_grant 144 = .ok (.iload_n 1, 1) := by decide +kernel
theorem d_Md_grant_145 : decode c_Md_grant 145 = .ok (.imul, 1) := by decide +kernel
theorem d_Md_grant_146 : decode c_Md_grant 146 = .ok (.iaload, 1) := by decide +kernel
theorem d_Md_grant_147 : decode c_Md_grant 147 = .ok (.iastore, 1) := by decide +kernel
theorem d_Md_grant_148 : decode c_Md_grant 148 = .ok (.aload_n 0, 1) := by decide +kernel
theorem d_Md_grant_149 : decode c_Md_grant 149 = .ok (.getfield 32, 3) := by decide +kernel
theorem d_Md_grant_152 : decode c_Md_grant 152 = .ok (.iload 6, 2) := by decide +kernel
theorem d_Md_grant_154 : decode c_Md_grant 154 = .ok (.iconst 5, 1) := by decide +kernel
theorem d_Md_grant_155 : decode c_Md_grant 155 = .ok (.iadd, 1) := by decide +kernel
theorem d_Md_grant_156 : decode c_Md_grant 156 = .ok (.iload_n 3, 1) := by decide +kernel
theorem d_Md_grant_157 : decode c_Md_grant 157 = .ok (.bipush 9, 2) := by decide +kernel
theorem d_Md_grant_159 : decode c_Md_grant 159 = .ok (.ishr, 1) := by decide +kernel
theorem d_Md_grant_160 : decode c_Md_grant 160 = .ok (.iastore, 1) := by decide +kernel
theorem d_Md_grant_161 : decode c_Md_grant 161 = .ok (.aload_n 0, 1) := by decide +kernel
theorem d_Md_grant_162 : decode c_Md_grant 162 = .ok (.getfield 32, 3) := by decide +kernel
theorem d_Md_grant_165 : decode c_Md_grant 165 = .ok (.iload 6, 2) := by decide +kernel
theorem d_Md_grant_167 : decode c_Md_grant 167 = .ok (.bipush 6, 2) := by decide +kernel
theorem d_Md_grant_169 : decode c_Md_grant 169 = .ok (.iadd, 1) := by decide +kernel
theorem d_Md_grant_170 : decode c_Md_grant 170 = .ok (.iconst 1, 1) := by decide +kernel
theorem d_Md_grant_171 : decode c_Md_grant 171 = .ok (.iastore, 1) := by decide +kernel
theorem d_Md_grant_172 : decode c_Md_grant 172 = .ok (.aload_n 0, 1) := by decide +kernel
theorem d_Md_grant_173 : decode c_Md_grant 173 = .ok (.getfield 41, 3) := by decide +kernel
theorem d_Md_grant_176 : decode c_Md_grant 176 = .ok (.ireturn, 1) := by decide +kernel
theorem d_Md_breaks_0 : decode c_Md_breaks 0 = .ok (.iconst 0, 1) := by decide +kernel
theorem d_Md_breaks_1 : decode c_Md_breaks 1 = .ok (.istore_n 2, 1) := by decide +kernel
theorem d_Md_breaks_2 : decode c_Md_breaks 2 = .ok (.iconst 1, 1) := by decide +kernel
theorem d_Md_breaks_3 : decode c_Md_breaks 3 = .ok (.istore_n 3, 1) := by decide +kernel
theorem d_Md_breaks_4 : decode c_Md_breaks 4 = .ok (.iload_n 3, 1) := by decide +kernel
theorem d_Md_breaks_5 : decode c_Md_breaks 5 = .ok (.aload_n 0, 1) := by decide +kernel
theorem d_Md_breaks_6 : decode c_Md_breaks 6 = .ok (.getfield 41, 3) := by decide +kernel
theorem d_Md_breaks_9 : decode c_Md_breaks 9 = .ok (.if_icmp .gt 56, 3) := by decide +kernel
theorem d_Md_breaks_12 : decode c_Md_breaks 12 = .ok (.aload_n 0, 1) := by decide +kernel
theorem d_Md_breaks_13 : decode c_Md_breaks 13 = .ok (.iload_n 3, 1) := by decide +kernel
theorem d_Md_breaks_14 : decode c_Md_breaks 14 = .ok (.bipush 6, 2) := by decide +kernel
theorem d_Md_breaks_16 : decode c_Md_breaks 16 = .ok (.invokevirtual 49, 3) := by decide +kernel
theorem d_Md_breaks_19 : decode c_Md_breaks 19 = .ok (.ifCond .eq 40, 3) := by decide +kernel
theorem d_Md_breaks_22 : decode c_Md_breaks 22 = .ok (.aload_n 0, 1) := by decide +kernel
theorem d_Md_breaks_23 : decode c_Md_breaks 23 = .ok (.iload_n 3, 1) := by decide +kernel
theorem d_Md_breaks_24 : decode c_Md_breaks 24 = .ok (.iconst 0, 1) := by decide +kernel
theorem d_Md_breaks_25 : decode c_Md_breaks 25 = .ok (.invokevirtual 49, 3) := by decide +kernel
theorem d_Md_breaks_28 : decode c_Md_breaks 28 = .ok (.iload_n 1, 1) := by decide +kernel
theorem d_Md_breaks_29 : decode c_Md_breaks 29 = .ok (.if_icmp .ne 30, 3) := by decide +kernel
theorem d_Md_breaks_32 : decode c_Md_breaks 32 = .ok (.aload_n 0, 1) := by decide +kernel
theorem d_Md_breaks_33 : decode c_Md_breaks 33 = .ok (.iload_n 3, 1) := by decide +kernel
theorem d_Md_breaks_34 : decode c_Md_breaks 34 = .ok (.iconst 3, 1) := by decide +kernel
theorem d_Md_breaks_35 : decode c_Md_breaks 35 = .ok (.invokevirtual 49, 3) := by decide +kernel
theorem d_Md_breaks_38 : decode c_Md_breaks 38 = .ok (.iconst 2, 1) := by decide +kernel
theorem d_Md_breaks_39 : decode c_Md_breaks 39 = .ok (.if_icmp .ge 6, 3) := by decide +kernel
theorem d_Md_breaks_42 : decode c_Md_breaks 42 = .ok (.goto 17, 3) := by decide +kernel
theorem d_Md_breaks_45 : decode c_Md_breaks 45 = .ok (.aload_n 0, 1) := by decide +kernel
theorem d_Md_breaks_46 : decode c_Md_breaks 46 = .ok (.getfield 32, 3) := by decide +kernel
theorem d_Md_breaks_49 : decode c_Md_breaks 49 = .ok (.bipush 7, 2) := by decide +kernel
theorem d_Md_breaks_51 : decode c_Md_breaks 51 = .ok (.iload_n 3, 1) := by decide +kernel
theorem d_Md_breaks_52 : decode c_Md_breaks 52 = .ok (.imul, 1) := by decide +kernel
theorem d_Md_breaks_53 : decode c_Md_breaks 53 = .ok (.iconst 3, 1) := by decide +kernel
theorem d_Md_breaks_54 : decode c_Md_breaks 54 = .ok (.iadd, 1) := by decide +kernel
theorem d_Md_breaks_55 : decode c_Md_breaks 55 = .ok (.iconst 3, 1) := by decide +kernel
theorem d_Md_breaks_56 : decode c_Md_breaks 56 = .ok (.iastore, 1) := by decide +kernel
theorem d_Md_breaks_57 : decode c_Md_breaks 57 = .ok (.iconst 1, 1) := by decide +kernel
theorem d_Md_breaks_58 : decode c_Md_breaks 58 = .ok (.istore_n 2, 1) := by decide +kernel
theorem d_Md_breaks_59 : decode c_Md_breaks 59 = .ok (.iinc 3 1, 3) := by decide +kernel
theorem d_Md_breaks_62 : decode c_Md_breaks 62 = .ok (.goto (-58), 3) := by decide +kernel
theorem d_Md_breaks_65 : decode c_Md_breaks 65 = .ok (.iload_n 2, 1) := by decide +kernel
theorem d_Md_breaks_66 : decode c_Md_breaks 66 = .ok (.ireturn, 1) := by decide +kernel
theorem d_Md_sharing_0 : decode c_Md_sharing 0 = .ok (.iconst 1, 1) := by decide +kernel
theorem d_Md_sharing_1 : decode c_Md_sharing 1 = .ok (.istore_n 3, 1) := by decide +kernel
theorem d_Md_sharing_2 : decode c_Md_sharing 2 = .ok (.iload_n 3, 1) := by decide +kernel
theorem d_Md_sharing_3 : decode c_Md_sharing 3 = .ok (.aload_n 0, 1) := by decide +kernel
theorem d_Md_sharing_4 : decode c_Md_sharing 4 = .ok (.getfield 41, 3) := by decide +kernel
theorem d_Md_sharing_7 : decode c_Md_sharing 7 = .ok (.if_icmp .gt 76, 3) := by decide +kernel
theorem d_Md_sharing_10 : decode c_Md_sharing 10 = .ok (.aload_n 0, 1) := by decide +kernel
theorem d_Md_sharing_11 : decode c_Md_sharing 11 = .ok (.iload_n 3, 1) := by decide +kernel
theorem d_Md_sharing_12 : decode c_Md_sharing 12 = .ok (.bipush 6, 2) := by decide +kernel
theorem d_Md_sharing_14 : decode c_Md_sharing 14 = .ok (.invokevirtual 49, 3) := by decide +kernel
theorem d_Md_sharing_17 : decode c_Md_sharing 17 = .ok (.ifCond .eq 60, 3) := by decide +kernel
theorem d_Md_sharing_20 : decode c_Md_sharing 20 = .ok (.aload_n 0, 1) := by decide +kernel
theorem d_Md_sharing_21 : decode c_Md_sharing 21 = .ok (.iload_n 3, 1) := by decide +kernel
theorem d_Md_sharing_22 : decode c_Md_sharing 22 = .ok (.iconst 0, 1) := by decide +kernel
theorem d_Md_sharing_23 : decode c_Md_sharing 23 = .ok (.invokevirtual 49, 3) := by decide +kernel
theorem d_Md_sharing_26 : decode c_Md_sharing 26 = .ok (.iload_n 1, 1) := by decide +kernel
theorem d_Md_sharing_27 : decode c_Md_sharing 27 = .ok (.if_icmp .eq 6, 3) := by decide +kernel
theorem d_Md_sharing_30 : decode c_Md_sharing 30 = .ok (.goto 47, 3) := by decide +kernel
theorem d_Md_sharing_33 : decode c_Md_sharing 33 = .ok (.iload_n 2, 1) := by decide +kernel
theorem d_Md_sharing_34 : decode c_Md_sharing 34 = .ok (.bipush 7, 2) := by decide +kernel
theorem d_Md_sharing_36 : decode c_Md_sharing 36 = .ok (.iand, 1) := by decide +kernel
theorem d_Md_sharing_37 : decode c_Md_sharing 37 = .ok (.aload_n 0, 1) := by decide +kernel
theorem d_Md_sharing_38 : decode c_Md_sharing 38 = .ok (.iload_n 3, 1) := by decide +kernel
theorem d_Md_sharing_39 : decode c_Md_sharing 39 = .ok (.iconst 2, 1) := by decide +kernel
theorem d_Md_sharing_40 : decode c_Md_sharing 40 = .ok (.invokevirtual 49, 3) := by decide +kernel
theorem d_Md_sharing_43 : decode c_Md_sharing 43 = .ok (.iconst (-1), 1) := by decide +kernel
theorem d_Md_sharing_44 : decode c_Md_sharing 44 = .ok (.ixor, 1) := by decide +kernel
theorem d_Md_sharing_45 : decode c_Md_sharing 45 = .ok (.iand, 1) := by decide +kernel
theorem d_Md_sharing_46 : decode c_Md_sharing 46 = .ok (.istore 4, 2) := by decide +kernel
theorem d_Md_sharing_48 : decode c_Md_sharing 48 = .ok (.aload_n 0, 1) := by decide +kernel
theorem d_Md_sharing_49 : decode c_Md_sharing 49 = .ok (.iload_n 3, 1) := by decide +kernel
theorem d_Md_sharing_50 : decode c_Md_sharing 50 = .ok (.iconst 1, 1) := by decide +kernel
theorem d_Md_sharing_51 : decode c_Md_sharing 51 = .ok (.invokevirtual 49, 3) := by decide +kernel
theorem d_Md_sharing_54 : decode c_Md_sharing 54 = .ok (.iload_n 2, 1) := by decide +kernel
theorem d_Md_sharing_55 : decode c_Md_sharing 55 = .ok (.iconst 3, 1) := by decide +kernel
theorem d_Md_sharing_56 : decode c_Md_sharing 56 = .ok (.ishr, 1) := by decide +kernel
theorem d_Md_sharing_57 : decode c_Md_sharing 57 = .ok (.bipush 7, 2) := by decide +kernel
theorem d_Md_sharing_59 : decode c_Md_sharing 59 = .ok (.iand, 1) := by decide +kernel
theorem d_Md_sharing_60 : decode c_Md_sharing 60 = .ok (.iconst (-1), 1) := by decide +kernel
theorem d_Md_sharing_61 : decode c_Md_sharing 61 = .ok (.ixor, 1) := by decide +kernel
theorem d_Md_sharing_62 : decode c_Md_sharing 62 = .ok (.iand, 1) := by decide +kernel
theorem d_Md_sharing_63 : decode c_Md_sharing 63 = .ok (.istore 5, 2) := by decide +kernel
theorem d_Md_sharing_65 : decode c_Md_sharing 65 = .ok (.iload 4, 2) := by decide +kernel
theorem d_Md_sharing_67 : decode c_Md_sharing 67 = .ok (.ifCond .ne 8, 3) := by decide +kernel
theorem d_Md_sharing_70 : decode c_Md_sharing 70 = .ok (.iload 5, 2) := by decide +kernel
theorem d_Md_sharing_72 : decode c_Md_sharing 72 = .ok (.ifCond .eq 5, 3) := by decide +kernel
theorem d_Md_sharing_75 : decode c_Md_sharing 75 = .ok (.iconst 1, 1) := by decide +kernel
theorem d_Md_sharing_76 : decode c_Md_sharing 76 = .ok (.ireturn, 1) := by decide +kernel
theorem d_Md_sharing_77 : decode c_Md_sharing 77 = .ok (.iinc 3 1, 3) := by decide +kernel
theorem d_Md_sharing_80 : decode c_Md_sharing 80 = .ok (.goto (-78), 3) := by decide +kernel
theorem d_Md_sharing_83 : decode c_Md_sharing 83 = .ok (.iconst 0, 1) := by decide +kernel
theorem d_Md_sharing_84 : decode c_Md_sharing 84 = .ok (.ireturn, 1) := by decide +kernel
theorem d_Md_outcome_0 : decode c_Md_outcome 0 = .ok (.iload_n 1, 1) := by decide +kernel
theorem d_Md_outcome_1 : decode c_Md_outcome 1 = .ok (.iconst 1, 1) := by decide +kernel
theorem d_Md_outcome_2 : decode c_Md_outcome 2 = .ok (.aload_n 0, 1) := by decide +kernel
theorem d_Md_outcome_3 : decode c_Md_outcome 3 = .ok (.getfield 88, 3) := by decide +kernel
theorem d_Md_outcome_6 : decode c_Md_outcome 6 = .ok (.invokestatic 45, 3) := by decide +kernel
theorem d_Md_outcome_9 : decode c_Md_outcome 9 = .ok (.ifCond .eq 17, 3) := by decide +kernel
theorem d_Md_outcome_12 : decode c_Md_outcome 12 = .ok (.aload_n 0, 1) := by decide +kernel
theorem d_Md_outcome_13 : decode c_Md_outcome 13 = .ok (.getfield 35, 3) := by decide +kernel
theorem d_Md_outcome_16 : decode c_Md_outcome 16 = .ok (.bipush 6, 2) := by decide +kernel
theorem d_Md_outcome_18 : decode c_Md_outcome 18 = .ok (.iload_n 1, 1) := by decide +kernel
theorem d_Md_outcome_19 : decode c_Md_outcome 19 = .ok (.imul, 1) := by decide +kernel
theorem d_Md_outcome_20 : decode c_Md_outcome 20 = .ok (.iconst 5, 1) := by decide +kernel
theorem d_Md_outcome_21 : decode c_Md_outcome 21 = .ok (.iadd, 1) := by decide +kernel
theorem d_Md_outcome_22 : decode c_Md_outcome 22 = .ok (.iaload, 1) := by decide +kernel
theorem d_Md_outcome_23 : decode c_Md_outcome 23 = .ok (.goto 4, 3) := by decide +kernel
theorem d_Md_outcome_26 : decode c_Md_outcome 26 = .ok (.iconst (-1), 1) := by decide +kernel
theorem d_Md_outcome_27 : decode c_Md_outcome 27 = .ok (.ireturn, 1) := by decide +kernel
theorem d_Md_cancel_0 : decode c_Md_cancel 0 = .ok (.iload_n 1, 1) := by decide +kernel
theorem d_Md_cancel_1 : decode c_Md_cancel 1 = .ok (.iconst 1, 1) := by decide +kernel
theorem d_Md_cancel_2 : decode c_Md_cancel 2 = .ok (.aload_n 0, 1) := by decide +kernel
theorem d_Md_cancel_3 : decode c_Md_cancel 3 = .ok (.getfield 88, 3) := by decide +kernel
theorem d_Md_cancel_6 : decode c_Md_cancel 6 = .ok (.invokestatic 45, 3) := by decide +kernel
theorem d_Md_cancel_9 : decode c_Md_cancel 9 = .ok (.ifCond .eq 17, 3) := by decide +kernel
theorem d_Md_cancel_12 : decode c_Md_cancel 12 = .ok (.aload_n 0, 1) := by decide +kernel
theorem d_Md_cancel_13 : decode c_Md_cancel 13 = .ok (.getfield 35, 3) := by decide +kernel
theorem d_Md_cancel_16 : decode c_Md_cancel 16 = .ok (.bipush 6, 2) := by decide +kernel
theorem d_Md_cancel_18 : decode c_Md_cancel 18 = .ok (.iload_n 1, 1) := by decide +kernel
theorem d_Md_cancel_19 : decode c_Md_cancel 19 = .ok (.imul, 1) := by decide +kernel
theorem d_Md_cancel_20 : decode c_Md_cancel 20 = .ok (.iconst 5, 1) := by decide +kernel
theorem d_Md_cancel_21 : decode c_Md_cancel 21 = .ok (.iadd, 1) := by decide +kernel
theorem d_Md_cancel_22 : decode c_Md_cancel 22 = .ok (.iaload, 1) := by decide +kernel
theorem d_Md_cancel_23 : decode c_Md_cancel 23 = .ok (.ifCond .eq 5, 3) := by decide +kernel
theorem d_Md_cancel_26 : decode c_Md_cancel 26 = .ok (.iconst (-1), 1) := by decide +kernel
theorem d_Md_cancel_27 : decode c_Md_cancel 27 = .ok (.ireturn, 1) := by decide +kernel
theorem d_Md_cancel_28 : decode c_Md_cancel 28 = .ok (.aload_n 0, 1) := by decide +kernel
theorem d_Md_cancel_29 : decode c_Md_cancel 29 = .ok (.getfield 35, 3) := by decide +kernel
theorem d_Md_cancel_32 : decode c_Md_cancel 32 = .ok (.bipush 6, 2) := by decide +kernel
theorem d_Md_cancel_34 : decode c_Md_cancel 34 = .ok (.iload_n 1, 1) := by decide +kernel
theorem d_Md_cancel_35 : decode c_Md_cancel 35 = .ok (.imul, 1) := by decide +kernel
theorem d_Md_cancel_36 : decode c_Md_cancel 36 = .ok (.iconst 5, 1) := by decide +kernel
theorem d_Md_cancel_37 : decode c_Md_cancel 37 = .ok (.iadd, 1) := by decide +kernel
theorem d_Md_cancel_38 : decode c_Md_cancel 38 = .ok (.bipush (-9), 2) := by decide +kernel
theorem d_Md_cancel_40 : decode c_Md_cancel 40 = .ok (.iastore, 1) := by decide +kernel
theorem d_Md_cancel_41 : decode c_Md_cancel 41 = .ok (.iconst 0, 1) := by decide +kernel
theorem d_Md_cancel_42 : decode c_Md_cancel 42 = .ok (.ireturn, 1) := by decide +kernel
theorem d_Md_giveUp_0 : decode c_Md_giveUp 0 = .ok (.aload_n 0, 1) := by decide +kernel
theorem d_Md_giveUp_1 : decode c_Md_giveUp 1 = .ok (.iload_n 1, 1) := by decide +kernel
theorem d_Md_giveUp_2 : decode c_Md_giveUp 2 = .ok (.invokevirtual 94, 3) := by decide +kernel
theorem d_Md_giveUp_5 : decode c_Md_giveUp 5 = .ok (.ifCond .ne 12, 3) := by decide +kernel
theorem d_Md_giveUp_8 : decode c_Md_giveUp 8 = .ok (.aload_n 0, 1) := by decide +kernel
theorem d_Md_giveUp_9 : decode c_Md_giveUp 9 = .ok (.iload_n 1, 1) := by decide +kernel
theorem d_Md_giveUp_10 : decode c_Md_giveUp 10 = .ok (.iconst 3, 1) := by decide +kernel
theorem d_Md_giveUp_11 : decode c_Md_giveUp 11 = .ok (.invokevirtual 49, 3) := by decide +kernel
theorem d_Md_giveUp_14 : decode c_Md_giveUp 14 = .ok (.ifCond .ne 5, 3) := by decide +kernel
theorem d_Md_giveUp_17 : decode c_Md_giveUp 17 = .ok (.iconst (-1), 1) := by decide +kernel
theorem d_Md_giveUp_18 : decode c_Md_giveUp 18 = .ok (.ireturn, 1) := by decide +kernel
theorem d_Md_giveUp_19 : decode c_Md_giveUp 19 = .ok (.aload_n 0, 1) := by decide +kernel
theorem d_Md_giveUp_20 : decode c_Md_giveUp 20 = .ok (.iload_n 1, 1) := by decide +kernel
theorem d_Md_giveUp_21 : decode c_Md_giveUp 21 = .ok (.iconst 3, 1) := by decide +kernel
theorem d_Md_giveUp_22 : decode c_Md_giveUp 22 = .ok (.invokevirtual 49, 3) := by decide +kernel
theorem d_Md_giveUp_25 : decode c_Md_giveUp 25 = .ok (.istore_n 2, 1) := by decide +kernel
theorem d_Md_giveUp_26 : decode c_Md_giveUp 26 = .ok (.aload_n 0, 1) := by decide +kernel
theorem d_Md_giveUp_27 : decode c_Md_giveUp 27 = .ok (.getfield 32, 3) := by decide +kernel
theorem d_Md_giveUp_30 : decode c_Md_giveUp 30 = .ok (.bipush 7, 2) := by decide +kernel
theorem d_Md_giveUp_32 : decode c_Md_giveUp 32 = .ok (.iload_n 1, 1) := by decide +kernel
theorem d_Md_giveUp_33 : decode c_Md_giveUp 33 = .ok (.imul, 1) := by decide +kernel
theorem d_Md_giveUp_34 : decode c_Md_giveUp 34 = .ok (.iconst 3, 1) := by decide +kernel
theorem d_Md_giveUp_35 : decode c_Md_giveUp 35 = .ok (.iadd, 1) := by decide +kernel
theorem d_Md_giveUp_36 : decode c_Md_giveUp 36 = .ok (.iload_n 2, 1) := by decide +kernel
theorem d_Md_giveUp_37 : decode c_Md_giveUp 37 = .ok (.iconst 1, 1) := by decide +kernel
theorem d_Md_giveUp_38 : decode c_Md_giveUp 38 = .ok (.if_icmp .ne 7, 3) := by decide +kernel
theorem d_Md_giveUp_41 : decode c_Md_giveUp 41 = .ok (.iconst 0, 1) := by decide +kernel
theorem d_Md_giveUp_42 : decode c_Md_giveUp 42 = .ok (.goto 4, 3) := by decide +kernel
theorem d_Md_giveUp_45 : decode c_Md_giveUp 45 = .ok (.iconst 1, 1) := by decide +kernel
theorem d_Md_giveUp_46 : decode c_Md_giveUp 46 = .ok (.iastore, 1) := by decide +kernel
theorem d_Md_giveUp_47 : decode c_Md_giveUp 47 = .ok (.iload_n 2, 1) := by decide +kernel
theorem d_Md_giveUp_48 : decode c_Md_giveUp 48 = .ok (.iconst 3, 1) := by decide +kernel
theorem d_Md_giveUp_49 : decode c_Md_giveUp 49 = .ok (.if_icmp .ne 7, 3) := by decide +kernel
theorem d_Md_giveUp_52 : decode c_Md_giveUp 52 = .ok (.aload_n 0, 1) := by decide +kernel
theorem d_Md_giveUp_53 : decode c_Md_giveUp 53 = .ok (.invokevirtual 97, 3) := by decide +kernel
theorem d_Md_giveUp_56 : decode c_Md_giveUp 56 = .ok (.iload_n 2, 1) := by decide +kernel
theorem d_Md_giveUp_57 : decode c_Md_giveUp 57 = .ok (.iconst 1, 1) := by decide +kernel
theorem d_Md_giveUp_58 : decode c_Md_giveUp 58 = .ok (.if_icmp .ne 7, 3) := by decide +kernel
theorem d_Md_giveUp_61 : decode c_Md_giveUp 61 = .ok (.iconst 0, 1) := by decide +kernel
theorem d_Md_giveUp_62 : decode c_Md_giveUp 62 = .ok (.goto 4, 3) := by decide +kernel
theorem d_Md_giveUp_65 : decode c_Md_giveUp 65 = .ok (.iconst 1, 1) := by decide +kernel
theorem d_Md_giveUp_66 : decode c_Md_giveUp 66 = .ok (.ireturn, 1) := by decide +kernel
theorem d_Md_shut_0 : decode c_Md_shut 0 = .ok (.iload_n 1, 1) := by decide +kernel
theorem d_Md_shut_1 : decode c_Md_shut 1 = .ok (.iconst 1, 1) := by decide +kernel
theorem d_Md_shut_2 : decode c_Md_shut 2 = .ok (.aload_n 0, 1) := by decide +kernel
theorem d_Md_shut_3 : decode c_Md_shut 3 = .ok (.getfield 41, 3) := by decide +kernel
theorem d_Md_shut_6 : decode c_Md_shut 6 = .ok (.invokestatic 45, 3) := by decide +kernel
theorem d_Md_shut_9 : decode c_Md_shut 9 = .ok (.ifCond .eq 13, 3) := by decide +kernel
theorem d_Md_shut_12 : decode c_Md_shut 12 = .ok (.aload_n 0, 1) := by decide +kernel
theorem d_Md_shut_13 : decode c_Md_shut 13 = .ok (.iload_n 1, 1) := by decide +kernel
theorem d_Md_shut_14 : decode c_Md_shut 14 = .ok (.bipush 6, 2) := by decide +kernel
theorem d_Md_shut_16 : decode c_Md_shut 16 = .ok (.invokevirtual 49, 3) := by decide +kernel
theorem d_Md_shut_19 : decode c_Md_shut 19 = .ok (.ifCond .ne 7, 3) := by decide +kernel
theorem d_Md_shut_22 : decode c_Md_shut 22 = .ok (.iconst 1, 1) := by decide +kernel
theorem d_Md_shut_23 : decode c_Md_shut 23 = .ok (.goto 4, 3) := by decide +kernel
theorem d_Md_shut_26 : decode c_Md_shut 26 = .ok (.iconst 0, 1) := by decide +kernel
theorem d_Md_shut_27 : decode c_Md_shut 27 = .ok (.ireturn, 1) := by decide +kernel
theorem d_Md_tryAgain_0 : decode c_Md_tryAgain 0 = .ok (.iconst 1, 1) := by decide +kernel
theorem d_Md_tryAgain_1 : decode c_Md_tryAgain 1 = .ok (.istore_n 1, 1) := by decide +kernel
theorem d_Md_tryAgain_2 : decode c_Md_tryAgain 2 = .ok (.iload_n 1, 1) := by decide +kernel
theorem d_Md_tryAgain_3 : decode c_Md_tryAgain 3 = .ok (.aload_n 0, 1) := by decide +kernel
theorem d_Md_tryAgain_4 : decode c_Md_tryAgain 4 = .ok (.getfield 88, 3) := by decide +kernel
theorem d_Md_tryAgain_7 : decode c_Md_tryAgain 7 = .ok (.if_icmp .gt 39, 3) := by decide +kernel
theorem d_Md_tryAgain_10 : decode c_Md_tryAgain 10 = .ok (.aload_n 0, 1) := by decide +kernel
theorem d_Md_tryAgain_11 : decode c_Md_tryAgain 11 = .ok (.getfield 35, 3) := by decide +kernel
theorem d_Md_tryAgain_14 : decode c_Md_tryAgain 14 = .ok (.bipush 6, 2) := by decide +kernel
theorem d_Md_tryAgain_16 : decode c_Md_tryAgain 16 = .ok (.iload_n 1, 1) := by decide +kernel
theorem d_Md_tryAgain_17 : decode c_Md_tryAgain 17 = .ok (.imul, 1) := by decide +kernel
theorem d_Md_tryAgain_18 : decode c_Md_tryAgain 18 = .ok (.iconst 5, 1) := by decide +kernel
theorem d_Md_tryAgain_19 : decode c_Md_tryAgain 19 = .ok (.iadd, 1) := by decide +kernel
theorem d_Md_tryAgain_20 : decode c_Md_tryAgain 20 = .ok (.iaload, 1) := by decide +kernel
theorem d_Md_tryAgain_21 : decode c_Md_tryAgain 21 = .ok (.ifCond .ne 19, 3) := by decide +kernel
theorem d_Md_tryAgain_24 : decode c_Md_tryAgain 24 = .ok (.aload_n 0, 1) := by decide +kernel
theorem d_Md_tryAgain_25 : decode c_Md_tryAgain 25 = .ok (.getfield 35, 3) := by decide +kernel
theorem d_Md_tryAgain_28 : decode c_Md_tryAgain 28 = .ok (.bipush 6, 2) := by decide +kernel
theorem d_Md_tryAgain_30 : decode c_Md_tryAgain 30 = .ok (.iload_n 1, 1) := by decide +kernel
theorem d_Md_tryAgain_31 : decode c_Md_tryAgain 31 = .ok (.imul, 1) := by decide +kernel
theorem d_Md_tryAgain_32 : decode c_Md_tryAgain 32 = .ok (.iconst 5, 1) := by decide +kernel
theorem d_Md_tryAgain_33 : decode c_Md_tryAgain 33 = .ok (.iadd, 1) := by decide +kernel
theorem d_Md_tryAgain_34 : decode c_Md_tryAgain 34 = .ok (.aload_n 0, 1) := by decide +kernel
theorem d_Md_tryAgain_35 : decode c_Md_tryAgain 35 = .ok (.iload_n 1, 1) := by decide +kernel
theorem d_Md_tryAgain_36 : decode c_Md_tryAgain 36 = .ok (.invokevirtual 91, 3) := by decide +kernel
theorem d_Md_tryAgain_39 : decode c_Md_tryAgain 39 = .ok (.iastore, 1) := by decide +kernel
theorem d_Md_tryAgain_40 : decode c_Md_tryAgain 40 = .ok (.iinc 1 1, 3) := by decide +kernel
theorem d_Md_tryAgain_43 : decode c_Md_tryAgain 43 = .ok (.goto (-41), 3) := by decide +kernel
theorem d_Md_tryAgain_46 : decode c_Md_tryAgain 46 = .ok (.return_, 1) := by decide +kernel
theorem d_Md_close_0 : decode c_Md_close 0 = .ok (.aload_n 0, 1) := by decide +kernel
theorem d_Md_close_1 : decode c_Md_close 1 = .ok (.iload_n 1, 1) := by decide +kernel
theorem d_Md_close_2 : decode c_Md_close 2 = .ok (.invokevirtual 94, 3) := by decide +kernel
theorem d_Md_close_5 : decode c_Md_close 5 = .ok (.ifCond .eq 5, 3) := by decide +kernel
theorem d_Md_close_8 : decode c_Md_close 8 = .ok (.iconst (-1), 1) := by decide +kernel
theorem d_Md_close_9 : decode c_Md_close 9 = .ok (.ireturn, 1) := by decide +kernel
theorem d_Md_close_10 : decode c_Md_close 10 = .ok (.aload_n 0, 1) := by decide +kernel
theorem d_Md_close_11 : decode c_Md_close 11 = .ok (.iload_n 1, 1) := by decide +kernel
theorem d_Md_close_12 : decode c_Md_close 12 = .ok (.iconst 0, 1) := by decide +kernel
theorem d_Md_close_13 : decode c_Md_close 13 = .ok (.invokevirtual 49, 3) := by decide +kernel
theorem d_Md_close_16 : decode c_Md_close 16 = .ok (.istore_n 2, 1) := by decide +kernel
theorem d_Md_close_17 : decode c_Md_close 17 = .ok (.aload_n 0, 1) := by decide +kernel
theorem d_Md_close_18 : decode c_Md_close 18 = .ok (.getfield 100, 3) := by decide +kernel
theorem d_Md_close_21 : decode c_Md_close 21 = .ok (.iconst 1, 1) := by decide +kernel
theorem d_Md_close_22 : decode c_Md_close 22 = .ok (.isub, 1) := by decide +kernel
theorem d_Md_close_23 : decode c_Md_close 23 = .ok (.istore_n 3, 1) := by decide +kernel
theorem d_Md_close_24 : decode c_Md_close 24 = .ok (.iload_n 3, 1) := by decide +kernel
theorem d_Md_close_25 : decode c_Md_close 25 = .ok (.ifCond .lt 26, 3) := by decide +kernel
theorem d_Md_close_28 : decode c_Md_close 28 = .ok (.aload_n 0, 1) := by decide +kernel
theorem d_Md_close_29 : decode c_Md_close 29 = .ok (.getfield 38, 3) := by decide +kernel
theorem d_Md_close_32 : decode c_Md_close 32 = .ok (.iconst 4, 1) := by decide +kernel
theorem d_Md_close_33 : decode c_Md_close 33 = .ok (.iload_n 3, 1) := by decide +kernel
theorem d_Md_close_34 : decode c_Md_close 34 = .ok (.imul, 1) := by decide +kernel
theorem d_Md_close_35 : decode c_Md_close 35 = .ok (.iaload, 1) := by decide +kernel
theorem d_Md_close_36 : decode c_Md_close 36 = .ok (.iload_n 1, 1) := by decide +kernel
theorem d_Md_close_37 : decode c_Md_close 37 = .ok (.if_icmp .ne 8, 3) := by decide +kernel
theorem d_Md_close_40 : decode c_Md_close 40 = .ok (.aload_n 0, 1) := by decide +kernel
theorem d_Md_close_41 : decode c_Md_close 41 = .ok (.iload_n 3, 1) := by decide +kernel
theorem d_Md_close_42 : decode c_Md_close 42 = .ok (.invokevirtual 103, 3) := by decide +kernel
theorem d_Md_close_45 : decode c_Md_close 45 = .ok (.iinc 3 (-1), 3) := by decide +kernel
theorem d_Md_close_48 : decode c_Md_close 48 = .ok (.goto (-24), 3) := by decide +kernel
theorem d_Md_close_51 : decode c_Md_close 51 = .ok (.aload_n 0, 1) := by decide +kernel
theorem d_Md_close_52 : decode c_Md_close 52 = .ok (.getfield 32, 3) := by decide +kernel
theorem d_Md_close_55 : decode c_Md_close 55 = .ok (.bipush 7, 2) := by decide +kernel
theorem d_Md_close_57 : decode c_Md_close 57 = .ok (.iload_n 1, 1) := by decide +kernel
theorem d_Md_close_58 : decode c_Md_close 58 = .ok (.imul, 1) := by decide +kernel
theorem d_Md_close_59 : decode c_Md_close 59 = .ok (.bipush 6, 2) := by decide +kernel
theorem d_Md_close_61 : decode c_Md_close 61 = .ok (.iadd, 1) := by decide +kernel
theorem d_Md_close_62 : decode c_Md_close 62 = .ok (.iconst 0, 1) := by decide +kernel
theorem d_Md_close_63 : decode c_Md_close 63 = .ok (.iastore, 1) := by decide +kernel
theorem d_Md_close_64 : decode c_Md_close 64 = .ok (.aload_n 0, 1) := by decide +kernel
theorem d_Md_close_65 : decode c_Md_close 65 = .ok (.getfield 17, 3) := by decide +kernel
theorem d_Md_close_68 : decode c_Md_close 68 = .ok (.iload_n 2, 1) := by decide +kernel
theorem d_Md_close_69 : decode c_Md_close 69 = .ok (.baload, 1) := by decide +kernel
theorem d_Md_close_70 : decode c_Md_close 70 = .ok (.ifCond .eq 11, 3) := by decide +kernel
theorem d_Md_close_73 : decode c_Md_close 73 = .ok (.aload_n 0, 1) := by decide +kernel
theorem d_Md_close_74 : decode c_Md_close 74 = .ok (.iload_n 2, 1) := by decide +kernel
theorem d_Md_close_75 : decode c_Md_close 75 = .ok (.invokevirtual 106, 3) := by decide +kernel
theorem d_Md_close_78 : decode c_Md_close 78 = .ok (.ifCond .ne 7, 3) := by decide +kernel
theorem d_Md_close_81 : decode c_Md_close 81 = .ok (.iconst 1, 1) := by decide +kernel
theorem d_Md_close_82 : decode c_Md_close 82 = .ok (.goto 4, 3) := by decide +kernel
theorem d_Md_close_85 : decode c_Md_close 85 = .ok (.iconst 0, 1) := by decide +kernel
theorem d_Md_close_86 : decode c_Md_close 86 = .ok (.istore_n 3, 1) := by decide +kernel
theorem d_Md_close_87 : decode c_Md_close 87 = .ok (.aload_n 0, 1) := by decide +kernel
theorem d_Md_close_88 : decode c_Md_close 88 = .ok (.iload_n 1, 1) := by decide +kernel
theorem d_Md_close_89 : decode c_Md_close 89 = .ok (.iconst 5, 1) := by decide +kernel
theorem d_Md_close_90 : decode c_Md_close 90 = .ok (.invokevirtual 49, 3) := by decide +kernel
theorem d_Md_close_93 : decode c_Md_close 93 = .ok (.iconst 1, 1) := by decide +kernel
theorem d_Md_close_94 : decode c_Md_close 94 = .ok (.if_icmp .ne 14, 3) := by decide +kernel
theorem d_Md_close_97 : decode c_Md_close 97 = .ok (.iload_n 3, 1) := by decide +kernel
theorem d_Md_close_98 : decode c_Md_close 98 = .ok (.ifCond .eq 10, 3) := by decide +kernel
theorem d_Md_close_101 : decode c_Md_close 101 = .ok (.aload_n 0, 1) := by decide +kernel
theorem d_Md_close_102 : decode c_Md_close 102 = .ok (.getfield 26, 3) := by decide +kernel
theorem d_Md_close_105 : decode c_Md_close 105 = .ok (.iload_n 2, 1) := by decide +kernel
theorem d_Md_close_106 : decode c_Md_close 106 = .ok (.iconst 1, 1) := by decide +kernel
theorem d_Md_close_107 : decode c_Md_close 107 = .ok (.bastore, 1) := by decide +kernel
theorem d_Md_close_108 : decode c_Md_close 108 = .ok (.aload_n 0, 1) := by decide +kernel
theorem d_Md_close_109 : decode c_Md_close 109 = .ok (.getfield 26, 3) := by decide +kernel
theorem d_Md_close_112 : decode c_Md_close 112 = .ok (.iload_n 2, 1) := by decide +kernel
theorem d_Md_close_113 : decode c_Md_close 113 = .ok (.baload, 1) := by decide +kernel
theorem d_Md_close_114 : decode c_Md_close 114 = .ok (.ifCond .eq 31, 3) := by decide +kernel
theorem d_Md_close_117 : decode c_Md_close 117 = .ok (.aload_n 0, 1) := by decide +kernel
theorem d_Md_close_118 : decode c_Md_close 118 = .ok (.iload_n 2, 1) := by decide +kernel
theorem d_Md_close_119 : decode c_Md_close 119 = .ok (.invokevirtual 66, 3) := by decide +kernel
theorem d_Md_close_122 : decode c_Md_close 122 = .ok (.ifCond .ne 23, 3) := by decide +kernel
theorem d_Md_close_125 : decode c_Md_close 125 = .ok (.aload_n 0, 1) := by decide +kernel
theorem d_Md_close_126 : decode c_Md_close 126 = .ok (.getfield 26, 3) := by decide +kernel
theorem d_Md_close_129 : decode c_Md_close 129 = .ok (.iload_n 2, 1) := by decide +kernel
theorem d_Md_close_130 : decode c_Md_close 130 = .ok (.iconst 0, 1) := by decide +kernel
theorem d_Md_close_131 : decode c_Md_close 131 = .ok (.bastore, 1) := by decide +kernel
theorem d_Md_close_132 : decode c_Md_close 132 = .ok (.iload_n 3, 1) := by decide +kernel
theorem d_Md_close_133 : decode c_Md_close 133 = .ok (.ifCond .eq 12, 3) := by decide +kernel
theorem d_Md_close_136 : decode c_Md_close 136 = .ok (.aload_n 0, 1) := by decide +kernel
theorem d_Md_close_137 : decode c_Md_close 137 = .ok (.iconst 2, 1) := by decide +kernel
theorem d_Md_close_138 : decode c_Md_close 138 = .ok (.iload_n 2, 1) := by decide +kernel
theorem d_Md_close_139 : decode c_Md_close 139 = .ok (.iconst 0, 1) := by decide +kernel
theorem d_Md_close_140 : decode c_Md_close 140 = .ok (.iconst 0, 1) := by decide +kernel
theorem d_Md_close_141 : decode c_Md_close 141 = .ok (.iconst 0, 1) := by decide +kernel
theorem d_Md_close_142 : decode c_Md_close 142 = .ok (.invokevirtual 73, 3) := by decide +kernel
theorem d_Md_close_145 : decode c_Md_close 145 = .ok (.aload_n 0, 1) := by decide +kernel
theorem d_Md_close_146 : decode c_Md_close 146 = .ok (.iload_n 1, 1) := by decide +kernel
theorem d_Md_close_147 : decode c_Md_close 147 = .ok (.iconst 3, 1) := by decide +kernel
theorem d_Md_close_148 : decode c_Md_close 148 = .ok (.invokevirtual 49, 3) := by decide +kernel
theorem d_Md_close_151 : decode c_Md_close 151 = .ok (.iconst 3, 1) := by decide +kernel
theorem d_Md_close_152 : decode c_Md_close 152 = .ok (.if_icmp .ne 7, 3) := by decide +kernel
theorem d_Md_close_155 : decode c_Md_close 155 = .ok (.aload_n 0, 1) := by decide +kernel
theorem d_Md_close_156 : decode c_Md_close 156 = .ok (.invokevirtual 97, 3) := by decide +kernel
theorem d_Md_close_159 : decode c_Md_close 159 = .ok (.aload_n 0, 1) := by decide +kernel
theorem d_Md_close_160 : decode c_Md_close 160 = .ok (.iconst (-1), 1) := by decide +kernel
theorem d_Md_close_161 : decode c_Md_close 161 = .ok (.invokevirtual 66, 3) := by decide +kernel
theorem d_Md_close_164 : decode c_Md_close 164 = .ok (.ireturn, 1) := by decide +kernel
theorem d_Md_unlockAt_0 : decode c_Md_unlockAt 0 = .ok (.aload_n 0, 1) := by decide +kernel
theorem d_Md_unlockAt_1 : decode c_Md_unlockAt 1 = .ok (.dup, 1) := by decide +kernel
theorem d_Md_unlockAt_2 : decode c_Md_unlockAt 2 = .ok (.getfield 100, 3) := by decide +kernel
theorem d_Md_unlockAt_5 : decode c_Md_unlockAt 5 = .ok (.iconst 1, 1) := by decide +kernel
theorem d_Md_unlockAt_6 : decode c_Md_unlockAt 6 = .ok (.isub, 1) := by decide +kernel
theorem d_Md_unlockAt_7 : decode c_Md_unlockAt 7 = .ok (.putfield 100, 3) := by decide +kernel
theorem d_Md_unlockAt_10 : decode c_Md_unlockAt 10 = .ok (.iconst 4, 1) := by decide +kernel
theorem d_Md_unlockAt_11 : decode c_Md_unlockAt 11 = .ok (.iload_n 1, 1) := by decide +kernel
theorem d_Md_unlockAt_12 : decode c_Md_unlockAt 12 = .ok (.imul, 1) := by decide +kernel
theorem d_Md_unlockAt_13 : decode c_Md_unlockAt 13 = .ok (.istore_n 2, 1) := by decide +kernel
theorem d_Md_unlockAt_14 : decode c_Md_unlockAt 14 = .ok (.iload_n 2, 1) := by decide +kernel
theorem d_Md_unlockAt_15 : decode c_Md_unlockAt 15 = .ok (.iconst 4, 1) := by decide +kernel
theorem d_Md_unlockAt_16 : decode c_Md_unlockAt 16 = .ok (.aload_n 0, 1) := by decide +kernel
theorem d_Md_unlockAt_17 : decode c_Md_unlockAt 17 = .ok (.getfield 100, 3) := by decide +kernel
theorem d_Md_unlockAt_20 : decode c_Md_unlockAt 20 = .ok (.imul, 1) := by decide +kernel
theorem d_Md_unlockAt_21 : decode c_Md_unlockAt 21 = .ok (.if_icmp .ge 23, 3) := by decide +kernel
theorem d_Md_unlockAt_24 : decode c_Md_unlockAt 24 = .ok (.aload_n 0, 1) := by decide +kernel
theorem d_Md_unlockAt_25 : decode c_Md_unlockAt 25 = .ok (.getfield 38, 3) := by decide +kernel
theorem d_Md_unlockAt_28 : decode c_Md_unlockAt 28 = .ok (.iload_n 2, 1) := by decide +kernel
theorem d_Md_unlockAt_29 : decode c_Md_unlockAt 29 = .ok (.aload_n 0, 1) := by decide +kernel
theorem d_Md_unlockAt_30 : decode c_Md_unlockAt 30 = .ok (.getfield 38, 3) := by decide +kernel
theorem d_Md_unlockAt_33 : decode c_Md_unlockAt 33 = .ok (.iload_n 2, 1) := by decide +kernel
theorem d_Md_unlockAt_34 : decode c_Md_unlockAt 34 = .ok (.iconst 4, 1) := by decide +kernel
theorem d_Md_unlockAt_35 : decode c_Md_unlockAt 35 = .ok (.iadd, 1) := by decide +kernel
theorem d_Md_unlockAt_36 : decode c_Md_unlockAt 36 = .ok (.iaload, 1) := by decide +kernel
theorem d_Md_unlockAt_37 : decode c_Md_unlockAt 37 = .ok (.iastore, 1) := by decide +kernel
theorem d_Md_unlockAt_38 : decode c_Md_unlockAt 38 = .ok (.iinc 2 1, 3) := by decide +kernel
theorem d_Md_unlockAt_41 : decode c_Md_unlockAt 41 = .ok (.goto (-27), 3) := by decide +kernel
theorem d_Md_unlockAt_44 : decode c_Md_unlockAt 44 = .ok (.return_, 1) := by decide +kernel
theorem d_Md_inside_0 : decode c_Md_inside 0 = .ok (.iconst 0, 1) := by decide +kernel
theorem d_Md_inside_1 : decode c_Md_inside 1 = .ok (.istore_n 2, 1) := by decide +kernel
theorem d_Md_inside_2 : decode c_Md_inside 2 = .ok (.iconst 1, 1) := by decide +kernel
theorem d_Md_inside_3 : decode c_Md_inside 3 = .ok (.istore_n 3, 1) := by decide +kernel
theorem d_Md_inside_4 : decode c_Md_inside 4 = .ok (.iload_n 3, 1) := by decide +kernel
theorem d_Md_inside_5 : decode c_Md_inside 5 = .ok (.aload_n 0, 1) := by decide +kernel
theorem d_Md_inside_6 : decode c_Md_inside 6 = .ok (.getfield 53, 3) := by decide +kernel
theorem d_Md_inside_9 : decode c_Md_inside 9 = .ok (.if_icmp .gt 31, 3) := by decide +kernel
theorem d_Md_inside_12 : decode c_Md_inside 12 = .ok (.aload_n 0, 1) := by decide +kernel
theorem d_Md_inside_13 : decode c_Md_inside 13 = .ok (.getfield 13, 3) := by decide +kernel
theorem d_Md_inside_16 : decode c_Md_inside 16 = .ok (.iload_n 3, 1) := by decide +kernel
theorem d_Md_inside_17 : decode c_Md_inside 17 = .ok (.baload, 1) := by decide +kernel
theorem d_Md_inside_18 : decode c_Md_inside 18 = .ok (.ifCond .eq 16, 3) := by decide +kernel
theorem d_Md_inside_21 : decode c_Md_inside 21 = .ok (.aload_n 0, 1) := by decide +kernel
theorem d_Md_inside_22 : decode c_Md_inside 22 = .ok (.getfield 20, 3) := by decide +kernel
theorem d_Md_inside_25 : decode c_Md_inside 25 = .ok (.iload_n 3, 1) := by decide +kernel
theorem d_Md_inside_26 : decode c_Md_inside 26 = .ok (.iaload, 1) := by decide +kernel
theorem d_Md_inside_27 : decode c_Md_inside 27 = .ok (.iload_n 1, 1) := by decide +kernel
theorem d_Md_inside_28 : decode c_Md_inside 28 = .ok (.if_icmp .ne 6, 3) := by decide +kernel
theorem d_Md_inside_31 : decode c_Md_inside 31 = .ok (.iinc 2 1, 3) := by decide +kernel
theorem d_Md_inside_34 : decode c_Md_inside 34 = .ok (.iinc 3 1, 3) := by decide +kernel
theorem d_Md_inside_37 : decode c_Md_inside 37 = .ok (.goto (-33), 3) := by decide +kernel
theorem d_Md_inside_40 : decode c_Md_inside 40 = .ok (.iload_n 2, 1) := by decide +kernel
theorem d_Md_inside_41 : decode c_Md_inside 41 = .ok (.ireturn, 1) := by decide +kernel
theorem d_Md_doom_0 : decode c_Md_doom 0 = .ok (.aload_n 0, 1) := by decide +kernel
theorem d_Md_doom_1 : decode c_Md_doom 1 = .ok (.iload_n 1, 1) := by decide +kernel
theorem d_Md_doom_2 : decode c_Md_doom 2 = .ok (.invokevirtual 94, 3) := by decide +kernel
theorem d_Md_doom_5 : decode c_Md_doom 5 = .ok (.ifCond .ne 14, 3) := by decide +kernel
theorem d_Md_doom_8 : decode c_Md_doom 8 = .ok (.aload_n 0, 1) := by decide +kernel
theorem d_Md_doom_9 : decode c_Md_doom 9 = .ok (.iload_n 1, 1) := by decide +kernel
theorem d_Md_doom_10 : decode c_Md_doom 10 = .ok (.iconst 1, 1) := by decide +kernel
theorem d_Md_doom_11 : decode c_Md_doom 11 = .ok (.invokevirtual 49, 3) := by decide +kernel
theorem d_Md_doom_14 : decode c_Md_doom 14 = .ok (.iconst 4, 1) := by decide +kernel
theorem d_Md_doom_15 : decode c_Md_doom 15 = .ok (.iand, 1) := by decide +kernel
theorem d_Md_doom_16 : decode c_Md_doom 16 = .ok (.ifCond .ne 5, 3) := by decide +kernel
theorem d_Md_doom_19 : decode c_Md_doom 19 = .ok (.iconst (-1), 1) := by decide +kernel
theorem d_Md_doom_20 : decode c_Md_doom 20 = .ok (.ireturn, 1) := by decide +kernel
theorem d_Md_doom_21 : decode c_Md_doom 21 = .ok (.aload_n 0, 1) := by decide +kernel
theorem d_Md_doom_22 : decode c_Md_doom 22 = .ok (.iload_n 1, 1) := by decide +kernel
theorem d_Md_doom_23 : decode c_Md_doom 23 = .ok (.iconst 0, 1) := by decide +kernel
theorem d_Md_doom_24 : decode c_Md_doom 24 = .ok (.invokevirtual 49, 3) := by decide +kernel
theorem d_Md_doom_27 : decode c_Md_doom 27 = .ok (.istore_n 3, 1) := by decide +kernel
theorem d_Md_doom_28 : decode c_Md_doom 28 = .ok (.iload_n 2, 1) := by decide +kernel
theorem d_Md_doom_29 : decode c_Md_doom 29 = .ok (.ifCond .eq 26, 3) := by decide +kernel
theorem d_Md_doom_32 : decode c_Md_doom 32 = .ok (.iload_n 3, 1) := by decide +kernel
theorem d_Md_doom_33 : decode c_Md_doom 33 = .ok (.ifCond .eq 20, 3) := by decide +kernel
theorem d_Md_doom_36 : decode c_Md_doom 36 = .ok (.aload_n 0, 1) := by decide +kernel
theorem d_Md_doom_37 : decode c_Md_doom 37 = .ok (.getfield 17, 3) := by decide +kernel
theorem d_Md_doom_40 : decode c_Md_doom 40 = .ok (.iload_n 3, 1) := by decide +kernel
theorem d_Md_doom_41 : decode c_Md_doom 41 = .ok (.baload, 1) := by decide +kernel
theorem d_Md_doom_42 : decode c_Md_doom 42 = .ok (.ifCond .eq 13, 3) := by decide +kernel
theorem d_Md_doom_45 : decode c_Md_doom 45 = .ok (.aload_n 0, 1) := by decide +kernel
theorem d_Md_doom_46 : decode c_Md_doom 46 = .ok (.iload_n 3, 1) := by decide +kernel
theorem d_Md_doom_47 : decode c_Md_doom 47 = .ok (.invokevirtual 106, 3) := by decide +kernel
theorem d_Md_doom_50 : decode c_Md_doom 50 = .ok (.ifCond .le 5, 3) := by decide +kernel
theorem d_Md_doom_53 : decode c_Md_doom 53 = .ok (.iconst (-1), 1) := by decide +kernel
theorem d_Md_doom_54 : decode c_Md_doom 54 = .ok (.ireturn, 1) := by decide +kernel
theorem d_Md_doom_55 : decode c_Md_doom 55 = .ok (.aload_n 0, 1) := by decide +kernel
theorem d_Md_doom_56 : decode c_Md_doom 56 = .ok (.getfield 26, 3) := by decide +kernel
theorem d_Md_doom_59 : decode c_Md_doom 59 = .ok (.iload_n 3, 1) := by decide +kernel
theorem d_Md_doom_60 : decode c_Md_doom 60 = .ok (.iload_n 2, 1) := by decide +kernel
theorem d_Md_doom_61 : decode c_Md_doom 61 = .ok (.bastore, 1) := by decide +kernel
theorem d_Md_doom_62 : decode c_Md_doom 62 = .ok (.iconst 0, 1) := by decide +kernel
theorem d_Md_doom_63 : decode c_Md_doom 63 = .ok (.ireturn, 1) := by decide +kernel
theorem d_Md_move_0 : decode c_Md_move 0 = .ok (.aload_n 0, 1) := by decide +kernel
theorem d_Md_move_1 : decode c_Md_move 1 = .ok (.iload_n 1, 1) := by decide +kernel
theorem d_Md_move_2 : decode c_Md_move 2 = .ok (.invokevirtual 94, 3) := by decide +kernel
theorem d_Md_move_5 : decode c_Md_move 5 = .ok (.ifCond .ne 23, 3) := by decide +kernel
theorem d_Md_move_8 : decode c_Md_move 8 = .ok (.iload_n 2, 1) := by decide +kernel
theorem d_Md_move_9 : decode c_Md_move 9 = .ok (.iconst 0, 1) := by decide +kernel
theorem d_Md_move_10 : decode c_Md_move 10 = .ok (.bipush 24, 2) := by decide +kernel
theorem d_Md_move_12 : decode c_Md_move 12 = .ok (.invokestatic 45, 3) := by decide +kernel
theorem d_Md_move_15 : decode c_Md_move 15 = .ok (.ifCond .eq 13, 3) := by decide +kernel
theorem d_Md_move_18 : decode c_Md_move 18 = .ok (.iload_n 3, 1) := by decide +kernel
theorem d_Md_move_19 : decode c_Md_move 19 = .ok (.iconst 0, 1) := by decide +kernel
theorem d_Md_move_20 : decode c_Md_move 20 = .ok (.bipush 15, 2) := by decide +kernel
theorem d_Md_move_22 : decode c_Md_move 22 = .ok (.invokestatic 45, 3) := by decide +kernel
theorem d_Md_move_25 : decode c_Md_move 25 = .ok (.ifCond .ne 5, 3) := by decide +kernel
theorem d_Md_move_28 : decode c_Md_move 28 = .ok (.iconst (-1), 1) := by decide +kernel
theorem d_Md_move_29 : decode c_Md_move 29 = .ok (.ireturn, 1) := by decide +kernel
theorem d_Md_move_30 : decode c_Md_move 30 = .ok (.aload_n 0, 1) := by decide +kernel
theorem d_Md_move_31 : decode c_Md_move 31 = .ok (.iload_n 1, 1) := by decide +kernel
theorem d_Md_move_32 : decode c_Md_move 32 = .ok (.iconst 0, 1) := by decide +kernel
theorem d_Md_move_33 : decode c_Md_move 33 = .ok (.invokevirtual 49, 3) := by decide +kernel
theorem d_Md_move_36 : decode c_Md_move 36 = .ok (.istore 4, 2) := by decide +kernel
theorem d_Md_move_38 : decode c_Md_move 38 = .ok (.aload_n 0, 1) := by decide +kernel
theorem d_Md_move_39 : decode c_Md_move 39 = .ok (.iload_n 1, 1) := by decide +kernel
theorem d_Md_move_40 : decode c_Md_move 40 = .ok (.iconst 1, 1) := by decide +kernel
theorem d_Md_move_41 : decode c_Md_move 41 = .ok (.invokevirtual 49, 3) := by decide +kernel
theorem d_Md_move_44 : decode c_Md_move 44 = .ok (.iconst 4, 1) := by decide +kernel
theorem d_Md_move_45 : decode c_Md_move 45 = .ok (.iand, 1) := by decide +kernel
theorem d_Md_move_46 : decode c_Md_move 46 = .ok (.ifCond .eq 8, 3) := by decide +kernel
theorem d_Md_move_49 : decode c_Md_move 49 = .ok (.iload 4, 2) := by decide +kernel
theorem d_Md_move_51 : decode c_Md_move 51 = .ok (.ifCond .ne 5, 3) := by decide +kernel
theorem d_Md_move_54 : decode c_Md_move 54 = .ok (.iconst (-1), 1) := by decide +kernel
theorem d_Md_move_55 : decode c_Md_move 55 = .ok (.ireturn, 1) := by decide +kernel
theorem d_Md_move_56 : decode c_Md_move 56 = .ok (.aload_n 0, 1) := by decide +kernel
theorem d_Md_move_57 : decode c_Md_move 57 = .ok (.getfield 13, 3) := by decide +kernel
theorem d_Md_move_60 : decode c_Md_move 60 = .ok (.iload_n 2, 1) := by decide +kernel
theorem d_Md_move_61 : decode c_Md_move 61 = .ok (.baload, 1) := by decide +kernel
theorem d_Md_move_62 : decode c_Md_move 62 = .ok (.ifCond .eq 12, 3) := by decide +kernel
theorem d_Md_move_65 : decode c_Md_move 65 = .ok (.aload_n 0, 1) := by decide +kernel
theorem d_Md_move_66 : decode c_Md_move 66 = .ok (.getfield 17, 3) := by decide +kernel
theorem d_Md_move_69 : decode c_Md_move 69 = .ok (.iload_n 2, 1) := by decide +kernel
theorem d_Md_move_70 : decode c_Md_move 70 = .ok (.baload, 1) := by decide +kernel
theorem d_Md_move_71 : decode c_Md_move 71 = .ok (.ifCond .ne 6, 3) := by decide +kernel
theorem d_Md_move_74 : decode c_Md_move 74 = .ok (.bipush (-3), 2) := by decide +kernel
theorem d_Md_move_76 : decode c_Md_move 76 = .ok (.ireturn, 1) := by decide +kernel
theorem d_Md_move_77 : decode c_Md_move 77 = .ok (.aload_n 0, 1) := by decide +kernel
theorem d_Md_move_78 : decode c_Md_move 78 = .ok (.getfield 26, 3) := by decide +kernel
theorem d_Md_move_81 : decode c_Md_move 81 = .ok (.iload_n 2, 1) := by decide +kernel
theorem d_Md_move_82 : decode c_Md_move 82 = .ok (.baload, 1) := by decide +kernel
theorem d_Md_move_83 : decode c_Md_move 83 = .ok (.ifCond .eq 6, 3) := by decide +kernel
theorem d_Md_move_86 : decode c_Md_move 86 = .ok (.bipush (-7), 2) := by decide +kernel
theorem d_Md_move_88 : decode c_Md_move 88 = .ok (.ireturn, 1) := by decide +kernel
theorem d_Md_move_89 : decode c_Md_move 89 = .ok (.iload_n 2, 1) := by decide +kernel
theorem d_Md_move_90 : decode c_Md_move 90 = .ok (.istore 5, 2) := by decide +kernel
theorem d_Md_move_92 : decode c_Md_move 92 = .ok (.iload 5, 2) := by decide +kernel
theorem d_Md_move_94 : decode c_Md_move 94 = .ok (.ifCond .lt 24, 3) := by decide +kernel
theorem d_Md_move_97 : decode c_Md_move 97 = .ok (.iload 5, 2) := by decide +kernel
theorem d_Md_move_99 : decode c_Md_move 99 = .ok (.iload 4, 2) := by decide +kernel
theorem d_Md_move_101 : decode c_Md_move 101 = .ok (.if_icmp .ne 5, 3) := by decide +kernel
theorem d_Md_move_104 : decode c_Md_move 104 = .ok (.iconst (-1), 1) := by decide +kernel
theorem d_Md_move_105 : decode c_Md_move 105 = .ok (.ireturn, 1) := by decide +kernel
theorem d_Md_move_106 : decode c_Md_move 106 = .ok (.aload_n 0, 1) := by decide +kernel
theorem d_Md_move_107 : decode c_Md_move 107 = .ok (.getfield 20, 3) := by decide +kernel
theorem d_Md_move_110 : decode c_Md_move 110 = .ok (.iload 5, 2) := by decide +kernel
theorem d_Md_move_112 : decode c_Md_move 112 = .ok (.iaload, 1) := by decide +kernel
theorem d_Md_move_113 : decode c_Md_move 113 = .ok (.istore 5, 2) := by decide +kernel
theorem d_Md_move_115 : decode c_Md_move 115 = .ok (.goto (-23), 3) := by decide +kernel
theorem d_Md_move_118 : decode c_Md_move 118 = .ok (.aload_n 0, 1) := by decide +kernel
theorem d_Md_move_119 : decode c_Md_move 119 = .ok (.iload_n 2, 1) := by decide +kernel
theorem d_Md_move_120 : decode c_Md_move 120 = .ok (.iload_n 3, 1) := by decide +kernel
theorem d_Md_move_121 : decode c_Md_move 121 = .ok (.invokevirtual 70, 3) := by decide +kernel
theorem d_Md_move_124 : decode c_Md_move 124 = .ok (.ifCond .lt 6, 3) := by decide +kernel
theorem d_Md_move_127 : decode c_Md_move 127 = .ok (.bipush (-4), 2) := by decide +kernel
theorem d_Md_move_129 : decode c_Md_move 129 = .ok (.ireturn, 1) := by decide +kernel
theorem d_Md_move_130 : decode c_Md_move 130 = .ok (.aload_n 0, 1) := by decide +kernel
theorem d_Md_move_131 : decode c_Md_move 131 = .ok (.iconst 3, 1) := by decide +kernel
theorem d_Md_move_132 : decode c_Md_move 132 = .ok (.iload 4, 2) := by decide +kernel
theorem d_Md_move_134 : decode c_Md_move 134 = .ok (.iload_n 2, 1) := by decide +kernel
theorem d_Md_move_135 : decode c_Md_move 135 = .ok (.iload_n 3, 1) := by decide +kernel
theorem d_Md_move_136 : decode c_Md_move 136 = .ok (.iconst 0, 1) := by decide +kernel
theorem d_Md_move_137 : decode c_Md_move 137 = .ok (.invokevirtual 73, 3) := by decide +kernel
theorem d_Md_move_140 : decode c_Md_move 140 = .ok (.iconst 0, 1) := by decide +kernel
theorem d_Md_move_141 : decode c_Md_move 141 = .ok (.ireturn, 1) := by decide +kernel
theorem d_Md_read_0 : decode c_Md_read 0 = .ok (.aload_n 0, 1) := by decide +kernel
theorem d_Md_read_1 : decode c_Md_read 1 = .ok (.iload_n 1, 1) := by decide +kernel
theorem d_Md_read_2 : decode c_Md_read 2 = .ok (.iconst 1, 1) := by decide +kernel
theorem d_Md_read_3 : decode c_Md_read 3 = .ok (.iload_n 2, 1) := by decide +kernel
theorem d_Md_read_4 : decode c_Md_read 4 = .ok (.invokevirtual 109, 3) := by decide +kernel
theorem d_Md_read_7 : decode c_Md_read 7 = .ok (.ifCond .ne 5, 3) := by decide +kernel
theorem d_Md_read_10 : decode c_Md_read 10 = .ok (.iconst (-1), 1) := by decide +kernel
theorem d_Md_read_11 : decode c_Md_read 11 = .ok (.ireturn, 1) := by decide +kernel
theorem d_Md_read_12 : decode c_Md_read 12 = .ok (.aload_n 0, 1) := by decide +kernel
theorem d_Md_read_13 : decode c_Md_read 13 = .ok (.iload_n 1, 1) := by decide +kernel
theorem d_Md_read_14 : decode c_Md_read 14 = .ok (.iload_n 2, 1) := by decide +kernel
theorem d_Md_read_15 : decode c_Md_read 15 = .ok (.iload_n 2, 1) := by decide +kernel
theorem d_Md_read_16 : decode c_Md_read 16 = .ok (.iconst 1, 1) := by decide +kernel
theorem d_Md_read_17 : decode c_Md_read 17 = .ok (.iadd, 1) := by decide +kernel
theorem d_Md_read_18 : decode c_Md_read 18 = .ok (.iconst 0, 1) := by decide +kernel
theorem d_Md_read_19 : decode c_Md_read 19 = .ok (.iconst 0, 1) := by decide +kernel
theorem d_Md_read_20 : decode c_Md_read 20 = .ok (.invokevirtual 112, 3) := by decide +kernel
theorem d_Md_read_23 : decode c_Md_read 23 = .ok (.ifCond .eq 6, 3) := by decide +kernel
theorem d_Md_read_26 : decode c_Md_read 26 = .ok (.bipush (-8), 2) := by decide +kernel
theorem d_Md_read_28 : decode c_Md_read 28 = .ok (.ireturn, 1) := by decide +kernel
theorem d_Md_read_29 : decode c_Md_read 29 = .ok (.aload_n 0, 1) := by decide +kernel
theorem d_Md_read_30 : decode c_Md_read 30 = .ok (.aload_n 0, 1) := by decide +kernel
theorem d_Md_read_31 : decode c_Md_read 31 = .ok (.getfield 29, 3) := by decide +kernel
theorem d_Md_read_34 : decode c_Md_read 34 = .ok (.bipush 32, 2) := by decide +kernel
theorem d_Md_read_36 : decode c_Md_read 36 = .ok (.aload_n 0, 1) := by decide +kernel
theorem d_Md_read_37 : decode c_Md_read 37 = .ok (.iload_n 1, 1) := by decide +kernel
theorem d_Md_read_38 : decode c_Md_read 38 = .ok (.iconst 0, 1) := by decide +kernel
theorem d_Md_read_39 : decode c_Md_read 39 = .ok (.invokevirtual 49, 3) := by decide +kernel
theorem d_Md_read_42 : decode c_Md_read 42 = .ok (.imul, 1) := by decide +kernel
theorem d_Md_read_43 : decode c_Md_read 43 = .ok (.iload_n 2, 1) := by decide +kernel
theorem d_Md_read_44 : decode c_Md_read 44 = .ok (.iadd, 1) := by decide +kernel
theorem d_Md_read_45 : decode c_Md_read 45 = .ok (.iaload, 1) := by decide +kernel
theorem d_Md_read_46 : decode c_Md_read 46 = .ok (.putfield 116, 3) := by decide +kernel
theorem d_Md_read_49 : decode c_Md_read 49 = .ok (.iconst 0, 1) := by decide +kernel
theorem d_Md_read_50 : decode c_Md_read 50 = .ok (.ireturn, 1) := by decide +kernel
theorem d_Md_may_0 : decode c_Md_may 0 = .ok (.aload_n 0, 1) := by decide +kernel
theorem d_Md_may_1 : decode c_Md_may 1 = .ok (.iload_n 1, 1) := by decide +kernel
theorem d_Md_may_2 : decode c_Md_may 2 = .ok (.invokevirtual 94, 3) := by decide +kernel
theorem d_Md_may_5 : decode c_Md_may 5 = .ok (.ifCond .ne 43, 3) := by decide +kernel
theorem d_Md_may_8 : decode c_Md_may 8 = .ok (.aload_n 0, 1) := by decide +kernel
theorem d_Md_may_9 : decode c_Md_may 9 = .ok (.iload_n 1, 1) := by decide +kernel
theorem d_Md_may_10 : decode c_Md_may 10 = .ok (.iconst 1, 1) := by decide +kernel
theorem d_Md_may_11 : decode c_Md_may 11 = .ok (.invokevirtual 49, 3) := by decide +kernel
theorem d_Md_may_14 : decode c_Md_may 14 = .ok (.iload_n 2, 1) := by decide +kernel
theorem d_Md_may_15 : decode c_Md_may 15 = .ok (.iand, 1) := by decide +kernel
theorem d_Md_may_16 : decode c_Md_may 16 = .ok (.iload_n 2, 1) := by decide +kernel
theorem d_Md_may_17 : decode c_Md_may 17 = .ok (.if_icmp .ne 31, 3) := by decide +kernel
theorem d_Md_may_20 : decode c_Md_may 20 = .ok (.aload_n 0, 1) := by decide +kernel
theorem d_Md_may_21 : decode c_Md_may 21 = .ok (.getfield 17, 3) := by decide +kernel
theorem d_Md_may_24 : decode c_Md_may 24 = .ok (.aload_n 0, 1) := by decide +kernel
theorem d_Md_may_25 : decode c_Md_may 25 = .ok (.iload_n 1, 1) := by decide +kernel
theorem d_Md_may_26 : decode c_Md_may 26 = .ok (.iconst 0, 1) := by decide +kernel
theorem d_Md_may_27 : decode c_Md_may 27 = .ok (.invokevirtual 49, 3) := by decide +kernel
theorem d_Md_may_30 : decode c_Md_may 30 = .ok (.baload, 1) := by decide +kernel
theorem d_Md_may_31 : decode c_Md_may 31 = .ok (.ifCond .ne 17, 3) := by decide +kernel
theorem d_Md_may_34 : decode c_Md_may 34 = .ok (.iload_n 3, 1) := by decide +kernel
theorem d_Md_may_35 : decode c_Md_may 35 = .ok (.iconst 0, 1) := by decide +kernel
theorem d_Md_may_36 : decode c_Md_may 36 = .ok (.bipush 31, 2) := by decide +kernel
theorem d_Md_may_38 : decode c_Md_may 38 = .ok (.invokestatic 45, 3) := by decide +kernel
theorem d_Md_may_41 : decode c_Md_may 41 = .ok (.ifCond .eq 7, 3) := by decide +kernel
theorem d_Md_may_44 : decode c_Md_may 44 = .ok (.iconst 1, 1) := by decide +kernel
theorem d_Md_may_45 : decode c_Md_may 45 = .ok (.goto 4, 3) := by decide +kernel
theorem d_Md_may_48 : decode c_Md_may 48 = .ok (.iconst 0, 1) := by decide +kernel
theorem d_Md_may_49 : decode c_Md_may 49 = .ok (.ireturn, 1) := by decide +kernel
theorem d_Md_met_0 : decode c_Md_met 0 = .ok (.iconst 0, 1) := by decide +kernel
theorem d_Md_met_1 : decode c_Md_met 1 = .ok (.istore 6, 2) := by decide +kernel
theorem d_Md_met_3 : decode c_Md_met 3 = .ok (.iload 6, 2) := by decide +kernel
theorem d_Md_met_5 : decode c_Md_met 5 = .ok (.aload_n 0, 1) := by decide +kernel
theorem d_Md_met_6 : decode c_Md_met 6 = .ok (.getfield 100, 3) := by decide +kernel
theorem d_Md_met_9 : decode c_Md_met 9 = .ok (.if_icmp .ge 158, 3) := by decide +kernel
theorem d_Md_met_12 : decode c_Md_met 12 = .ok (.iconst 4, 1) := by decide +kernel
theorem d_Md_met_13 : decode c_Md_met 13 = .ok (.iload 6, 2) := by decide +kernel
theorem d_Md_met_15 : decode c_Md_met 15 = .ok (.imul, 1) := by decide +kernel
theorem d_Md_met_16 : decode c_Md_met 16 = .ok (.istore 7, 2) := by decide +kernel
theorem d_Md_met_18 : decode c_Md_met 18 = .ok (.aload_n 0, 1) := by decide +kernel
theorem d_Md_met_19 : decode c_Md_met 19 = .ok (.aload_n 0, 1) := by decide +kernel
theorem d_Md_met_20 : decode c_Md_met 20 = .ok (.getfield 38, 3) := by decide +kernel
theorem d_Md_met_23 : decode c_Md_met 23 = .ok (.iload 7, 2) := by decide +kernel
theorem d_Md_met_25 : decode c_Md_met 25 = .ok (.iaload, 1) := by decide +kernel
theorem d_Md_met_26 : decode c_Md_met 26 = .ok (.iconst 0, 1) := by decide +kernel
theorem d_Md_met_27 : decode c_Md_met 27 = .ok (.invokevirtual 49, 3) := by decide +kernel
theorem d_Md_met_30 : decode c_Md_met 30 = .ok (.aload_n 0, 1) := by decide +kernel
theorem d_Md_met_31 : decode c_Md_met 31 = .ok (.iload_n 1, 1) := by decide +kernel
theorem d_Md_met_32 : decode c_Md_met 32 = .ok (.iconst 0, 1) := by decide +kernel
theorem d_Md_met_33 : decode c_Md_met 33 = .ok (.invokevirtual 49, 3) := by decide +kernel
theorem d_Md_met_36 : decode c_Md_met 36 = .ok (.if_icmp .ne 125, 3) := by decide +kernel
theorem d_Md_met_39 : decode c_Md_met 39 = .ok (.aload_n 0, 1) := by decide +kernel
theorem d_Md_met_40 : decode c_Md_met 40 = .ok (.getfield 38, 3) := by decide +kernel
theorem d_Md_met_43 : decode c_Md_met 43 = .ok (.iload 7, 2) := by decide +kernel
theorem d_Md_met_45 : decode c_Md_met 45 = .ok (.iconst 1, 1) := by decide +kernel
theorem d_Md_met_46 : decode c_Md_met 46 = .ok (.iadd, 1) := by decide +kernel
theorem d_Md_met_47 : decode c_Md_met 47 = .ok (.iaload, 1) := by decide +kernel
theorem d_Md_met_48 : decode c_Md_met 48 = .ok (.iload_n 3, 1) := by decide +kernel
theorem d_Md_met_49 : decode c_Md_met 49 = .ok (.if_icmp .ge 112, 3) := by decide +kernel
theorem d_Md_met_52 : decode c_Md_met 52 = .ok (.aload_n 0, 1) := by decide +kernel
theorem d_Md_met_53 : decode c_Md_met 53 = .ok (.getfield 38, 3) := by decide +kernel
theorem d_Md_met_56 : decode c_Md_met 56 = .ok (.iload 7, 2) := by decide +kernel
theorem d_Md_met_58 : decode c_Md_met 58 = .ok (.iconst 2, 1) := by decide +kernel
theorem d_Md_met_59 : decode c_Md_met 59 = .ok (.iadd, 1) := by decide +kernel
theorem d_Md_met_60 : decode c_Md_met 60 = .ok (.iaload, 1) := by decide +kernel
theorem d_Md_met_61 : decode c_Md_met 61 = .ok (.iload_n 2, 1) := by decide +kernel
theorem d_Md_met_62 : decode c_Md_met 62 = .ok (.if_icmp .gt 6, 3) := by decide +kernel
theorem d_Md_met_65 : decode c_Md_met 65 = .ok (.goto 96, 3) := by decide +kernel
theorem d_Md_met_68 : decode c_Md_met 68 = .ok (.aload_n 0, 1) := by decide +kernel
theorem d_Md_met_69 : decode c_Md_met 69 = .ok (.getfield 38, 3) := by decide +kernel
theorem d_Md_met_72 : decode c_Md_met 72 = .ok (.iload 7, 2) := by decide +kernel
theorem d_Md_met_74 : decode c_Md_met 74 = .ok (.iaload, 1) := by decide +kernel
theorem d_Md_met_75 : decode c_Md_met 75 = .ok (.iload_n 1, 1) := by decide +kernel
theorem d_Md_met_76 : decode c_Md_met 76 = .ok (.if_icmp .ne 7, 3) := by decide +kernel
theorem d_Md_met_79 : decode c_Md_met 79 = .ok (.iconst 1, 1) := by decide +kernel
theorem d_Md_met_80 : decode c_Md_met 80 = .ok (.goto 4, 3) := by decide +kernel
theorem d_Md_met_83 : decode c_Md_met 83 = .ok (.iconst 0, 1) := by decide +kernel
theorem d_Md_met_84 : decode c_Md_met 84 = .ok (.istore 8, 2) := by decide +kernel
theorem d_Md_met_86 : decode c_Md_met 86 = .ok (.iload 4, 2) := by decide +kernel
theorem d_Md_met_88 : decode c_Md_met 88 = .ok (.ifCond .ne 16, 3) := by decide +kernel
theorem d_Md_met_91 : decode c_Md_met 91 = .ok (.aload_n 0, 1) := by decide +kernel
theorem d_Md_met_92 : decode c_Md_met 92 = .ok (.getfield 38, 3) := by decide +kernel
theorem d_Md_met_95 : decode c_Md_met 95 = .ok (.iload 7, 2) := by decide +kernel
theorem d_Md_met_97 : decode c_Md_met 97 = .ok (.iconst 3, 1) := by decide +kernel
theorem d_Md_met_98 : decode c_Md_met 98 = .ok (.iadd, 1) := by decide +kernel
theorem d_Md_met_99 : decode c_Md_met 99 = .ok (.iaload, 1) := by decide +kernel
theorem d_Md_met_100 : decode c_Md_met 100 = .ok (.iconst 1, 1) := by decide +kernel
theorem d_Md_met_101 : decode c_Md_met 101 = .ok (.if_icmp .ne 7, 3) := by decide +kernel
theorem d_Md_met_104 : decode c_Md_met 104 = .ok (.iconst 1, 1) := by decide +kernel
theorem d_Md_met_105 : decode c_Md_met 105 = .ok (.goto 4, 3) := by decide +kernel
theorem d_Md_met_108 : decode c_Md_met 108 = .ok (.iconst 0, 1) := by decide +kernel
theorem d_Md_met_109 : decode c_Md_met 109 = .ok (.istore 9, 2) := by decide +kernel
theorem d_Md_met_111 : decode c_Md_met 111 = .ok (.iload 8, 2) := by decide +kernel
theorem d_Md_met_113 : decode c_Md_met 113 = .ok (.ifCond .eq 28, 3) := by decide +kernel
theorem d_Md_met_116 : decode c_Md_met 116 = .ok (.iload 5, 2) := by decide +kernel
theorem d_Md_met_118 : decode c_Md_met 118 = .ok (.iconst 2, 1) := by decide +kernel
theorem d_Md_met_119 : decode c_Md_met 119 = .ok (.if_icmp .ne 22, 3) := by decide +kernel
theorem d_Md_met_122 : decode c_Md_met 122 = .ok (.aload_n 0, 1) := by decide +kernel
theorem d_Md_met_123 : decode c_Md_met 123 = .ok (.getfield 38, 3) := by decide +kernel
theorem d_Md_met_126 : decode c_Md_met 126 = .ok (.iload 7, 2) := by decide +kernel
theorem d_Md_met_128 : decode c_Md_met 128 = .ok (.iconst 3, 1) := by decide +kernel
theorem d_Md_met_129 : decode c_Md_met 129 = .ok (.iadd, 1) := by decide +kernel
theorem d_Md_met_130 : decode c_Md_met 130 = .ok (.iaload, 1) := by decide +kernel
theorem d_Md_met_131 : decode c_Md_met 131 = .ok (.ifCond .ne 7, 3) := by decide +kernel
theorem d_Md_met_134 : decode c_Md_met 134 = .ok (.iconst 1, 1) := by decide +kernel
theorem d_Md_met_135 : decode c_Md_met 135 = .ok (.goto 4, 3) := by decide +kernel
theorem d_Md_met_138 : decode c_Md_met 138 = .ok (.iconst 0, 1) := by decide +kernel
theorem d_Md_met_139 : decode c_Md_met 139 = .ok (.istore 9, 2) := by decide +kernel
theorem d_Md_met_141 : decode c_Md_met 141 = .ok (.iload 8, 2) := by decide +kernel
theorem d_Md_met_143 : decode c_Md_met 143 = .ok (.ifCond .eq 11, 3) := by decide +kernel
theorem d_Md_met_146 : decode c_Md_met 146 = .ok (.iload 5, 2) := by decide +kernel
theorem d_Md_met_148 : decode c_Md_met 148 = .ok (.ifCond .ne 6, 3) := by decide +kernel
theorem d_Md_met_151 : decode c_Md_met 151 = .ok (.iconst 0, 1) := by decide +kernel
theorem d_Md_met_152 : decode c_Md_met 152 = .ok (.istore 9, 2) := by decide +kernel
theorem d_Md_met_154 : decode c_Md_met 154 = .ok (.iload 9, 2) := by decide +kernel
theorem d_Md_met_156 : decode c_Md_met 156 = .ok (.ifCond .eq 5, 3) := by decide +kernel
theorem d_Md_met_159 : decode c_Md_met 159 = .ok (.iconst 1, 1) := by decide +kernel
theorem d_Md_met_160 : decode c_Md_met 160 = .ok (.ireturn, 1) := by decide +kernel
theorem d_Md_met_161 : decode c_Md_met 161 = .ok (.iinc 6 1, 3) := by decide +kernel
theorem d_Md_met_164 : decode c_Md_met 164 = .ok (.goto (-161), 3) := by decide +kernel
theorem d_Md_met_167 : decode c_Md_met 167 = .ok (.iconst 0, 1) := by decide +kernel
theorem d_Md_met_168 : decode c_Md_met 168 = .ok (.ireturn, 1) := by decide +kernel
theorem d_Md_value_0 : decode c_Md_value 0 = .ok (.aload_n 0, 1) := by decide +kernel
theorem d_Md_value_1 : decode c_Md_value 1 = .ok (.getfield 116, 3) := by decide +kernel
theorem d_Md_value_4 : decode c_Md_value 4 = .ok (.ireturn, 1) := by decide +kernel
theorem d_Md_write_0 : decode c_Md_write 0 = .ok (.aload_n 0, 1) := by decide +kernel
theorem d_Md_write_1 : decode c_Md_write 1 = .ok (.iload_n 1, 1) := by decide +kernel
theorem d_Md_write_2 : decode c_Md_write 2 = .ok (.iconst 2, 1) := by decide +kernel
theorem d_Md_write_3 : decode c_Md_write 3 = .ok (.iload_n 2, 1) := by decide +kernel
theorem d_Md_write_4 : decode c_Md_write 4 = .ok (.invokevirtual 109, 3) := by decide +kernel
theorem d_Md_write_7 : decode c_Md_write 7 = .ok (.ifCond .ne 5, 3) := by decide +kernel
theorem d_Md_write_10 : decode c_Md_write 10 = .ok (.iconst (-1), 1) := by decide +kernel
theorem d_Md_write_11 : decode c_Md_write 11 = .ok (.ireturn, 1) := by decide +kernel
theorem d_Md_write_12 : decode c_Md_write 12 = .ok (.aload_n 0, 1) := by decide +kernel
theorem d_Md_write_13 : decode c_Md_write 13 = .ok (.iload_n 1, 1) := by decide +kernel
theorem d_Md_write_14 : decode c_Md_write 14 = .ok (.iload_n 2, 1) := by decide +kernel
theorem d_Md_write_15 : decode c_Md_write 15 = .ok (.iload_n 2, 1) := by decide +kernel
theorem d_Md_write_16 : decode c_Md_write 16 = .ok (.iconst 1, 1) := by decide +kernel
theorem d_Md_write_17 : decode c_Md_write 17 = .ok (.iadd, 1) := by decide +kernel
theorem d_Md_write_18 : decode c_Md_write 18 = .ok (.iconst 1, 1) := by decide +kernel
theorem d_Md_write_19 : decode c_Md_write 19 = .ok (.iconst 2, 1) := by decide +kernel
theorem d_Md_write_20 : decode c_Md_write 20 = .ok (.invokevirtual 112, 3) := by decide +kernel
theorem d_Md_write_23 : decode c_Md_write 23 = .ok (.ifCond .eq 6, 3) := by decide +kernel
theorem d_Md_write_26 : decode c_Md_write 26 = .ok (.bipush (-8), 2) := by decide +kernel
theorem d_Md_write_28 : decode c_Md_write 28 = .ok (.ireturn, 1) := by decide +kernel
theorem d_Md_write_29 : decode c_Md_write 29 = .ok (.aload_n 0, 1) := by decide +kernel
theorem d_Md_write_30 : decode c_Md_write 30 = .ok (.iconst 4, 1) := by decide +kernel
theorem d_Md_write_31 : decode c_Md_write 31 = .ok (.aload_n 0, 1) := by decide +kernel
theorem d_Md_write_32 : decode c_Md_write 32 = .ok (.iload_n 1, 1) := by decide +kernel
theorem d_Md_write_33 : decode c_Md_write 33 = .ok (.iconst 0, 1) := by decide +kernel
theorem d_Md_write_34 : decode c_Md_write 34 = .ok (.invokevirtual 49, 3) := by decide +kernel
theorem d_Md_write_37 : decode c_Md_write 37 = .ok (.iload_n 2, 1) := by decide +kernel
theorem d_Md_write_38 : decode c_Md_write 38 = .ok (.iload_n 3, 1) := by decide +kernel
theorem d_Md_write_39 : decode c_Md_write 39 = .ok (.iconst 0, 1) := by decide +kernel
theorem d_Md_write_40 : decode c_Md_write 40 = .ok (.invokevirtual 73, 3) := by decide +kernel
theorem d_Md_write_43 : decode c_Md_write 43 = .ok (.iconst 1, 1) := by decide +kernel
theorem d_Md_write_44 : decode c_Md_write 44 = .ok (.istore 4, 2) := by decide +kernel
theorem d_Md_write_46 : decode c_Md_write 46 = .ok (.iload 4, 2) := by decide +kernel
theorem d_Md_write_48 : decode c_Md_write 48 = .ok (.aload_n 0, 1) := by decide +kernel
theorem d_Md_write_49 : decode c_Md_write 49 = .ok (.getfield 41, 3) := by decide +kernel
theorem d_Md_write_52 : decode c_Md_write 52 = .ok (.if_icmp .gt 79, 3) := by decide +kernel
theorem d_Md_write_55 : decode c_Md_write 55 = .ok (.iload 4, 2) := by decide +kernel
theorem d_Md_write_57 : decode c_Md_write 57 = .ok (.iload_n 1, 1) := by decide +kernel
theorem d_Md_write_58 : decode c_Md_write 58 = .ok (.if_icmp .eq 35, 3) := by decide +kernel
theorem d_Md_write_61 : decode c_Md_write 61 = .ok (.aload_n 0, 1) := by decide +kernel
theorem d_Md_write_62 : decode c_Md_write 62 = .ok (.iload 4, 2) := by decide +kernel
theorem d_Md_write_64 : decode c_Md_write 64 = .ok (.bipush 6, 2) := by decide +kernel
theorem d_Md_write_66 : decode c_Md_write 66 = .ok (.invokevirtual 49, 3) := by decide +kernel
theorem d_Md_write_69 : decode c_Md_write 69 = .ok (.iconst 1, 1) := by decide +kernel
theorem d_Md_write_70 : decode c_Md_write 70 = .ok (.if_icmp .ne 23, 3) := by decide +kernel
theorem d_Md_write_73 : decode c_Md_write 73 = .ok (.aload_n 0, 1) := by decide +kernel
theorem d_Md_write_74 : decode c_Md_write 74 = .ok (.iload 4, 2) := by decide +kernel
theorem d_Md_write_76 : decode c_Md_write 76 = .ok (.iconst 0, 1) := by decide +kernel
theorem d_Md_write_77 : decode c_Md_write 77 = .ok (.invokevirtual 49, 3) := by decide +kernel
theorem d_Md_write_80 : decode c_Md_write 80 = .ok (.aload_n 0, 1) := by decide +kernel
theorem d_Md_write_81 : decode c_Md_write 81 = .ok (.iload_n 1, 1) := by decide +kernel
theorem d_Md_write_82 : decode c_Md_write 82 = .ok (.iconst 0, 1) := by decide +kernel
theorem d_Md_write_83 : decode c_Md_write 83 = .ok (.invokevirtual 49, 3) := by decide +kernel
theorem d_Md_write_86 : decode c_Md_write 86 = .ok (.if_icmp .ne 7, 3) := by decide +kernel
theorem d_Md_write_89 : decode c_Md_write 89 = .ok (.iconst 1, 1) := by decide +kernel
theorem d_Md_write_90 : decode c_Md_write 90 = .ok (.goto 4, 3) := by decide +kernel
theorem d_Md_write_93 : decode c_Md_write 93 = .ok (.iconst 0, 1) := by decide +kernel
theorem d_Md_write_94 : decode c_Md_write 94 = .ok (.istore 5, 2) := by decide +kernel
theorem d_Md_write_96 : decode c_Md_write 96 = .ok (.iload 5, 2) := by decide +kernel
theorem d_Md_write_98 : decode c_Md_write 98 = .ok (.ifCond .eq 27, 3) := by decide +kernel
theorem d_Md_write_101 : decode c_Md_write 101 = .ok (.aload_n 0, 1) := by decide +kernel
theorem d_Md_write_102 : decode c_Md_write 102 = .ok (.iload 4, 2) := by decide +kernel
theorem d_Md_write_104 : decode c_Md_write 104 = .ok (.iconst 3, 1) := by decide +kernel
theorem d_Md_write_105 : decode c_Md_write 105 = .ok (.invokevirtual 49, 3) := by decide +kernel
theorem d_Md_write_108 : decode c_Md_write 108 = .ok (.iconst 1, 1) := by decide +kernel
theorem d_Md_write_109 : decode c_Md_write 109 = .ok (.if_icmp .ne 16, 3) := by decide +kernel
theorem d_Md_write_112 : decode c_Md_write 112 = .ok (.aload_n 0, 1) := by decide +kernel
theorem d_Md_write_113 : decode c_Md_write 113 = .ok (.getfield 32, 3) := by decide +kernel
theorem d_Md_write_116 : decode c_Md_write 116 = .ok (.bipush 7, 2) := by decide +kernel
theorem d_Md_write_118 : decode c_Md_write 118 = .ok (.iload 4, 2) := by decide +kernel
theorem d_Md_write_120 : decode c_Md_write 120 = .ok (.imul, 1) := by decide +kernel
theorem d_Md_write_121 : decode c_Md_write 121 = .ok (.iconst 3, 1) := by decide +kernel
theorem d_Md_write_122 : decode c_Md_write 122 = .ok (.iadd, 1) := by decide +kernel
theorem d_Md_write_123 : decode c_Md_write 123 = .ok (.iconst 0, 1) := by decide +kernel
theorem d_Md_write_124 : decode c_Md_write 124 = .ok (.iastore, 1) := by decide +kernel
theorem d_Md_write_125 : decode c_Md_write 125 = .ok (.iinc 4 1, 3) := by decide +kernel
theorem d_Md_write_128 : decode c_Md_write 128 = .ok (.goto (-82), 3) := by decide +kernel
theorem d_Md_write_131 : decode c_Md_write 131 = .ok (.iconst 0, 1) := by decide +kernel
theorem d_Md_write_132 : decode c_Md_write 132 = .ok (.ireturn, 1) := by decide +kernel
theorem d_Md_lock_0 : decode c_Md_lock 0 = .ok (.aload_n 0, 1) := by decide +kernel
theorem d_Md_lock_1 : decode c_Md_lock 1 = .ok (.iload_n 1, 1) := by decide +kernel
theorem d_Md_lock_2 : decode c_Md_lock 2 = .ok (.iload_n 2, 1) := by decide +kernel
theorem d_Md_lock_3 : decode c_Md_lock 3 = .ok (.iload_n 3, 1) := by decide +kernel
theorem d_Md_lock_4 : decode c_Md_lock 4 = .ok (.invokevirtual 119, 3) := by decide +kernel
theorem d_Md_lock_7 : decode c_Md_lock 7 = .ok (.ifCond .eq 5, 3) := by decide +kernel
theorem d_Md_lock_10 : decode c_Md_lock 10 = .ok (.iconst (-1), 1) := by decide +kernel
theorem d_Md_lock_11 : decode c_Md_lock 11 = .ok (.ireturn, 1) := by decide +kernel
theorem d_Md_lock_12 : decode c_Md_lock 12 = .ok (.aload_n 0, 1) := by decide +kernel
theorem d_Md_lock_13 : decode c_Md_lock 13 = .ok (.iload_n 1, 1) := by decide +kernel
theorem d_Md_lock_14 : decode c_Md_lock 14 = .ok (.iload_n 2, 1) := by decide +kernel
theorem d_Md_lock_15 : decode c_Md_lock 15 = .ok (.iload_n 2, 1) := by decide +kernel
theorem d_Md_lock_16 : decode c_Md_lock 16 = .ok (.iload_n 3, 1) := by decide +kernel
theorem d_Md_lock_17 : decode c_Md_lock 17 = .ok (.iadd, 1) := by decide +kernel
theorem d_Md_lock_18 : decode c_Md_lock 18 = .ok (.iload 4, 2) := by decide +kernel
theorem d_Md_lock_20 : decode c_Md_lock 20 = .ok (.iconst 1, 1) := by decide +kernel
theorem d_Md_lock_21 : decode c_Md_lock 21 = .ok (.invokevirtual 112, 3) := by decide +kernel
theorem d_Md_lock_24 : decode c_Md_lock 24 = .ok (.ifCond .eq 6, 3) := by decide +kernel
theorem d_Md_lock_27 : decode c_Md_lock 27 = .ok (.bipush (-8), 2) := by decide +kernel
theorem d_Md_lock_29 : decode c_Md_lock 29 = .ok (.ireturn, 1) := by decide +kernel
theorem d_Md_lock_30 : decode c_Md_lock 30 = .ok (.aload_n 0, 1) := by decide +kernel
theorem d_Md_lock_31 : decode c_Md_lock 31 = .ok (.aload_n 0, 1) := by decide +kernel
theorem d_Md_lock_32 : decode c_Md_lock 32 = .ok (.iload_n 1, 1) := by decide +kernel
theorem d_Md_lock_33 : decode c_Md_lock 33 = .ok (.iconst 0, 1) := by decide +kernel
theorem d_Md_lock_34 : decode c_Md_lock 34 = .ok (.invokevirtual 49, 3) := by decide +kernel
theorem d_Md_lock_37 : decode c_Md_lock 37 = .ok (.invokevirtual 122, 3) := by decide +kernel
theorem d_Md_lock_40 : decode c_Md_lock 40 = .ok (.bipush 8, 2) := by decide +kernel
theorem d_Md_lock_42 : decode c_Md_lock 42 = .ok (.if_icmp .ne 6, 3) := by decide +kernel
theorem d_Md_lock_45 : decode c_Md_lock 45 = .ok (.bipush (-2), 2) := by decide +kernel
theorem d_Md_lock_47 : decode c_Md_lock 47 = .ok (.ireturn, 1) := by decide +kernel
theorem d_Md_lock_48 : decode c_Md_lock 48 = .ok (.iconst 4, 1) := by decide +kernel
theorem d_Md_lock_49 : decode c_Md_lock 49 = .ok (.aload_n 0, 1) := by decide +kernel
theorem d_Md_lock_50 : decode c_Md_lock 50 = .ok (.getfield 100, 3) := by decide +kernel
theorem d_Md_lock_53 : decode c_Md_lock 53 = .ok (.imul, 1) := by decide +kernel
theorem d_Md_lock_54 : decode c_Md_lock 54 = .ok (.istore 5, 2) := by decide +kernel
theorem d_Md_lock_56 : decode c_Md_lock 56 = .ok (.aload_n 0, 1) := by decide +kernel
theorem d_Md_lock_57 : decode c_Md_lock 57 = .ok (.getfield 38, 3) := by decide +kernel
theorem d_Md_lock_60 : decode c_Md_lock 60 = .ok (.iload 5, 2) := by decide +kernel
theorem d_Md_lock_62 : decode c_Md_lock 62 = .ok (.iload_n 1, 1) := by decide +kernel
theorem d_Md_lock_63 : decode c_Md_lock 63 = .ok (.iastore, 1) := by decide +kernel
theorem d_Md_lock_64 : decode c_Md_lock 64 = .ok (.aload_n 0, 1) := by decide +kernel
theorem d_Md_lock_65 : decode c_Md_lock 65 = .ok (.getfield 38, 3) := by decide +kernel
theorem d_Md_lock_68 : decode c_Md_lock 68 = .ok (.iload 5, 2) := by decide +kernel
theorem d_Md_lock_70 : decode c_Md_lock 70 = .ok (.iconst 1, 1) := by decide +kernel
theorem d_Md_lock_71 : decode c_Md_lock 71 = .ok (.iadd, 1) := by decide +kernel
theorem d_Md_lock_72 : decode c_Md_lock 72 = .ok (.iload_n 2, 1) := by decide +kernel
theorem d_Md_lock_73 : decode c_Md_lock 73 = .ok (.iastore, 1) := by decide +kernel
theorem d_Md_lock_74 : decode c_Md_lock 74 = .ok (.aload_n 0, 1) := by decide +kernel
theorem d_Md_lock_75 : decode c_Md_lock 75 = .ok (.getfield 38, 3) := by decide +kernel
theorem d_Md_lock_78 : decode c_Md_lock 78 = .ok (.iload 5, 2) := by decide +kernel
theorem d_Md_lock_80 : decode c_Md_lock 80 = .ok (.iconst 2, 1) := by decide +kernel
theorem d_Md_lock_81 : decode c_Md_lock 81 = .ok (.iadd, 1) := by decide +kernel
theorem d_Md_lock_82 : decode c_Md_lock 82 = .ok (.iload_n 2, 1) := by decide +kernel
theorem d_Md_lock_83 : decode c_Md_lock 83 = .ok (.iload_n 3, 1) := by decide +kernel
theorem d_Md_lock_84 : decode c_Md_lock 84 = .ok (.iadd, 1) := by decide +kernel
theorem d_Md_lock_85 : decode c_Md_lock 85 = .ok (.iastore, 1) := by decide +kernel
theorem d_Md_lock_86 : decode c_Md_lock 86 = .ok (.aload_n 0, 1) := by decide +kernel
theorem d_Md_lock_87 : decode c_Md_lock 87 = .ok (.getfield 38, 3) := by decide +kernel
theorem d_Md_lock_90 : decode c_Md_lock 90 = .ok (.iload 5, 2) := by decide +kernel
theorem d_Md_lock_92 : decode c_Md_lock 92 = .ok (.iconst 3, 1) := by decide +kernel
theorem d_Md_lock_93 : decode c_Md_lock 93 = .ok (.iadd, 1) := by decide +kernel
theorem d_Md_lock_94 : decode c_Md_lock 94 = .ok (.iload 4, 2) := by decide +kernel
theorem d_Md_lock_96 : decode c_Md_lock 96 = .ok (.ifCond .eq 7, 3) := by decide +kernel
theorem d_Md_lock_99 : decode c_Md_lock 99 = .ok (.iconst 1, 1) := by decide +kernel
theorem d_Md_lock_100 : decode c_Md_lock 100 = .ok (.goto 4, 3) := by decide +kernel
theorem d_Md_lock_103 : decode c_Md_lock 103 = .ok (.iconst 0, 1) := by decide +kernel
theorem d_Md_lock_104 : decode c_Md_lock 104 = .ok (.iastore, 1) := by decide +kernel
theorem d_Md_lock_105 : decode c_Md_lock 105 = .ok (.aload_n 0, 1) := by decide +kernel
theorem d_Md_lock_106 : decode c_Md_lock 106 = .ok (.dup, 1) := by decide +kernel
theorem d_Md_lock_107 : decode c_Md_lock 107 = .ok (.getfield 100, 3) := by decide +kernel
theorem d_Md_lock_110 : decode c_Md_lock 110 = .ok (.iconst 1, 1) := by decide +kernel
theorem d_Md_lock_111 : decode c_Md_lock 111 = .ok (.iadd, 1) := by decide +kernel
theorem d_Md_lock_112 : decode c_Md_lock 112 = .ok (.putfield 100, 3) := by decide +kernel
theorem d_Md_lock_115 : decode c_Md_lock 115 = .ok (.aload_n 0, 1) := by decide +kernel
theorem d_Md_lock_116 : decode c_Md_lock 116 = .ok (.aload_n 0, 1) := by decide +kernel
theorem d_Md_lock_117 : decode c_Md_lock 117 = .ok (.iload_n 1, 1) := by decide +kernel
theorem d_Md_lock_118 : decode c_Md_lock 118 = .ok (.iconst 0, 1) := by decide +kernel
theorem d_Md_lock_119 : decode c_Md_lock 119 = .ok (.invokevirtual 49, 3) := by decide +kernel
theorem d_Md_lock_122 : decode c_Md_lock 122 = .ok (.invokevirtual 122, 3) := by decide +kernel
theorem d_Md_lock_125 : decode c_Md_lock 125 = .ok (.ireturn, 1) := by decide +kernel
theorem d_Md_badRange_0 : decode c_Md_badRange 0 = .ok (.aload_n 0, 1) := by decide +kernel
theorem d_Md_badRange_1 : decode c_Md_badRange 1 = .ok (.iload_n 1, 1) := by decide +kernel
theorem d_Md_badRange_2 : decode c_Md_badRange 2 = .ok (.iconst 0, 1) := by decide +kernel
theorem d_Md_badRange_3 : decode c_Md_badRange 3 = .ok (.iload_n 2, 1) := by decide +kernel
theorem d_Md_badRange_4 : decode c_Md_badRange 4 = .ok (.invokevirtual 109, 3) := by decide +kernel
theorem d_Md_badRange_7 : decode c_Md_badRange 7 = .ok (.ifCond .eq 15, 3) := by decide +kernel
theorem d_Md_badRange_10 : decode c_Md_badRange 10 = .ok (.iload_n 3, 1) := by decide +kernel
theorem d_Md_badRange_11 : decode c_Md_badRange 11 = .ok (.iconst 1, 1) := by decide +kernel
theorem d_Md_badRange_12 : decode c_Md_badRange 12 = .ok (.bipush 32, 2) := by decide +kernel
theorem d_Md_badRange_14 : decode c_Md_badRange 14 = .ok (.iload_n 2, 1) := by decide +kernel
theorem d_Md_badRange_15 : decode c_Md_badRange 15 = .ok (.isub, 1) := by decide +kernel
theorem d_Md_badRange_16 : decode c_Md_badRange 16 = .ok (.invokestatic 45, 3) := by decide +kernel
theorem d_Md_badRange_19 : decode c_Md_badRange 19 = .ok (.ifCond .ne 7, 3) := by decide +kernel
theorem d_Md_badRange_22 : decode c_Md_badRange 22 = .ok (.iconst 1, 1) := by decide +kernel
theorem d_Md_badRange_23 : decode c_Md_badRange 23 = .ok (.goto 4, 3) := by decide +kernel
theorem d_Md_badRange_26 : decode c_Md_badRange 26 = .ok (.iconst 0, 1) := by decide +kernel
theorem d_Md_badRange_27 : decode c_Md_badRange 27 = .ok (.ireturn, 1) := by decide +kernel
theorem d_Md_locksOf_0 : decode c_Md_locksOf 0 = .ok (.iconst 0, 1) := by decide +kernel
theorem d_Md_locksOf_1 : decode c_Md_locksOf 1 = .ok (.istore_n 2, 1) := by decide +kernel
theorem d_Md_locksOf_2 : decode c_Md_locksOf 2 = .ok (.iconst 0, 1) := by decide +kernel
theorem d_Md_locksOf_3 : decode c_Md_locksOf 3 = .ok (.istore_n 3, 1) := by decide +kernel
theorem d_Md_locksOf_4 : decode c_Md_locksOf 4 = .ok (.iload_n 3, 1) := by decide +kernel
theorem d_Md_locksOf_5 : decode c_Md_locksOf 5 = .ok (.aload_n 0, 1) := by decide +kernel
theorem d_Md_locksOf_6 : decode c_Md_locksOf 6 = .ok (.getfield 100, 3) := by decide +kernel
theorem d_Md_locksOf_9 : decode c_Md_locksOf 9 = .ok (.if_icmp .ge 29, 3) := by decide +kernel
theorem d_Md_locksOf_12 : decode c_Md_locksOf 12 = .ok (.aload_n 0, 1) := by decide +kernel
theorem d_Md_locksOf_13 : decode c_Md_locksOf 13 = .ok (.aload_n 0, 1) := by decide +kernel
theorem d_Md_locksOf_14 : decode c_Md_locksOf 14 = .ok (.getfield 38, 3) := by decide +kernel
theorem d_Md_locksOf_17 : decode c_Md_locksOf 17 = .ok (.iconst 4, 1) := by decide +kernel
theorem d_Md_locksOf_18 : decode c_Md_locksOf 18 = .ok (.iload_n 3, 1) := by decide +kernel
theorem d_Md_locksOf_19 : decode c_Md_locksOf 19 = .ok (.imul, 1) := by decide +kernel
theorem d_Md_locksOf_20 : decode c_Md_locksOf 20 = .ok (.iaload, 1) := by decide +kernel
theorem d_Md_locksOf_21 : decode c_Md_locksOf 21 = .ok (.iconst 0, 1) := by decide +kernel
theorem d_Md_locksOf_22 : decode c_Md_locksOf 22 = .ok (.invokevirtual 49, 3) := by decide +kernel
theorem d_Md_locksOf_25 : decode c_Md_locksOf 25 = .ok (.iload_n 1, 1) := by decide +kernel
theorem d_Md_locksOf_26 : decode c_Md_locksOf 26 = .ok (.if_icmp .ne 6, 3) := by decide +kernel
theorem d_Md_locksOf_29 : decode c_Md_locksOf 29 = .ok (.iinc 2 1, 3) := by decide +kernel
theorem d_Md_locksOf_32 : decode c_Md_locksOf 32 = .ok (.iinc 3 1, 3) := by decide +kernel
theorem d_Md_locksOf_35 : decode c_Md_locksOf 35 = .ok (.goto (-31), 3) := by decide +kernel
theorem d_Md_locksOf_38 : decode c_Md_locksOf 38 = .ok (.iload_n 2, 1) := by decide +kernel
theorem d_Md_locksOf_39 : decode c_Md_locksOf 39 = .ok (.ireturn, 1) := by decide +kernel
theorem d_Md_unlock_0 : decode c_Md_unlock 0 = .ok (.aload_n 0, 1) := by decide +kernel
theorem d_Md_unlock_1 : decode c_Md_unlock 1 = .ok (.iload_n 1, 1) := by decide +kernel
theorem d_Md_unlock_2 : decode c_Md_unlock 2 = .ok (.iload_n 2, 1) := by decide +kernel
theorem d_Md_unlock_3 : decode c_Md_unlock 3 = .ok (.iload_n 3, 1) := by decide +kernel
theorem d_Md_unlock_4 : decode c_Md_unlock 4 = .ok (.invokevirtual 119, 3) := by decide +kernel
theorem d_Md_unlock_7 : decode c_Md_unlock 7 = .ok (.ifCond .eq 5, 3) := by decide +kernel
theorem d_Md_unlock_10 : decode c_Md_unlock 10 = .ok (.iconst (-1), 1) := by decide +kernel
theorem d_Md_unlock_11 : decode c_Md_unlock 11 = .ok (.ireturn, 1) := by decide +kernel
theorem d_Md_unlock_12 : decode c_Md_unlock 12 = .ok (.iconst 0, 1) := by decide +kernel
theorem d_Md_unlock_13 : decode c_Md_unlock 13 = .ok (.istore 4, 2) := by decide +kernel
theorem d_Md_unlock_15 : decode c_Md_unlock 15 = .ok (.iload 4, 2) := by decide +kernel
theorem d_Md_unlock_17 : decode c_Md_unlock 17 = .ok (.aload_n 0, 1) := by decide +kernel
theorem d_Md_unlock_18 : decode c_Md_unlock 18 = .ok (.getfield 100, 3) := by decide +kernel
theorem d_Md_unlock_21 : decode c_Md_unlock 21 = .ok (.if_icmp .ge 74, 3) := by decide +kernel
theorem d_Md_unlock_24 : decode c_Md_unlock 24 = .ok (.aload_n 0, 1) := by decide +kernel
theorem d_Md_unlock_25 : decode c_Md_unlock 25 = .ok (.getfield 38, 3) := by decide +kernel
theorem d_Md_unlock_28 : decode c_Md_unlock 28 = .ok (.iconst 4, 1) := by decide +kernel
theorem d_Md_unlock_29 : decode c_Md_unlock 29 = .ok (.iload 4, 2) := by decide +kernel
theorem d_Md_unlock_31 : decode c_Md_unlock 31 = .ok (.imul, 1) := by decide +kernel
theorem d_Md_unlock_32 : decode c_Md_unlock 32 = .ok (.iaload, 1) := by decide +kernel
theorem d_Md_unlock_33 : decode c_Md_unlock 33 = .ok (.iload_n 1, 1) := by decide +kernel
theorem d_Md_unlock_34 : decode c_Md_unlock 34 = .ok (.if_icmp .ne 55, 3) := by decide +kernel
theorem d_Md_unlock_37 : decode c_Md_unlock 37 = .ok (.aload_n 0, 1) := by decide +kernel
theorem d_Md_unlock_38 : decode c_Md_unlock 38 = .ok (.getfield 38, 3) := by decide +kernel
theorem d_Md_unlock_41 : decode c_Md_unlock 41 = .ok (.iconst 4, 1) := by decide +kernel
theorem d_Md_unlock_42 : decode c_Md_unlock 42 = .ok (.iload 4, 2) := by decide +kernel
theorem d_Md_unlock_44 : decode c_Md_unlock 44 = .ok (.imul, 1) := by decide +kernel
theorem d_Md_unlock_45 : decode c_Md_unlock 45 = .ok (.iconst 1, 1) := by decide +kernel
theorem d_Md_unlock_46 : decode c_Md_unlock 46 = .ok (.iadd, 1) := by decide +kernel
theorem d_Md_unlock_47 : decode c_Md_unlock 47 = .ok (.iaload, 1) := by decide +kernel
theorem d_Md_unlock_48 : decode c_Md_unlock 48 = .ok (.iload_n 2, 1) := by decide +kernel
theorem d_Md_unlock_49 : decode c_Md_unlock 49 = .ok (.if_icmp .ne 40, 3) := by decide +kernel
theorem d_Md_unlock_52 : decode c_Md_unlock 52 = .ok (.aload_n 0, 1) := by decide +kernel
theorem d_Md_unlock_53 : decode c_Md_unlock 53 = .ok (.getfield 38, 3) := by decide +kernel
theorem d_Md_unlock_56 : decode c_Md_unlock 56 = .ok (.iconst 4, 1) := by decide +kernel
theorem d_Md_unlock_57 : decode c_Md_unlock 57 = .ok (.iload 4, 2) := by decide +kernel
theorem d_Md_unlock_59 : decode c_Md_unlock 59 = .ok (.imul, 1) := by decide +kernel
theorem d_Md_unlock_60 : decode c_Md_unlock 60 = .ok (.iconst 2, 1) := by decide +kernel
theorem d_Md_unlock_61 : decode c_Md_unlock 61 = .ok (.iadd, 1) := by decide +kernel
theorem d_Md_unlock_62 : decode c_Md_unlock 62 = .ok (.iaload, 1) := by decide +kernel
theorem d_Md_unlock_63 : decode c_Md_unlock 63 = .ok (.iload_n 2, 1) := by decide +kernel
theorem d_Md_unlock_64 : decode c_Md_unlock 64 = .ok (.iload_n 3, 1) := by decide +kernel
theorem d_Md_unlock_65 : decode c_Md_unlock 65 = .ok (.iadd, 1) := by decide +kernel
theorem d_Md_unlock_66 : decode c_Md_unlock 66 = .ok (.if_icmp .eq 6, 3) := by decide +kernel
theorem d_Md_unlock_69 : decode c_Md_unlock 69 = .ok (.goto 20, 3) := by decide +kernel
theorem d_Md_unlock_72 : decode c_Md_unlock 72 = .ok (.aload_n 0, 1) := by decide +kernel
theorem d_Md_unlock_73 : decode c_Md_unlock 73 = .ok (.iload 4, 2) := by decide +kernel
theorem d_Md_unlock_75 : decode c_Md_unlock 75 = .ok (.invokevirtual 103, 3) := by decide +kernel
theorem d_Md_unlock_78 : decode c_Md_unlock 78 = .ok (.aload_n 0, 1) := by decide +kernel
theorem d_Md_unlock_79 : decode c_Md_unlock 79 = .ok (.aload_n 0, 1) := by decide +kernel
theorem d_Md_unlock_80 : decode c_Md_unlock 80 = .ok (.iload_n 1, 1) := by decide +kernel
theorem d_Md_unlock_81 : decode c_Md_unlock 81 = .ok (.iconst 0, 1) := by decide +kernel
theorem d_Md_unlock_82 : decode c_Md_unlock 82 = .ok (.invokevirtual 49, 3) := by decide +kernel
theorem d_Md_unlock_85 : decode c_Md_unlock 85 = .ok (.invokevirtual 122, 3) := by decide +kernel
theorem d_Md_unlock_88 : decode c_Md_unlock 88 = .ok (.ireturn, 1) := by decide +kernel
theorem d_Md_unlock_89 : decode c_Md_unlock 89 = .ok (.iinc 4 1, 3) := by decide +kernel
theorem d_Md_unlock_92 : decode c_Md_unlock 92 = .ok (.goto (-77), 3) := by decide +kernel
theorem d_Md_unlock_95 : decode c_Md_unlock 95 = .ok (.iconst (-1), 1) := by decide +kernel
theorem d_Md_unlock_96 : decode c_Md_unlock 96 = .ok (.ireturn, 1) := by decide +kernel
theorem d_Md_sync_0 : decode c_Md_sync 0 = .ok (.aload_n 0, 1) := by decide +kernel
theorem d_Md_sync_1 : decode c_Md_sync 1 = .ok (.aload_n 0, 1) := by decide +kernel
theorem d_Md_sync_2 : decode c_Md_sync 2 = .ok (.getfield 56, 3) := by decide +kernel
theorem d_Md_sync_5 : decode c_Md_sync 5 = .ok (.putfield 63, 3) := by decide +kernel
theorem d_Md_sync_8 : decode c_Md_sync 8 = .ok (.aload_n 0, 1) := by decide +kernel
theorem d_Md_sync_9 : decode c_Md_sync 9 = .ok (.getfield 56, 3) := by decide +kernel
theorem d_Md_sync_12 : decode c_Md_sync 12 = .ok (.ireturn, 1) := by decide +kernel
theorem d_Md_crash_0 : decode c_Md_crash 0 = .ok (.aload_n 0, 1) := by decide +kernel
theorem d_Md_crash_1 : decode c_Md_crash 1 = .ok (.aload_n 0, 1) := by decide +kernel
theorem d_Md_crash_2 : decode c_Md_crash 2 = .ok (.getfield 63, 3) := by decide +kernel
theorem d_Md_crash_5 : decode c_Md_crash 5 = .ok (.putfield 56, 3) := by decide +kernel
theorem d_Md_crash_8 : decode c_Md_crash 8 = .ok (.aload_n 0, 1) := by decide +kernel
theorem d_Md_crash_9 : decode c_Md_crash 9 = .ok (.iconst 0, 1) := by decide +kernel
theorem d_Md_crash_10 : decode c_Md_crash 10 = .ok (.putfield 53, 3) := by decide +kernel
theorem d_Md_crash_13 : decode c_Md_crash 13 = .ok (.iconst 1, 1) := by decide +kernel
theorem d_Md_crash_14 : decode c_Md_crash 14 = .ok (.istore_n 1, 1) := by decide +kernel
theorem d_Md_crash_15 : decode c_Md_crash 15 = .ok (.iload_n 1, 1) := by decide +kernel
theorem d_Md_crash_16 : decode c_Md_crash 16 = .ok (.bipush 25, 2) := by decide +kernel
theorem d_Md_crash_18 : decode c_Md_crash 18 = .ok (.if_icmp .ge 16, 3) := by decide +kernel
theorem d_Md_crash_21 : decode c_Md_crash 21 = .ok (.aload_n 0, 1) := by decide +kernel
theorem d_Md_crash_22 : decode c_Md_crash 22 = .ok (.getfield 13, 3) := by decide +kernel
theorem d_Md_crash_25 : decode c_Md_crash 25 = .ok (.iload_n 1, 1) := by decide +kernel
theorem d_Md_crash_26 : decode c_Md_crash 26 = .ok (.iconst 0, 1) := by decide +kernel
theorem d_Md_crash_27 : decode c_Md_crash 27 = .ok (.bastore, 1) := by decide +kernel
theorem d_Md_crash_28 : decode c_Md_crash 28 = .ok (.iinc 1 1, 3) := by decide +kernel
theorem d_Md_crash_31 : decode c_Md_crash 31 = .ok (.goto (-16), 3) := by decide +kernel
theorem d_Md_crash_34 : decode c_Md_crash 34 = .ok (.iconst 0, 1) := by decide +kernel
theorem d_Md_crash_35 : decode c_Md_crash 35 = .ok (.istore_n 1, 1) := by decide +kernel
theorem d_Md_crash_36 : decode c_Md_crash 36 = .ok (.iload_n 1, 1) := by decide +kernel
theorem d_Md_crash_37 : decode c_Md_crash 37 = .ok (.bipush 25, 2) := by decide +kernel
theorem d_Md_crash_39 : decode c_Md_crash 39 = .ok (.if_icmp .ge 16, 3) := by decide +kernel
theorem d_Md_crash_42 : decode c_Md_crash 42 = .ok (.aload_n 0, 1) := by decide +kernel
theorem d_Md_crash_43 : decode c_Md_crash 43 = .ok (.getfield 26, 3) := by decide +kernel
theorem d_Md_crash_46 : decode c_Md_crash 46 = .ok (.iload_n 1, 1) := by decide +kernel
theorem d_Md_crash_47 : decode c_Md_crash 47 = .ok (.iconst 0, 1) := by decide +kernel
theorem d_Md_crash_48 : decode c_Md_crash 48 = .ok (.bastore, 1) := by decide +kernel
theorem d_Md_crash_49 : decode c_Md_crash 49 = .ok (.iinc 1 1, 3) := by decide +kernel
theorem d_Md_crash_52 : decode c_Md_crash 52 = .ok (.goto (-16), 3) := by decide +kernel
theorem d_Md_crash_55 : decode c_Md_crash 55 = .ok (.iconst 0, 1) := by decide +kernel
theorem d_Md_crash_56 : decode c_Md_crash 56 = .ok (.istore_n 1, 1) := by decide +kernel
theorem d_Md_crash_57 : decode c_Md_crash 57 = .ok (.iload_n 1, 1) := by decide +kernel
theorem d_Md_crash_58 : decode c_Md_crash 58 = .ok (.aload_n 0, 1) := by decide +kernel
theorem d_Md_crash_59 : decode c_Md_crash 59 = .ok (.getfield 56, 3) := by decide +kernel
theorem d_Md_crash_62 : decode c_Md_crash 62 = .ok (.if_icmp .ge 14, 3) := by decide +kernel
theorem d_Md_crash_65 : decode c_Md_crash 65 = .ok (.aload_n 0, 1) := by decide +kernel
theorem d_Md_crash_66 : decode c_Md_crash 66 = .ok (.iload_n 1, 1) := by decide +kernel
theorem d_Md_crash_67 : decode c_Md_crash 67 = .ok (.invokevirtual 59, 3) := by decide +kernel
theorem d_Md_crash_70 : decode c_Md_crash 70 = .ok (.iinc 1 1, 3) := by decide +kernel
theorem d_Md_crash_73 : decode c_Md_crash 73 = .ok (.goto (-16), 3) := by decide +kernel
theorem d_Md_crash_76 : decode c_Md_crash 76 = .ok (.iconst 1, 1) := by decide +kernel
theorem d_Md_crash_77 : decode c_Md_crash 77 = .ok (.istore_n 1, 1) := by decide +kernel
theorem d_Md_crash_78 : decode c_Md_crash 78 = .ok (.iload_n 1, 1) := by decide +kernel
theorem d_Md_crash_79 : decode c_Md_crash 79 = .ok (.aload_n 0, 1) := by decide +kernel
theorem d_Md_crash_80 : decode c_Md_crash 80 = .ok (.getfield 41, 3) := by decide +kernel
theorem d_Md_crash_83 : decode c_Md_crash 83 = .ok (.if_icmp .gt 22, 3) := by decide +kernel
theorem d_Md_crash_86 : decode c_Md_crash 86 = .ok (.aload_n 0, 1) := by decide +kernel
theorem d_Md_crash_87 : decode c_Md_crash 87 = .ok (.getfield 32, 3) := by decide +kernel
theorem d_Md_crash_90 : decode c_Md_crash 90 = .ok (.bipush 7, 2) := by decide +kernel
theorem d_Md_crash_92 : decode c_Md_crash 92 = .ok (.iload_n 1, 1) := by decide +kernel
theorem d_Md_crash_93 : decode c_Md_crash 93 = .ok (.imul, 1) := by decide +kernel
theorem d_Md_crash_94 : decode c_Md_crash 94 = .ok (.bipush 6, 2) := by decide +kernel
theorem d_Md_crash_96 : decode c_Md_crash 96 = .ok (.iadd, 1) := by decide +kernel
theorem d_Md_crash_97 : decode c_Md_crash 97 = .ok (.iconst 0, 1) := by decide +kernel
theorem d_Md_crash_98 : decode c_Md_crash 98 = .ok (.iastore, 1) := by decide +kernel
theorem d_Md_crash_99 : decode c_Md_crash 99 = .ok (.iinc 1 1, 3) := by decide +kernel
theorem d_Md_crash_102 : decode c_Md_crash 102 = .ok (.goto (-24), 3) := by decide +kernel
theorem d_Md_crash_105 : decode c_Md_crash 105 = .ok (.aload_n 0, 1) := by decide +kernel
theorem d_Md_crash_106 : decode c_Md_crash 106 = .ok (.iconst 0, 1) := by decide +kernel
theorem d_Md_crash_107 : decode c_Md_crash 107 = .ok (.putfield 100, 3) := by decide +kernel
theorem d_Md_crash_110 : decode c_Md_crash 110 = .ok (.iconst 1, 1) := by decide +kernel
theorem d_Md_crash_111 : decode c_Md_crash 111 = .ok (.istore_n 1, 1) := by decide +kernel
theorem d_Md_crash_112 : decode c_Md_crash 112 = .ok (.iload_n 1, 1) := by decide +kernel
theorem d_Md_crash_113 : decode c_Md_crash 113 = .ok (.aload_n 0, 1) := by decide +kernel
theorem d_Md_crash_114 : decode c_Md_crash 114 = .ok (.getfield 88, 3) := by decide +kernel
theorem d_Md_crash_117 : decode c_Md_crash 117 = .ok (.if_icmp .gt 36, 3) := by decide +kernel
theorem d_Md_crash_120 : decode c_Md_crash 120 = .ok (.aload_n 0, 1) := by decide +kernel
theorem d_Md_crash_121 : decode c_Md_crash 121 = .ok (.getfield 35, 3) := by decide +kernel
theorem d_Md_crash_124 : decode c_Md_crash 124 = .ok (.bipush 6, 2) := by decide +kernel
theorem d_Md_crash_126 : decode c_Md_crash 126 = .ok (.iload_n 1, 1) := by decide +kernel
theorem d_Md_crash_127 : decode c_Md_crash 127 = .ok (.imul, 1) := by decide +kernel
theorem d_Md_crash_128 : decode c_Md_crash 128 = .ok (.iconst 5, 1) := by decide +kernel
theorem d_Md_crash_129 : decode c_Md_crash 129 = .ok (.iadd, 1) := by decide +kernel
theorem d_Md_crash_130 : decode c_Md_crash 130 = .ok (.iaload, 1) := by decide +kernel
theorem d_Md_crash_131 : decode c_Md_crash 131 = .ok (.ifCond .ne 16, 3) := by decide +kernel
theorem d_Md_crash_134 : decode c_Md_crash 134 = .ok (.aload_n 0, 1) := by decide +kernel
theorem d_Md_crash_135 : decode c_Md_crash 135 = .ok (.getfield 35, 3) := by decide +kernel
theorem d_Md_crash_138 : decode c_Md_crash 138 = .ok (.bipush 6, 2) := by decide +kernel
theorem d_Md_crash_140 : decode c_Md_crash 140 = .ok (.iload_n 1, 1) := by decide +kernel
theorem d_Md_crash_141 : decode c_Md_crash 141 = .ok (.imul, 1) := by decide +kernel
theorem d_Md_crash_142 : decode c_Md_crash 142 = .ok (.iconst 5, 1) := by decide +kernel
theorem d_Md_crash_143 : decode c_Md_crash 143 = .ok (.iadd, 1) := by decide +kernel
theorem d_Md_crash_144 : decode c_Md_crash 144 = .ok (.bipush (-9), 2) := by decide +kernel
theorem d_Md_crash_146 : decode c_Md_crash 146 = .ok (.iastore, 1) := by decide +kernel
theorem d_Md_crash_147 : decode c_Md_crash 147 = .ok (.iinc 1 1, 3) := by decide +kernel
theorem d_Md_crash_150 : decode c_Md_crash 150 = .ok (.goto (-38), 3) := by decide +kernel
theorem d_Md_crash_153 : decode c_Md_crash 153 = .ok (.aload_n 0, 1) := by decide +kernel
theorem d_Md_crash_154 : decode c_Md_crash 154 = .ok (.getfield 56, 3) := by decide +kernel
theorem d_Md_crash_157 : decode c_Md_crash 157 = .ok (.ireturn, 1) := by decide +kernel
theorem d_Md_find_0 : decode c_Md_find 0 = .ok (.iload_n 1, 1) := by decide +kernel
theorem d_Md_find_1 : decode c_Md_find 1 = .ok (.iconst 0, 1) := by decide +kernel
theorem d_Md_find_2 : decode c_Md_find 2 = .ok (.bipush 24, 2) := by decide +kernel
theorem d_Md_find_4 : decode c_Md_find 4 = .ok (.invokestatic 45, 3) := by decide +kernel
theorem d_Md_find_7 : decode c_Md_find 7 = .ok (.ifCond .eq 22, 3) := by decide +kernel
theorem d_Md_find_10 : decode c_Md_find 10 = .ok (.iload_n 2, 1) := by decide +kernel
theorem d_Md_find_11 : decode c_Md_find 11 = .ok (.iconst 0, 1) := by decide +kernel
theorem d_Md_find_12 : decode c_Md_find 12 = .ok (.bipush 15, 2) := by decide +kernel
theorem d_Md_find_14 : decode c_Md_find 14 = .ok (.invokestatic 45, 3) := by decide +kernel
theorem d_Md_find_17 : decode c_Md_find 17 = .ok (.ifCond .eq 12, 3) := by decide +kernel
theorem d_Md_find_20 : decode c_Md_find 20 = .ok (.aload_n 0, 1) := by decide +kernel
theorem d_Md_find_21 : decode c_Md_find 21 = .ok (.iload_n 1, 1) := by decide +kernel
theorem d_Md_find_22 : decode c_Md_find 22 = .ok (.iload_n 2, 1) := by decide +kernel
theorem d_Md_find_23 : decode c_Md_find 23 = .ok (.invokevirtual 70, 3) := by decide +kernel
theorem d_Md_find_26 : decode c_Md_find 26 = .ok (.goto 4, 3) := by decide +kernel
theorem d_Md_find_29 : decode c_Md_find 29 = .ok (.iconst (-1), 1) := by decide +kernel
theorem d_Md_find_30 : decode c_Md_find 30 = .ok (.ireturn, 1) := by decide +kernel
theorem d_Md_node_0 : decode c_Md_node 0 = .ok (.iload_n 1, 1) := by decide +kernel
theorem d_Md_node_1 : decode c_Md_node 1 = .ok (.iconst 0, 1) := by decide +kernel
theorem d_Md_node_2 : decode c_Md_node 2 = .ok (.aload_n 0, 1) := by decide +kernel
theorem d_Md_node_3 : decode c_Md_node 3 = .ok (.getfield 53, 3) := by decide +kernel
theorem d_Md_node_6 : decode c_Md_node 6 = .ok (.invokestatic 45, 3) := by decide +kernel
theorem d_Md_node_9 : decode c_Md_node 9 = .ok (.ifCond .eq 12, 3) := by decide +kernel
theorem d_Md_node_12 : decode c_Md_node 12 = .ok (.aload_n 0, 1) := by decide +kernel
theorem d_Md_node_13 : decode c_Md_node 13 = .ok (.getfield 13, 3) := by decide +kernel
theorem d_Md_node_16 : decode c_Md_node 16 = .ok (.iload_n 1, 1) := by decide +kernel
theorem d_Md_node_17 : decode c_Md_node 17 = .ok (.baload, 1) := by decide +kernel
theorem d_Md_node_18 : decode c_Md_node 18 = .ok (.ifCond .ne 5, 3) := by decide +kernel
theorem d_Md_node_21 : decode c_Md_node 21 = .ok (.iconst (-1), 1) := by decide +kernel
theorem d_Md_node_22 : decode c_Md_node 22 = .ok (.ireturn, 1) := by decide +kernel
theorem d_Md_node_23 : decode c_Md_node 23 = .ok (.iload_n 2, 1) := by decide +kernel
theorem d_Md_node_24 : decode c_Md_node 24 = .ok (.tableswitch 106 0 6 #[44, 51, 58, 73, 88, 94, 100], 44) := by decide +kernel
theorem d_Md_node_68 : decode c_Md_node 68 = .ok (.aload_n 0, 1) := by decide +kernel
theorem d_Md_node_69 : decode c_Md_node 69 = .ok (.getfield 20, 3) := by decide +kernel
theorem d_Md_node_72 : decode c_Md_node 72 = .ok (.iload_n 1, 1) := by decide +kernel
theorem d_Md_node_73 : decode c_Md_node 73 = .ok (.iaload, 1) := by decide +kernel
theorem d_Md_node_74 : decode c_Md_node 74 = .ok (.ireturn, 1) := by decide +kernel
theorem d_Md_node_75 : decode c_Md_node 75 = .ok (.aload_n 0, 1) := by decide +kernel
theorem d_Md_node_76 : decode c_Md_node 76 = .ok (.getfield 23, 3) := by decide +kernel
theorem d_Md_node_79 : decode c_Md_node 79 = .ok (.iload_n 1, 1) := by decide +kernel
theorem d_Md_node_80 : decode c_Md_node 80 = .ok (.iaload, 1) := by decide +kernel
theorem d_Md_node_81 : decode c_Md_node 81 = .ok (.ireturn, 1) := by decide +kernel
theorem d_Md_node_82 : decode c_Md_node 82 = .ok (.aload_n 0, 1) := by decide +kernel
theorem d_Md_node_83 : decode c_Md_node 83 = .ok (.getfield 17, 3) := by decide +kernel
theorem d_Md_node_86 : decode c_Md_node 86 = .ok (.iload_n 1, 1) := by decide +kernel
theorem d_Md_node_87 : decode c_Md_node 87 = .ok (.baload, 1) := by decide +kernel
theorem d_Md_node_88 : decode c_Md_node 88 = .ok (.ifCond .eq 7, 3) := by decide +kernel
theorem d_Md_node_91 : decode c_Md_node 91 = .ok (.iconst 1, 1) := by decide +kernel
theorem d_Md_node_92 : decode c_Md_node 92 = .ok (.goto 4, 3) := by decide +kernel
theorem d_Md_node_95 : decode c_Md_node 95 = .ok (.iconst 0, 1) := by decide +kernel
theorem d_Md_node_96 : decode c_Md_node 96 = .ok (.ireturn, 1) := by decide +kernel
theorem d_Md_node_97 : decode c_Md_node 97 = .ok (.aload_n 0, 1) := by decide +kernel
theorem d_Md_node_98 : decode c_Md_node 98 = .ok (.getfield 26, 3) := by decide +kernel
theorem d_Md_node_101 : decode c_Md_node 101 = .ok (.iload_n 1, 1) := by decide +kernel
theorem d_Md_node_102 : decode c_Md_node 102 = .ok (.baload, 1) := by decide +kernel
theorem d_Md_node_103 : decode c_Md_node 103 = .ok (.ifCond .eq 7, 3) := by decide +kernel
theorem d_Md_node_106 : decode c_Md_node 106 = .ok (.iconst 1, 1) := by decide +kernel
theorem d_Md_node_107 : decode c_Md_node 107 = .ok (.goto 4, 3) := by decide +kernel
theorem d_Md_node_110 : decode c_Md_node 110 = .ok (.iconst 0, 1) := by decide +kernel
theorem d_Md_node_111 : decode c_Md_node 111 = .ok (.ireturn, 1) := by decide +kernel
theorem d_Md_node_112 : decode c_Md_node 112 = .ok (.aload_n 0, 1) := by decide +kernel
theorem d_Md_node_113 : decode c_Md_node 113 = .ok (.iload_n 1, 1) := by decide +kernel
theorem d_Md_node_114 : decode c_Md_node 114 = .ok (.invokevirtual 66, 3) := by decide +kernel
theorem d_Md_node_117 : decode c_Md_node 117 = .ok (.ireturn, 1) := by decide +kernel
theorem d_Md_node_118 : decode c_Md_node 118 = .ok (.aload_n 0, 1) := by decide +kernel
theorem d_Md_node_119 : decode c_Md_node 119 = .ok (.iload_n 1, 1) := by decide +kernel
theorem d_Md_node_120 : decode c_Md_node 120 = .ok (.invokevirtual 122, 3) := by decide +kernel
theorem d_Md_node_123 : decode c_Md_node 123 = .ok (.ireturn, 1) := by decide +kernel
theorem d_Md_node_124 : decode c_Md_node 124 = .ok (.aload_n 0, 1) := by decide +kernel
theorem d_Md_node_125 : decode c_Md_node 125 = .ok (.iload_n 1, 1) := by decide +kernel
theorem d_Md_node_126 : decode c_Md_node 126 = .ok (.invokevirtual 106, 3) := by decide +kernel
theorem d_Md_node_129 : decode c_Md_node 129 = .ok (.ireturn, 1) := by decide +kernel
theorem d_Md_node_130 : decode c_Md_node 130 = .ok (.iconst (-1), 1) := by decide +kernel
theorem d_Md_node_131 : decode c_Md_node 131 = .ok (.ireturn, 1) := by decide +kernel
theorem d_Md_handle_0 : decode c_Md_handle 0 = .ok (.aload_n 0, 1) := by decide +kernel
theorem d_Md_handle_1 : decode c_Md_handle 1 = .ok (.iload_n 1, 1) := by decide +kernel
theorem d_Md_handle_2 : decode c_Md_handle 2 = .ok (.invokevirtual 94, 3) := by decide +kernel
theorem d_Md_handle_5 : decode c_Md_handle 5 = .ok (.ifCond .ne 12, 3) := by decide +kernel
theorem d_Md_handle_8 : decode c_Md_handle 8 = .ok (.iload_n 2, 1) := by decide +kernel
theorem d_Md_handle_9 : decode c_Md_handle 9 = .ok (.iconst 0, 1) := by decide +kernel
theorem d_Md_handle_10 : decode c_Md_handle 10 = .ok (.iconst 4, 1) := by decide +kernel
theorem d_Md_handle_11 : decode c_Md_handle 11 = .ok (.invokestatic 45, 3) := by decide +kernel
theorem d_Md_handle_14 : decode c_Md_handle 14 = .ok (.ifCond .ne 7, 3) := by decide +kernel
theorem d_Md_handle_17 : decode c_Md_handle 17 = .ok (.iconst (-1), 1) := by decide +kernel
theorem d_Md_handle_18 : decode c_Md_handle 18 = .ok (.goto 9, 3) := by decide +kernel
theorem d_Md_handle_21 : decode c_Md_handle 21 = .ok (.aload_n 0, 1) := by decide +kernel
theorem d_Md_handle_22 : decode c_Md_handle 22 = .ok (.iload_n 1, 1) := by decide +kernel
theorem d_Md_handle_23 : decode c_Md_handle 23 = .ok (.iload_n 2, 1) := by decide +kernel
theorem d_Md_handle_24 : decode c_Md_handle 24 = .ok (.invokevirtual 49, 3) := by decide +kernel
theorem d_Md_handle_27 : decode c_Md_handle 27 = .ok (.ireturn, 1) := by decide +kernel
theorem d_Md_count_0 : decode c_Md_count 0 = .ok (.iload_n 1, 1) := by decide +kernel
theorem d_Md_count_1 : decode c_Md_count 1 = .ok (.tableswitch 111 0 6 #[43, 48, 54, 91, 96, 101, 106], 43) := by decide +kernel
theorem d_Md_count_44 : decode c_Md_count 44 = .ok (.aload_n 0, 1) := by decide +kernel
theorem d_Md_count_45 : decode c_Md_count 45 = .ok (.getfield 53, 3) := by decide +kernel
theorem d_Md_count_48 : decode c_Md_count 48 = .ok (.ireturn, 1) := by decide +kernel
theorem d_Md_count_49 : decode c_Md_count 49 = .ok (.aload_n 0, 1) := by decide +kernel
theorem d_Md_count_50 : decode c_Md_count 50 = .ok (.iconst (-1), 1) := by decide +kernel
theorem d_Md_count_51 : decode c_Md_count 51 = .ok (.invokevirtual 66, 3) := by decide +kernel
theorem d_Md_count_54 : decode c_Md_count 54 = .ok (.ireturn, 1) := by decide +kernel
theorem d_Md_count_55 : decode c_Md_count 55 = .ok (.iconst 0, 1) := by decide +kernel
theorem d_Md_count_56 : decode c_Md_count 56 = .ok (.istore_n 2, 1) := by decide +kernel
theorem d_Md_count_57 : decode c_Md_count 57 = .ok (.iconst 1, 1) := by decide +kernel
theorem d_Md_count_58 : decode c_Md_count 58 = .ok (.istore_n 3, 1) := by decide +kernel
theorem d_Md_count_59 : decode c_Md_count 59 = .ok (.iload_n 3, 1) := by decide +kernel
theorem d_Md_count_60 : decode c_Md_count 60 = .ok (.aload_n 0, 1) := by decide +kernel
theorem d_Md_count_61 : decode c_Md_count 61 = .ok (.getfield 88, 3) := by decide +kernel
theorem d_Md_count_64 : decode c_Md_count 64 = .ok (.if_icmp .gt 26, 3) := by decide +kernel
theorem d_Md_count_67 : decode c_Md_count 67 = .ok (.aload_n 0, 1) := by decide +kernel
theorem d_Md_count_68 : decode c_Md_count 68 = .ok (.getfield 35, 3) := by decide +kernel
theorem d_Md_count_71 : decode c_Md_count 71 = .ok (.bipush 6, 2) := by decide +kernel
theorem d_Md_count_73 : decode c_Md_count 73 = .ok (.iload_n 3, 1) := by decide +kernel
theorem d_Md_count_74 : decode c_Md_count 74 = .ok (.imul, 1) := by decide +kernel
theorem d_Md_count_75 : decode c_Md_count 75 = .ok (.iconst 5, 1) := by decide +kernel
theorem d_Md_count_76 : decode c_Md_count 76 = .ok (.iadd, 1) := by decide +kernel
theorem d_Md_count_77 : decode c_Md_count 77 = .ok (.iaload, 1) := by decide +kernel
theorem d_Md_count_78 : decode c_Md_count 78 = .ok (.ifCond .ne 6, 3) := by decide +kernel
theorem d_Md_count_81 : decode c_Md_count 81 = .ok (.iinc 2 1, 3) := by decide +kernel
theorem d_Md_count_84 : decode c_Md_count 84 = .ok (.iinc 3 1, 3) := by decide +kernel
theorem d_Md_count_87 : decode c_Md_count 87 = .ok (.goto (-28), 3) := by decide +kernel
theorem d_Md_count_90 : decode c_Md_count 90 = .ok (.iload_n 2, 1) := by decide +kernel
theorem d_Md_count_91 : decode c_Md_count 91 = .ok (.ireturn, 1) := by decide +kernel
theorem d_Md_count_92 : decode c_Md_count 92 = .ok (.aload_n 0, 1) := by decide +kernel
theorem d_Md_count_93 : decode c_Md_count 93 = .ok (.getfield 56, 3) := by decide +kernel
theorem d_Md_count_96 : decode c_Md_count 96 = .ok (.ireturn, 1) := by decide +kernel
theorem d_Md_count_97 : decode c_Md_count 97 = .ok (.aload_n 0, 1) := by decide +kernel
theorem d_Md_count_98 : decode c_Md_count 98 = .ok (.getfield 63, 3) := by decide +kernel
theorem d_Md_count_101 : decode c_Md_count 101 = .ok (.ireturn, 1) := by decide +kernel
theorem d_Md_count_102 : decode c_Md_count 102 = .ok (.aload_n 0, 1) := by decide +kernel
theorem d_Md_count_103 : decode c_Md_count 103 = .ok (.getfield 88, 3) := by decide +kernel
theorem d_Md_count_106 : decode c_Md_count 106 = .ok (.ireturn, 1) := by decide +kernel
theorem d_Md_count_107 : decode c_Md_count 107 = .ok (.aload_n 0, 1) := by decide +kernel
theorem d_Md_count_108 : decode c_Md_count 108 = .ok (.getfield 41, 3) := by decide +kernel
theorem d_Md_count_111 : decode c_Md_count 111 = .ok (.ireturn, 1) := by decide +kernel
theorem d_Md_count_112 : decode c_Md_count 112 = .ok (.iconst (-1), 1) := by decide +kernel
theorem d_Md_count_113 : decode c_Md_count 113 = .ok (.ireturn, 1) := by decide +kernel
theorem d_Lw_law_0 : decode c_Lw_law 0 = .ok (.new 7, 3) := by decide +kernel
theorem d_Lw_law_3 : decode c_Lw_law 3 = .ok (.dup, 1) := by decide +kernel
theorem d_Lw_law_4 : decode c_Lw_law 4 = .ok (.invokespecial 9, 3) := by decide +kernel
theorem d_Lw_law_7 : decode c_Lw_law 7 = .ok (.astore_n 1, 1) := by decide +kernel
theorem d_Lw_law_8 : decode c_Lw_law 8 = .ok (.new 10, 3) := by decide +kernel
theorem d_Lw_law_11 : decode c_Lw_law 11 = .ok (.dup, 1) := by decide +kernel
theorem d_Lw_law_12 : decode c_Lw_law 12 = .ok (.invokespecial 12, 3) := by decide +kernel
theorem d_Lw_law_15 : decode c_Lw_law 15 = .ok (.astore_n 2, 1) := by decide +kernel
theorem d_Lw_law_16 : decode c_Lw_law 16 = .ok (.iconst 0, 1) := by decide +kernel
theorem d_Lw_law_17 : decode c_Lw_law 17 = .ok (.istore_n 3, 1) := by decide +kernel
theorem d_Lw_law_18 : decode c_Lw_law 18 = .ok (.iload_n 3, 1) := by decide +kernel
theorem d_Lw_law_19 : decode c_Lw_law 19 = .ok (.aload_n 0, 1) := by decide +kernel
theorem d_Lw_law_20 : decode c_Lw_law 20 = .ok (.arraylength, 1) := by decide +kernel
theorem d_Lw_law_21 : decode c_Lw_law 21 = .ok (.bipush 6, 2) := by decide +kernel
theorem d_Lw_law_23 : decode c_Lw_law 23 = .ok (.isub, 1) := by decide +kernel
theorem d_Lw_law_24 : decode c_Lw_law 24 = .ok (.if_icmp .gt 698, 3) := by decide +kernel
theorem d_Lw_law_27 : decode c_Lw_law 27 = .ok (.aload_n 0, 1) := by decide +kernel
theorem d_Lw_law_28 : decode c_Lw_law 28 = .ok (.iload_n 3, 1) := by decide +kernel
theorem d_Lw_law_29 : decode c_Lw_law 29 = .ok (.iaload, 1) := by decide +kernel
theorem d_Lw_law_30 : decode c_Lw_law 30 = .ok (.bipush 31, 2) := by decide +kernel
theorem d_Lw_law_32 : decode c_Lw_law 32 = .ok (.iand, 1) := by decide +kernel
theorem d_Lw_law_33 : decode c_Lw_law 33 = .ok (.tableswitch 683 0 17 #[87, 150, 173, 196, 219, 242, 291, 334, 367, 380, 423, 492, 535, 548, 561, 594, 627, 660], 87) := by decide +kernel
theorem d_Lw_law_120 : decode c_Lw_law 120 = .ok (.aload_n 1, 1) := by decide +kernel
theorem d_Lw_law_121 : decode c_Lw_law 121 = .ok (.aload_n 0, 1) := by decide +kernel
theorem d_Lw_law_122 : decode c_Lw_law 122 = .ok (.iload_n 3, 1) := by decide +kernel
theorem d_Lw_law_123 : decode c_Lw_law 123 = .ok (.iconst 1, 1) := by decide +kernel
theorem d_Lw_law_124 : decode c_Lw_law 124 = .ok (.iadd, 1) := by decide +kernel
theorem d_Lw_law_125 : decode c_Lw_law 125 = .ok (.iaload, 1) := by decide +kernel
theorem d_Lw_law_126 : decode c_Lw_law 126 = .ok (.aload_n 0, 1) := by decide +kernel
theorem d_Lw_law_127 : decode c_Lw_law 127 = .ok (.iload_n 3, 1) := by decide +kernel
theorem d_Lw_law_128 : decode c_Lw_law 128 = .ok (.iconst 2, 1) := by decide +kernel
theorem d_Lw_law_129 : decode c_Lw_law 129 = .ok (.iadd, 1) := by decide +kernel
theorem d_Lw_law_130 : decode c_Lw_law 130 = .ok (.iaload, 1) := by decide +kernel
theorem d_Lw_law_131 : decode c_Lw_law 131 = .ok (.aload_n 0, 1) := by decide +kernel
theorem d_Lw_law_132 : decode c_Lw_law 132 = .ok (.iload_n 3, 1) := by decide +kernel
theorem d_Lw_law_133 : decode c_Lw_law 133 = .ok (.iconst 3, 1) := by decide +kernel
theorem d_Lw_law_134 : decode c_Lw_law 134 = .ok (.iadd, 1) := by decide +kernel
theorem d_Lw_law_135 : decode c_Lw_law 135 = .ok (.iaload, 1) := by decide +kernel
theorem d_Lw_law_136 : decode c_Lw_law 136 = .ok (.aload_n 0, 1) := by decide +kernel
theorem d_Lw_law_137 : decode c_Lw_law 137 = .ok (.iload_n 3, 1) := by decide +kernel
theorem d_Lw_law_138 : decode c_Lw_law 138 = .ok (.iconst 4, 1) := by decide +kernel
theorem d_Lw_law_139 : decode c_Lw_law 139 = .ok (.iadd, 1) := by decide +kernel
theorem d_Lw_law_140 : decode c_Lw_law 140 = .ok (.iaload, 1) := by decide +kernel
theorem d_Lw_law_141 : decode c_Lw_law 141 = .ok (.aload_n 0, 1) := by decide +kernel
theorem d_Lw_law_142 : decode c_Lw_law 142 = .ok (.iload_n 3, 1) := by decide +kernel
theorem d_Lw_law_143 : decode c_Lw_law 143 = .ok (.iconst 5, 1) := by decide +kernel
theorem d_Lw_law_144 : decode c_Lw_law 144 = .ok (.iadd, 1) := by decide +kernel
theorem d_Lw_law_145 : decode c_Lw_law 145 = .ok (.iaload, 1) := by decide +kernel
theorem d_Lw_law_146 : decode c_Lw_law 146 = .ok (.invokevirtual 13, 3) := by decide +kernel
theorem d_Lw_law_149 : decode c_Lw_law 149 = .ok (.aload_n 2, 1) := by decide +kernel
theorem d_Lw_law_150 : decode c_Lw_law 150 = .ok (.aload_n 0, 1) := by decide +kernel
theorem d_Lw_law_151 : decode c_Lw_law 151 = .ok (.iload_n 3, 1) := by decide +kernel
theorem d_Lw_law_152 : decode c_Lw_law 152 = .ok (.iconst 1, 1) := by decide +kernel
theorem d_Lw_law_153 : decode c_Lw_law 153 = .ok (.iadd, 1) := by decide +kernel
theorem d_Lw_law_154 : decode c_Lw_law 154 = .ok (.iaload, 1) := by decide +kernel
theorem d_Lw_law_155 : decode c_Lw_law 155 = .ok (.aload_n 0, 1) := by decide +kernel
theorem d_Lw_law_156 : decode c_Lw_law 156 = .ok (.iload_n 3, 1) := by decide +kernel
theorem d_Lw_law_157 : decode c_Lw_law 157 = .ok (.iconst 2, 1) := by decide +kernel
theorem d_Lw_law_158 : decode c_Lw_law 158 = .ok (.iadd, 1) := by decide +kernel
theorem d_Lw_law_159 : decode c_Lw_law 159 = .ok (.iaload, 1) := by decide +kernel
theorem d_Lw_law_160 : decode c_Lw_law 160 = .ok (.aload_n 0, 1) := by decide +kernel
theorem d_Lw_law_161 : decode c_Lw_law 161 = .ok (.iload_n 3, 1) := by decide +kernel
theorem d_Lw_law_162 : decode c_Lw_law 162 = .ok (.iconst 3, 1) := by decide +kernel
theorem d_Lw_law_163 : decode c_Lw_law 163 = .ok (.iadd, 1) := by decide +kernel
theorem d_Lw_law_164 : decode c_Lw_law 164 = .ok (.iaload, 1) := by decide +kernel
theorem d_Lw_law_165 : decode c_Lw_law 165 = .ok (.aload_n 0, 1) := by decide +kernel
theorem d_Lw_law_166 : decode c_Lw_law 166 = .ok (.iload_n 3, 1) := by decide +kernel
theorem d_Lw_law_167 : decode c_Lw_law 167 = .ok (.iconst 4, 1) := by decide +kernel
theorem d_Lw_law_168 : decode c_Lw_law 168 = .ok (.iadd, 1) := by decide +kernel
theorem d_Lw_law_169 : decode c_Lw_law 169 = .ok (.iaload, 1) := by decide +kernel
theorem d_Lw_law_170 : decode c_Lw_law 170 = .ok (.aload_n 0, 1) := by decide +kernel
theorem d_Lw_law_171 : decode c_Lw_law 171 = .ok (.iload_n 3, 1) := by decide +kernel
theorem d_Lw_law_172 : decode c_Lw_law 172 = .ok (.iconst 5, 1) := by decide +kernel
theorem d_Lw_law_173 : decode c_Lw_law 173 = .ok (.iadd, 1) := by decide +kernel
theorem d_Lw_law_174 : decode c_Lw_law 174 = .ok (.iaload, 1) := by decide +kernel
theorem d_Lw_law_175 : decode c_Lw_law 175 = .ok (.invokevirtual 17, 3) := by decide +kernel
theorem d_Lw_law_178 : decode c_Lw_law 178 = .ok (.if_icmp .eq 538, 3) := by decide +kernel
theorem d_Lw_law_181 : decode c_Lw_law 181 = .ok (.iconst 0, 1) := by decide +kernel
theorem d_Lw_law_182 : decode c_Lw_law 182 = .ok (.ireturn, 1) := by decide +kernel
theorem d_Lw_law_183 : decode c_Lw_law 183 = .ok (.aload_n 1, 1) := by decide +kernel
theorem d_Lw_law_184 : decode c_Lw_law 184 = .ok (.aload_n 0, 1) := by decide +kernel
theorem d_Lw_law_185 : decode c_Lw_law 185 = .ok (.iload_n 3, 1) := by decide +kernel
theorem d_Lw_law_186 : decode c_Lw_law 186 = .ok (.iconst 1, 1) := by decide +kernel
theorem d_Lw_law_187 : decode c_Lw_law 187 = .ok (.iadd, 1) := by decide +kernel
theorem d_Lw_law_188 : decode c_Lw_law 188 = .ok (.iaload, 1) := by decide +kernel
theorem d_Lw_law_189 : decode c_Lw_law 189 = .ok (.invokevirtual 18, 3) := by decide +kernel
theorem d_Lw_law_192 : decode c_Lw_law 192 = .ok (.aload_n 2, 1) := by decide +kernel
theorem d_Lw_law_193 : decode c_Lw_law 193 = .ok (.aload_n 0, 1) := by decide +kernel
theorem d_Lw_law_194 : decode c_Lw_law 194 = .ok (.iload_n 3, 1) := by decide +kernel
theorem d_Lw_law_195 : decode c_Lw_law 195 = .ok (.iconst 1, 1) := by decide +kernel
theorem d_Lw_law_196 : decode c_Lw_law 196 = .ok (.iadd, 1) := by decide +kernel
theorem d_Lw_law_197 : decode c_Lw_law 197 = .ok (.iaload, 1) := by decide +kernel
theorem d_Lw_law_198 : decode c_Lw_law 198 = .ok (.invokevirtual 22, 3) := by decide +kernel
theorem d_Lw_law_201 : decode c_Lw_law 201 = .ok (.if_icmp .eq 515, 3) := by decide +kernel
theorem d_Lw_law_204 : decode c_Lw_law 204 = .ok (.iconst 0, 1) := by decide +kernel
theorem d_Lw_law_205 : decode c_Lw_law 205 = .ok (.ireturn, 1) := by decide +kernel
theorem d_Lw_law_206 : decode c_Lw_law 206 = .ok (.aload_n 1, 1) := by decide +kernel
theorem d_Lw_law_207 : decode c_Lw_law 207 = .ok (.aload_n 0, 1) := by decide +kernel
theorem d_Lw_law_208 : decode c_Lw_law 208 = .ok (.iload_n 3, 1) := by decide +kernel
theorem d_Lw_law_209 : decode c_Lw_law 209 = .ok (.iconst 1, 1) := by decide +kernel
theorem d_Lw_law_210 : decode c_Lw_law 210 = .ok (.iadd, 1) := by decide +kernel
theorem d_Lw_law_211 : decode c_Lw_law 211 = .ok (.iaload, 1) := by decide +kernel
theorem d_Lw_law_212 : decode c_Lw_law 212 = .ok (.invokevirtual 23, 3) := by decide +kernel
theorem d_Lw_law_215 : decode c_Lw_law 215 = .ok (.aload_n 2, 1) := by decide +kernel
theorem d_Lw_law_216 : decode c_Lw_law 216 = .ok (.aload_n 0, 1) := by decide +kernel
theorem d_Lw_law_217 : decode c_Lw_law 217 = .ok (.iload_n 3, 1) := by decide +kernel
theorem d_Lw_law_218 : decode c_Lw_law 218 = .ok (.iconst 1, 1) := by decide +kernel
theorem d_Lw_law_219 : decode c_Lw_law 219 = .ok (.iadd, 1) := by decide +kernel
theorem d_Lw_law_220 : decode c_Lw_law 220 = .ok (.iaload, 1) := by decide +kernel
theorem d_Lw_law_221 : decode c_Lw_law 221 = .ok (.invokevirtual 26, 3) := by decide +kernel
theorem d_Lw_law_224 : decode c_Lw_law 224 = .ok (.if_icmp .eq 492, 3) := by decide +kernel
theorem d_Lw_law_227 : decode c_Lw_law 227 = .ok (.iconst 0, 1) := by decide +kernel
theorem d_Lw_law_228 : decode c_Lw_law 228 = .ok (.ireturn, 1) := by decide +kernel
theorem d_Lw_law_229 : decode c_Lw_law 229 = .ok (.aload_n 1, 1) := by decide +kernel
theorem d_Lw_law_230 : decode c_Lw_law 230 = .ok (.aload_n 0, 1) := by decide +kernel
theorem d_Lw_law_231 : decode c_Lw_law 231 = .ok (.iload_n 3, 1) := by decide +kernel
theorem d_Lw_law_232 : decode c_Lw_law 232 = .ok (.iconst 1, 1) := by decide +kernel
theorem d_Lw_law_233 : decode c_Lw_law 233 = .ok (.iadd, 1) := by decide +kernel
theorem d_Lw_law_234 : decode c_Lw_law 234 = .ok (.iaload, 1) := by decide +kernel
theorem d_Lw_law_235 : decode c_Lw_law 235 = .ok (.invokevirtual 27, 3) := by decide +kernel
theorem d_Lw_law_238 : decode c_Lw_law 238 = .ok (.aload_n 2, 1) := by decide +kernel
theorem d_Lw_law_239 : decode c_Lw_law 239 = .ok (.aload_n 0, 1) := by decide +kernel
theorem d_Lw_law_240 : decode c_Lw_law 240 = .ok (.iload_n 3, 1) := by decide +kernel
theorem d_Lw_law_241 : decode c_Lw_law 241 = .ok (.iconst 1, 1) := by decide +kernel
theorem d_Lw_law_242 : decode c_Lw_law 242 = .ok (.iadd, 1) := by decide +kernel
theorem d_Lw_law_243 : decode c_Lw_law 243 = .ok (.iaload, 1) := by decide +kernel
theorem d_Lw_law_244 : decode c_Lw_law 244 = .ok (.invokevirtual 30, 3) := by decide +kernel
theorem d_Lw_law_247 : decode c_Lw_law 247 = .ok (.if_icmp .eq 469, 3) := by decide +kernel
theorem d_Lw_law_250 : decode c_Lw_law 250 = .ok (.iconst 0, 1) := by decide +kernel
theorem d_Lw_law_251 : decode c_Lw_law 251 = .ok (.ireturn, 1) := by decide +kernel
theorem d_Lw_law_252 : decode c_Lw_law 252 = .ok (.aload_n 1, 1) := by decide +kernel
theorem d_Lw_law_253 : decode c_Lw_law 253 = .ok (.aload_n 0, 1) := by decide +kernel
theorem d_Lw_law_254 : decode c_Lw_law 254 = .ok (.iload_n 3, 1) := by decide +kernel
theorem d_Lw_law_255 : decode c_Lw_law 255 = .ok (.iconst 1, 1) := by decide +kernel
theorem d_Lw_law_256 : decode c_Lw_law 256 = .ok (.iadd, 1) := by decide +kernel
theorem d_Lw_law_257 : decode c_Lw_law 257 = .ok (.iaload, 1) := by decide +kernel
theorem d_Lw_law_258 : decode c_Lw_law 258 = .ok (.invokevirtual 31, 3) := by decide +kernel
theorem d_Lw_law_261 : decode c_Lw_law 261 = .ok (.aload_n 2, 1) := by decide +kernel
theorem d_Lw_law_262 : decode c_Lw_law 262 = .ok (.aload_n 0, 1) := by decide +kernel
theorem d_Lw_law_263 : decode c_Lw_law 263 = .ok (.iload_n 3, 1) := by decide +kernel
theorem d_Lw_law_264 : decode c_Lw_law 264 = .ok (.iconst 1, 1) := by decide +kernel
theorem d_Lw_law_265 : decode c_Lw_law 265 = .ok (.iadd, 1) := by decide +kernel
theorem d_Lw_law_266 : decode c_Lw_law 266 = .ok (.iaload, 1) := by decide +kernel
theorem d_Lw_law_267 : decode c_Lw_law 267 = .ok (.invokevirtual 34, 3) := by decide +kernel
theorem d_Lw_law_270 : decode c_Lw_law 270 = .ok (.if_icmp .eq 446, 3) := by decide +kernel
theorem d_Lw_law_273 : decode c_Lw_law 273 = .ok (.iconst 0, 1) := by decide +kernel
theorem d_Lw_law_274 : decode c_Lw_law 274 = .ok (.ireturn, 1) := by decide +kernel
theorem d_Lw_law_275 : decode c_Lw_law 275 = .ok (.aload_n 1, 1) := by decide +kernel
theorem d_Lw_law_276 : decode c_Lw_law 276 = .ok (.aload_n 0, 1) := by decide +kernel
theorem d_Lw_law_277 : decode c_Lw_law 277 = .ok (.iload_n 3, 1) := by decide +kernel
theorem d_Lw_law_278 : decode c_Lw_law 278 = .ok (.iconst 1, 1) := by decide +kernel
theorem d_Lw_law_279 : decode c_Lw_law 279 = .ok (.iadd, 1) := by decide +kernel
theorem d_Lw_law_280 : decode c_Lw_law 280 = .ok (.iaload, 1) := by decide +kernel
theorem d_Lw_law_281 : decode c_Lw_law 281 = .ok (.aload_n 0, 1) := by decide +kernel
theorem d_Lw_law_282 : decode c_Lw_law 282 = .ok (.iload_n 3, 1) := by decide +kernel
theorem d_Lw_law_283 : decode c_Lw_law 283 = .ok (.iconst 2, 1) := by decide +kernel
theorem d_Lw_law_284 : decode c_Lw_law 284 = .ok (.iadd, 1) := by decide +kernel
theorem d_Lw_law_285 : decode c_Lw_law 285 = .ok (.iaload, 1) := by decide +kernel
theorem d_Lw_law_286 : decode c_Lw_law 286 = .ok (.ifCond .eq 7, 3) := by decide +kernel
theorem d_Lw_law_289 : decode c_Lw_law 289 = .ok (.iconst 1, 1) := by decide +kernel
theorem d_Lw_law_290 : decode c_Lw_law 290 = .ok (.goto 4, 3) := by decide +kernel
theorem d_Lw_law_293 : decode c_Lw_law 293 = .ok (.iconst 0, 1) := by decide +kernel
theorem d_Lw_law_294 : decode c_Lw_law 294 = .ok (.invokevirtual 35, 3) := by decide +kernel
theorem d_Lw_law_297 : decode c_Lw_law 297 = .ok (.aload_n 2, 1) := by decide +kernel
theorem d_Lw_law_298 : decode c_Lw_law 298 = .ok (.aload_n 0, 1) := by decide +kernel
theorem d_Lw_law_299 : decode c_Lw_law 299 = .ok (.iload_n 3, 1) := by decide +kernel
theorem d_Lw_law_300 : decode c_Lw_law 300 = .ok (.iconst 1, 1) := by decide +kernel
theorem d_Lw_law_301 : decode c_Lw_law 301 = .ok (.iadd, 1) := by decide +kernel
theorem d_Lw_law_302 : decode c_Lw_law 302 = .ok (.iaload, 1) := by decide +kernel
theorem d_Lw_law_303 : decode c_Lw_law 303 = .ok (.aload_n 0, 1) := by decide +kernel
theorem d_Lw_law_304 : decode c_Lw_law 304 = .ok (.iload_n 3, 1) := by decide +kernel
theorem d_Lw_law_305 : decode c_Lw_law 305 = .ok (.iconst 2, 1) := by decide +kernel
theorem d_Lw_law_306 : decode c_Lw_law 306 = .ok (.iadd, 1) := by decide +kernel
theorem d_Lw_law_307 : decode c_Lw_law 307 = .ok (.iaload, 1) := by decide +kernel
theorem d_Lw_law_308 : decode c_Lw_law 308 = .ok (.ifCond .eq 7, 3) := by decide +kernel
theorem d_Lw_law_311 : decode c_Lw_law 311 = .ok (.iconst 1, 1) := by decide +kernel
theorem d_Lw_law_312 : decode c_Lw_law 312 = .ok (.goto 4, 3) := by decide +kernel
theorem d_Lw_law_315 : decode c_Lw_law 315 = .ok (.iconst 0, 1) := by decide +kernel
theorem d_Lw_law_316 : decode c_Lw_law 316 = .ok (.invokevirtual 39, 3) := by decide +kernel
theorem d_Lw_law_319 : decode c_Lw_law 319 = .ok (.if_icmp .eq 397, 3) := by decide +kernel
theorem d_Lw_law_322 : decode c_Lw_law 322 = .ok (.iconst 0, 1) := by decide +kernel
theorem d_Lw_law_323 : decode c_Lw_law 323 = .ok (.ireturn, 1) := by decide +kernel
theorem d_Lw_law_324 : decode c_Lw_law 324 = .ok (.aload_n 1, 1) := by decide +kernel
theorem d_Lw_law_325 : decode c_Lw_law 325 = .ok (.aload_n 0, 1) := by decide +kernel
theorem d_Lw_law_326 : decode c_Lw_law 326 = .ok (.iload_n 3, 1) := by decide +kernel
theorem d_Lw_law_327 : decode c_Lw_law 327 = .ok (.iconst 1, 1) := by decide +kernel
theorem d_Lw_law_328 : decode c_Lw_law 328 = .ok (.iadd, 1) := by decide +kernel
theorem d_Lw_law_329 : decode c_Lw_law 329 = .ok (.iaload, 1) := by decide +kernel
theorem d_Lw_law_330 : decode c_Lw_law 330 = .ok (.aload_n 0, 1) := by decide +kernel
theorem d_Lw_law_331 : decode c_Lw_law 331 = .ok (.iload_n 3, 1) := by decide +kernel
theorem d_Lw_law_332 : decode c_Lw_law 332 = .ok (.iconst 2, 1) := by decide +kernel
theorem d_Lw_law_333 : decode c_Lw_law 333 = .ok (.iadd, 1) := by decide +kernel
theorem d_Lw_law_334 : decode c_Lw_law 334 = .ok (.iaload, 1) := by decide +kernel
theorem d_Lw_law_335 : decode c_Lw_law 335 = .ok (.aload_n 0, 1) := by decide +kernel
theorem d_Lw_law_336 : decode c_Lw_law 336 = .ok (.iload_n 3, 1) := by decide +kernel
theorem d_Lw_law_337 : decode c_Lw_law 337 = .ok (.iconst 3, 1) := by decide +kernel
theorem d_Lw_law_338 : decode c_Lw_law 338 = .ok (.iadd, 1) := by decide +kernel
theorem d_Lw_law_339 : decode c_Lw_law 339 = .ok (.iaload, 1) := by decide +kernel
theorem d_Lw_law_340 : decode c_Lw_law 340 = .ok (.invokevirtual 40, 3) := by decide +kernel
theorem d_Lw_law_343 : decode c_Lw_law 343 = .ok (.aload_n 2, 1) := by decide +kernel
theorem d_Lw_law_344 : decode c_Lw_law 344 = .ok (.aload_n 0, 1) := by decide +kernel
theorem d_Lw_law_345 : decode c_Lw_law 345 = .ok (.iload_n 3, 1) := by decide +kernel
theorem d_Lw_law_346 : decode c_Lw_law 346 = .ok (.iconst 1, 1) := by decide +kernel
theorem d_Lw_law_347 : decode c_Lw_law 347 = .ok (.iadd, 1) := by decide +kernel
theorem d_Lw_law_348 : decode c_Lw_law 348 = .ok (.iaload, 1) := by decide +kernel
theorem d_Lw_law_349 : decode c_Lw_law 349 = .ok (.aload_n 0, 1) := by decide +kernel
theorem d_Lw_law_350 : decode c_Lw_law 350 = .ok (.iload_n 3, 1) := by decide +kernel
theorem d_Lw_law_351 : decode c_Lw_law 351 = .ok (.iconst 2, 1) := by decide +kernel
theorem d_Lw_law_352 : decode c_Lw_law 352 = .ok (.iadd, 1) := by decide +kernel
theorem d_Lw_law_353 : decode c_Lw_law 353 = .ok (.iaload, 1) := by decide +kernel
theorem d_Lw_law_354 : decode c_Lw_law 354 = .ok (.aload_n 0, 1) := by decide +kernel
theorem d_Lw_law_355 : decode c_Lw_law 355 = .ok (.iload_n 3, 1) := by decide +kernel
theorem d_Lw_law_356 : decode c_Lw_law 356 = .ok (.iconst 3, 1) := by decide +kernel
theorem d_Lw_law_357 : decode c_Lw_law 357 = .ok (.iadd, 1) := by decide +kernel
theorem d_Lw_law_358 : decode c_Lw_law 358 = .ok (.iaload, 1) := by decide +kernel
theorem d_Lw_law_359 : decode c_Lw_law 359 = .ok (.invokevirtual 44, 3) := by decide +kernel
theorem d_Lw_law_362 : decode c_Lw_law 362 = .ok (.if_icmp .eq 354, 3) := by decide +kernel
theorem d_Lw_law_365 : decode c_Lw_law 365 = .ok (.iconst 0, 1) := by decide +kernel
theorem d_Lw_law_366 : decode c_Lw_law 366 = .ok (.ireturn, 1) := by decide +kernel
theorem d_Lw_law_367 : decode c_Lw_law 367 = .ok (.aload_n 1, 1) := by decide +kernel
theorem d_Lw_law_368 : decode c_Lw_law 368 = .ok (.aload_n 0, 1) := by decide +kernel
theorem d_Lw_law_369 : decode c_Lw_law 369 = .ok (.iload_n 3, 1) := by decide +kernel
theorem d_Lw_law_370 : decode c_Lw_law 370 = .ok (.iconst 1, 1) := by decide +kernel
theorem d_Lw_law_371 : decode c_Lw_law 371 = .ok (.iadd, 1) := by decide +kernel
theorem d_Lw_law_372 : decode c_Lw_law 372 = .ok (.iaload, 1) := by decide +kernel
theorem d_Lw_law_373 : decode c_Lw_law 373 = .ok (.aload_n 0, 1) := by decide +kernel
theorem d_Lw_law_374 : decode c_Lw_law 374 = .ok (.iload_n 3, 1) := by decide +kernel
theorem d_Lw_law_375 : decode c_Lw_law 375 = .ok (.iconst 2, 1) := by decide +kernel
theorem d_Lw_law_376 : decode c_Lw_law 376 = .ok (.iadd, 1) := by decide +kernel
theorem d_Lw_law_377 : decode c_Lw_law 377 = .ok (.iaload, 1) := by decide +kernel
theorem d_Lw_law_378 : decode c_Lw_law 378 = .ok (.invokevirtual 45, 3) := by decide +kernel
theorem d_Lw_law_381 : decode c_Lw_law 381 = .ok (.aload_n 2, 1) := by decide +kernel
theorem d_Lw_law_382 : decode c_Lw_law 382 = .ok (.aload_n 0, 1) := by decide +kernel
theorem d_Lw_law_383 : decode c_Lw_law 383 = .ok (.iload_n 3, 1) := by decide +kernel
theorem d_Lw_law_384 : decode c_Lw_law 384 = .ok (.iconst 1, 1) := by decide +kernel
theorem d_Lw_law_385 : decode c_Lw_law 385 = .ok (.iadd, 1) := by decide +kernel
theorem d_Lw_law_386 : decode c_Lw_law 386 = .ok (.iaload, 1) := by decide +kernel
theorem d_Lw_law_387 : decode c_Lw_law 387 = .ok (.aload_n 0, 1) := by decide +kernel
theorem d_Lw_law_388 : decode c_Lw_law 388 = .ok (.iload_n 3, 1) := by decide +kernel
theorem d_Lw_law_389 : decode c_Lw_law 389 = .ok (.iconst 2, 1) := by decide +kernel
theorem d_Lw_law_390 : decode c_Lw_law 390 = .ok (.iadd, 1) := by decide +kernel
theorem d_Lw_law_391 : decode c_Lw_law 391 = .ok (.iaload, 1) := by decide +kernel
theorem d_Lw_law_392 : decode c_Lw_law 392 = .ok (.invokevirtual 49, 3) := by decide +kernel
theorem d_Lw_law_395 : decode c_Lw_law 395 = .ok (.if_icmp .eq 321, 3) := by decide +kernel
theorem d_Lw_law_398 : decode c_Lw_law 398 = .ok (.iconst 0, 1) := by decide +kernel
theorem d_Lw_law_399 : decode c_Lw_law 399 = .ok (.ireturn, 1) := by decide +kernel
theorem d_Lw_law_400 : decode c_Lw_law 400 = .ok (.aload_n 1, 1) := by decide +kernel
theorem d_Lw_law_401 : decode c_Lw_law 401 = .ok (.invokevirtual 50, 3) := by decide +kernel
theorem d_Lw_law_404 : decode c_Lw_law 404 = .ok (.aload_n 2, 1) := by decide +kernel
theorem d_Lw_law_405 : decode c_Lw_law 405 = .ok (.invokevirtual 54, 3) := by decide +kernel
theorem d_Lw_law_408 : decode c_Lw_law 408 = .ok (.if_icmp .eq 308, 3) := by decide +kernel
theorem d_Lw_law_411 : decode c_Lw_law 411 = .ok (.iconst 0, 1) := by decide +kernel
theorem d_Lw_law_412 : decode c_Lw_law 412 = .ok (.ireturn, 1) := by decide +kernel
theorem d_Lw_law_413 : decode c_Lw_law 413 = .ok (.aload_n 1, 1) := by decide +kernel
theorem d_Lw_law_414 : decode c_Lw_law 414 = .ok (.aload_n 0, 1) := by decide +kernel
theorem d_Lw_law_415 : decode c_Lw_law 415 = .ok (.iload_n 3, 1) := by decide +kernel
theorem d_Lw_law_416 : decode c_Lw_law 416 = .ok (.iconst 1, 1) := by decide +kernel
theorem d_Lw_law_417 : decode c_Lw_law 417 = .ok (.iadd, 1) := by decide +kernel
theorem d_Lw_law_418 : decode c_Lw_law 418 = .ok (.iaload, 1) := by decide +kernel
theorem d_Lw_law_419 : decode c_Lw_law 419 = .ok (.aload_n 0, 1) := by decide +kernel
theorem d_Lw_law_420 : decode c_Lw_law 420 = .ok (.iload_n 3, 1) := by decide +kernel
theorem d_Lw_law_421 : decode c_Lw_law 421 = .ok (.iconst 2, 1) := by decide +kernel
theorem d_Lw_law_422 : decode c_Lw_law 422 = .ok (.iadd, 1) := by decide +kernel
theorem d_Lw_law_423 : decode c_Lw_law 423 = .ok (.iaload, 1) := by decide +kernel
theorem d_Lw_law_424 : decode c_Lw_law 424 = .ok (.aload_n 0, 1) := by decide +kernel
theorem d_Lw_law_425 : decode c_Lw_law 425 = .ok (.iload_n 3, 1) := by decide +kernel
theorem d_Lw_law_426 : decode c_Lw_law 426 = .ok (.iconst 3, 1) := by decide +kernel
theorem d_Lw_law_427 : decode c_Lw_law 427 = .ok (.iadd, 1) := by decide +kernel
theorem d_Lw_law_428 : decode c_Lw_law 428 = .ok (.iaload, 1) := by decide +kernel
theorem d_Lw_law_429 : decode c_Lw_law 429 = .ok (.invokevirtual 55, 3) := by decide +kernel
theorem d_Lw_law_432 : decode c_Lw_law 432 = .ok (.aload_n 2, 1) := by decide +kernel
theorem d_Lw_law_433 : decode c_Lw_law 433 = .ok (.aload_n 0, 1) := by decide +kernel
theorem d_Lw_law_434 : decode c_Lw_law 434 = .ok (.iload_n 3, 1) := by decide +kernel
theorem d_Lw_law_435 : decode c_Lw_law 435 = .ok (.iconst 1, 1) := by decide +kernel
theorem d_Lw_law_436 : decode c_Lw_law 436 = .ok (.iadd, 1) := by decide +kernel
theorem d_Lw_law_437 : decode c_Lw_law 437 = .ok (.iaload, 1) := by decide +kernel
theorem d_Lw_law_438 : decode c_Lw_law 438 = .ok (.aload_n 0, 1) := by decide +kernel
theorem d_Lw_law_439 : decode c_Lw_law 439 = .ok (.iload_n 3, 1) := by decide +kernel
theorem d_Lw_law_440 : decode c_Lw_law 440 = .ok (.iconst 2, 1) := by decide +kernel
theorem d_Lw_law_441 : decode c_Lw_law 441 = .ok (.iadd, 1) := by decide +kernel
theorem d_Lw_law_442 : decode c_Lw_law 442 = .ok (.iaload, 1) := by decide +kernel
theorem d_Lw_law_443 : decode c_Lw_law 443 = .ok (.aload_n 0, 1) := by decide +kernel
theorem d_Lw_law_444 : decode c_Lw_law 444 = .ok (.iload_n 3, 1) := by decide +kernel
theorem d_Lw_law_445 : decode c_Lw_law 445 = .ok (.iconst 3, 1) := by decide +kernel
theorem d_Lw_law_446 : decode c_Lw_law 446 = .ok (.iadd, 1) := by decide +kernel
theorem d_Lw_law_447 : decode c_Lw_law 447 = .ok (.iaload, 1) := by decide +kernel
theorem d_Lw_law_448 : decode c_Lw_law 448 = .ok (.invokevirtual 58, 3) := by decide +kernel
theorem d_Lw_law_451 : decode c_Lw_law 451 = .ok (.if_icmp .eq 265, 3) := by decide +kernel
theorem d_Lw_law_454 : decode c_Lw_law 454 = .ok (.iconst 0, 1) := by decide +kernel
theorem d_Lw_law_455 : decode c_Lw_law 455 = .ok (.ireturn, 1) := by decide +kernel
theorem d_Lw_law_456 : decode c_Lw_law 456 = .ok (.aload_n 1, 1) := by decide +kernel
theorem d_Lw_law_457 : decode c_Lw_law 457 = .ok (.aload_n 0, 1) := by decide +kernel
theorem d_Lw_law_458 : decode c_Lw_law 458 = .ok (.iload_n 3, 1) := by decide +kernel
theorem d_Lw_law_459 : decode c_Lw_law 459 = .ok (.iconst 1, 1) := by decide +kernel
theorem d_Lw_law_460 : decode c_Lw_law 460 = .ok (.iadd, 1) := by decide +kernel
theorem d_Lw_law_461 : decode c_Lw_law 461 = .ok (.iaload, 1) := by decide +kernel
theorem d_Lw_law_462 : decode c_Lw_law 462 = .ok (.aload_n 0, 1) := by decide +kernel
theorem d_Lw_law_463 : decode c_Lw_law 463 = .ok (.iload_n 3, 1) := by decide +kernel
theorem d_Lw_law_464 : decode c_Lw_law 464 = .ok (.iconst 2, 1) := by decide +kernel
theorem d_Lw_law_465 : decode c_Lw_law 465 = .ok (.iadd, 1) := by decide +kernel
theorem d_Lw_law_466 : decode c_Lw_law 466 = .ok (.iaload, 1) := by decide +kernel
theorem d_Lw_law_467 : decode c_Lw_law 467 = .ok (.aload_n 0, 1) := by decide +kernel
theorem d_Lw_law_468 : decode c_Lw_law 468 = .ok (.iload_n 3, 1) := by decide +kernel
theorem d_Lw_law_469 : decode c_Lw_law 469 = .ok (.iconst 3, 1) := by decide +kernel
theorem d_Lw_law_470 : decode c_Lw_law 470 = .ok (.iadd, 1) := by decide +kernel
theorem d_Lw_law_471 : decode c_Lw_law 471 = .ok (.iaload, 1) := by decide +kernel
theorem d_Lw_law_472 : decode c_Lw_law 472 = .ok (.aload_n 0, 1) := by decide +kernel
theorem d_Lw_law_473 : decode c_Lw_law 473 = .ok (.iload_n 3, 1) := by decide +kernel
theorem d_Lw_law_474 : decode c_Lw_law 474 = .ok (.iconst 4, 1) := by decide +kernel
theorem d_Lw_law_475 : decode c_Lw_law 475 = .ok (.iadd, 1) := by decide +kernel
theorem d_Lw_law_476 : decode c_Lw_law 476 = .ok (.iaload, 1) := by decide +kernel
theorem d_Lw_law_477 : decode c_Lw_law 477 = .ok (.ifCond .eq 7, 3) := by decide +kernel
theorem d_Lw_law_480 : decode c_Lw_law 480 = .ok (.iconst 1, 1) := by decide +kernel
theorem d_Lw_law_481 : decode c_Lw_law 481 = .ok (.goto 4, 3) := by decide +kernel
theorem d_Lw_law_484 : decode c_Lw_law 484 = .ok (.iconst 0, 1) := by decide +kernel
theorem d_Lw_law_485 : decode c_Lw_law 485 = .ok (.invokevirtual 59, 3) := by decide +kernel
theorem d_Lw_law_488 : decode c_Lw_law 488 = .ok (.aload_n 2, 1) := by decide +kernel
theorem d_Lw_law_489 : decode c_Lw_law 489 = .ok (.aload_n 0, 1) := by decide +kernel
theorem d_Lw_law_490 : decode c_Lw_law 490 = .ok (.iload_n 3, 1) := by decide +kernel
theorem d_Lw_law_491 : decode c_Lw_law 491 = .ok (.iconst 1, 1) := by decide +kernel
theorem d_Lw_law_492 : decode c_Lw_law 492 = .ok (.iadd, 1) := by decide +kernel
theorem d_Lw_law_493 : decode c_Lw_law 493 = .ok (.iaload, 1) := by decide +kernel
theorem d_Lw_law_494 : decode c_Lw_law 494 = .ok (.aload_n 0, 1) := by decide +kernel
theorem d_Lw_law_495 : decode c_Lw_law 495 = .ok (.iload_n 3, 1) := by decide +kernel
theorem d_Lw_law_496 : decode c_Lw_law 496 = .ok (.iconst 2, 1) := by decide +kernel
theorem d_Lw_law_497 : decode c_Lw_law 497 = .ok (.iadd, 1) := by decide +kernel
theorem d_Lw_law_498 : decode c_Lw_law 498 = .ok (.iaload, 1) := by decide +kernel
theorem d_Lw_law_499 : decode c_Lw_law 499 = .ok (.aload_n 0, 1) := by decide +kernel
theorem d_Lw_law_500 : decode c_Lw_law 500 = .ok (.iload_n 3, 1) := by decide +kernel
theorem d_Lw_law_501 : decode c_Lw_law 501 = .ok (.iconst 3, 1) := by decide +kernel
theorem d_Lw_law_502 : decode c_Lw_law 502 = .ok (.iadd, 1) := by decide +kernel
theorem d_Lw_law_503 : decode c_Lw_law 503 = .ok (.iaload, 1) := by decide +kernel
theorem d_Lw_law_504 : decode c_Lw_law 504 = .ok (.aload_n 0, 1) := by decide +kernel
theorem d_Lw_law_505 : decode c_Lw_law 505 = .ok (.iload_n 3, 1) := by decide +kernel
theorem d_Lw_law_506 : decode c_Lw_law 506 = .ok (.iconst 4, 1) := by decide +kernel
theorem d_Lw_law_507 : decode c_Lw_law 507 = .ok (.iadd, 1) := by decide +kernel
theorem d_Lw_law_508 : decode c_Lw_law 508 = .ok (.iaload, 1) := by decide +kernel
theorem d_Lw_law_509 : decode c_Lw_law 509 = .ok (.ifCond .eq 7, 3) := by decide +kernel
theorem d_Lw_law_512 : decode c_Lw_law 512 = .ok (.iconst 1, 1) := by decide +kernel
theorem d_Lw_law_513 : decode c_Lw_law 513 = .ok (.goto 4, 3) := by decide +kernel
theorem d_Lw_law_516 : decode c_Lw_law 516 = .ok (.iconst 0, 1) := by decide +kernel
theorem d_Lw_law_517 : decode c_Lw_law 517 = .ok (.invokevirtual 63, 3) := by decide +kernel
theorem d_Lw_law_520 : decode c_Lw_law 520 = .ok (.if_icmp .eq 196, 3) := by decide +kernel
theorem d_Lw_law_523 : decode c_Lw_law 523 = .ok (.iconst 0, 1) := by decide +kernel
theorem d_Lw_law_524 : decode c_Lw_law 524 = .ok (.ireturn, 1) := by decide +kernel
theorem d_Lw_law_525 : decode c_Lw_law 525 = .ok (.aload_n 1, 1) := by decide +kernel
theorem d_Lw_law_526 : decode c_Lw_law 526 = .ok (.aload_n 0, 1) := by decide +kernel
theorem d_Lw_law_527 : decode c_Lw_law 527 = .ok (.iload_n 3, 1) := by decide +kernel
theorem d_Lw_law_528 : decode c_Lw_law 528 = .ok (.iconst 1, 1) := by decide +kernel
theorem d_Lw_law_529 : decode c_Lw_law 529 = .ok (.iadd, 1) := by decide +kernel
theorem d_Lw_law_530 : decode c_Lw_law 530 = .ok (.iaload, 1) := by decide +kernel
theorem d_Lw_law_531 : decode c_Lw_law 531 = .ok (.aload_n 0, 1) := by decide +kernel
theorem d_Lw_law_532 : decode c_Lw_law 532 = .ok (.iload_n 3, 1) := by decide +kernel
theorem d_Lw_law_533 : decode c_Lw_law 533 = .ok (.iconst 2, 1) := by decide +kernel
theorem d_Lw_law_534 : decode c_Lw_law 534 = .ok (.iadd, 1) := by decide +kernel
theorem d_Lw_law_535 : decode c_Lw_law 535 = .ok (.iaload, 1) := by decide +kernel
theorem d_Lw_law_536 : decode c_Lw_law 536 = .ok (.aload_n 0, 1) := by decide +kernel
theorem d_Lw_law_537 : decode c_Lw_law 537 = .ok (.iload_n 3, 1) := by decide +kernel
theorem d_Lw_law_538 : decode c_Lw_law 538 = .ok (.iconst 3, 1) := by decide +kernel
theorem d_Lw_law_539 : decode c_Lw_law 539 = .ok (.iadd, 1) := by decide +kernel
theorem d_Lw_law_540 : decode c_Lw_law 540 = .ok (.iaload, 1) := by decide +kernel
theorem d_Lw_law_541 : decode c_Lw_law 541 = .ok (.invokevirtual 64, 3) := by decide +kernel
theorem d_Lw_law_544 : decode c_Lw_law 544 = .ok (.aload_n 2, 1) := by decide +kernel
theorem d_Lw_law_545 : decode c_Lw_law 545 = .ok (.aload_n 0, 1) := by decide +kernel
theorem d_Lw_law_546 : decode c_Lw_law 546 = .ok (.iload_n 3, 1) := by decide +kernel
theorem d_Lw_law_547 : decode c_Lw_law 547 = .ok (.iconst 1, 1) := by decide +kernel
theorem d_Lw_law_548 : decode c_Lw_law 548 = .ok (.iadd, 1) := by decide +kernel
theorem d_Lw_law_549 : decode c_Lw_law 549 = .ok (.iaload, 1) := by decide +kernel
theorem d_Lw_law_550 : decode c_Lw_law 550 = .ok (.aload_n 0, 1) := by decide +kernel
theorem d_Lw_law_551 : decode c_Lw_law 551 = .ok (.iload_n 3, 1) := by decide +kernel
theorem d_Lw_law_552 : decode c_Lw_law 552 = .ok (.iconst 2, 1) := by decide +kernel
theorem d_Lw_law_553 : decode c_Lw_law 553 = .ok (.iadd, 1) := by decide +kernel
theorem d_Lw_law_554 : decode c_Lw_law 554 = .ok (.iaload, 1) := by decide +kernel
theorem d_Lw_law_555 : decode c_Lw_law 555 = .ok (.aload_n 0, 1) := by decide +kernel
theorem d_Lw_law_556 : decode c_Lw_law 556 = .ok (.iload_n 3, 1) := by decide +kernel
theorem d_Lw_law_557 : decode c_Lw_law 557 = .ok (.iconst 3, 1) := by decide +kernel
theorem d_Lw_law_558 : decode c_Lw_law 558 = .ok (.iadd, 1) := by decide +kernel
theorem d_Lw_law_559 : decode c_Lw_law 559 = .ok (.iaload, 1) := by decide +kernel
theorem d_Lw_law_560 : decode c_Lw_law 560 = .ok (.invokevirtual 67, 3) := by decide +kernel
theorem d_Lw_law_563 : decode c_Lw_law 563 = .ok (.if_icmp .eq 153, 3) := by decide +kernel
theorem d_Lw_law_566 : decode c_Lw_law 566 = .ok (.iconst 0, 1) := by decide +kernel
theorem d_Lw_law_567 : decode c_Lw_law 567 = .ok (.ireturn, 1) := by decide +kernel
theorem d_Lw_law_568 : decode c_Lw_law 568 = .ok (.aload_n 1, 1) := by decide +kernel
theorem d_Lw_law_569 : decode c_Lw_law 569 = .ok (.invokevirtual 68, 3) := by decide +kernel
theorem d_Lw_law_572 : decode c_Lw_law 572 = .ok (.aload_n 2, 1) := by decide +kernel
theorem d_Lw_law_573 : decode c_Lw_law 573 = .ok (.invokevirtual 71, 3) := by decide +kernel
theorem d_Lw_law_576 : decode c_Lw_law 576 = .ok (.if_icmp .eq 140, 3) := by decide +kernel
theorem d_Lw_law_579 : decode c_Lw_law 579 = .ok (.iconst 0, 1) := by decide +kernel
theorem d_Lw_law_580 : decode c_Lw_law 580 = .ok (.ireturn, 1) := by decide +kernel
theorem d_Lw_law_581 : decode c_Lw_law 581 = .ok (.aload_n 1, 1) := by decide +kernel
theorem d_Lw_law_582 : decode c_Lw_law 582 = .ok (.invokevirtual 72, 3) := by decide +kernel
theorem d_Lw_law_585 : decode c_Lw_law 585 = .ok (.aload_n 2, 1) := by decide +kernel
theorem d_Lw_law_586 : decode c_Lw_law 586 = .ok (.invokevirtual 75, 3) := by decide +kernel
theorem d_Lw_law_589 : decode c_Lw_law 589 = .ok (.if_icmp .eq 127, 3) := by decide +kernel
theorem d_Lw_law_592 : decode c_Lw_law 592 = .ok (.iconst 0, 1) := by decide +kernel
theorem d_Lw_law_593 : decode c_Lw_law 593 = .ok (.ireturn, 1) := by decide +kernel
theorem d_Lw_law_594 : decode c_Lw_law 594 = .ok (.aload_n 1, 1) := by decide +kernel
theorem d_Lw_law_595 : decode c_Lw_law 595 = .ok (.aload_n 0, 1) := by decide +kernel
theorem d_Lw_law_596 : decode c_Lw_law 596 = .ok (.iload_n 3, 1) := by decide +kernel
theorem d_Lw_law_597 : decode c_Lw_law 597 = .ok (.iconst 1, 1) := by decide +kernel
theorem d_Lw_law_598 : decode c_Lw_law 598 = .ok (.iadd, 1) := by decide +kernel
theorem d_Lw_law_599 : decode c_Lw_law 599 = .ok (.iaload, 1) := by decide +kernel
theorem d_Lw_law_600 : decode c_Lw_law 600 = .ok (.aload_n 0, 1) := by decide +kernel
theorem d_Lw_law_601 : decode c_Lw_law 601 = .ok (.iload_n 3, 1) := by decide +kernel
theorem d_Lw_law_602 : decode c_Lw_law 602 = .ok (.iconst 2, 1) := by decide +kernel
theorem d_Lw_law_603 : decode c_Lw_law 603 = .ok (.iadd, 1) := by decide +kernel
theorem d_Lw_law_604 : decode c_Lw_law 604 = .ok (.iaload, 1) := by decide +kernel
theorem d_Lw_law_605 : decode c_Lw_law 605 = .ok (.invokevirtual 76, 3) := by decide +kernel
theorem d_Lw_law_608 : decode c_Lw_law 608 = .ok (.aload_n 2, 1) := by decide +kernel
theorem d_Lw_law_609 : decode c_Lw_law 609 = .ok (.aload_n 0, 1) := by decide +kernel
theorem d_Lw_law_610 : decode c_Lw_law 610 = .ok (.iload_n 3, 1) := by decide +kernel
theorem d_Lw_law_611 : decode c_Lw_law 611 = .ok (.iconst 1, 1) := by decide +kernel
theorem d_Lw_law_612 : decode c_Lw_law 612 = .ok (.iadd, 1) := by decide +kernel
theorem d_Lw_law_613 : decode c_Lw_law 613 = .ok (.iaload, 1) := by decide +kernel
theorem d_Lw_law_614 : decode c_Lw_law 614 = .ok (.aload_n 0, 1) := by decide +kernel
theorem d_Lw_law_615 : decode c_Lw_law 615 = .ok (.iload_n 3, 1) := by decide +kernel
theorem d_Lw_law_616 : decode c_Lw_law 616 = .ok (.iconst 2, 1) := by decide +kernel
theorem d_Lw_law_617 : decode c_Lw_law 617 = .ok (.iadd, 1) := by decide +kernel
theorem d_Lw_law_618 : decode c_Lw_law 618 = .ok (.iaload, 1) := by decide +kernel
theorem d_Lw_law_619 : decode c_Lw_law 619 = .ok (.invokevirtual 79, 3) := by decide +kernel
theorem d_Lw_law_622 : decode c_Lw_law 622 = .ok (.if_icmp .eq 94, 3) := by decide +kernel
theorem d_Lw_law_625 : decode c_Lw_law 625 = .ok (.iconst 0, 1) := by decide +kernel
theorem d_Lw_law_626 : decode c_Lw_law 626 = .ok (.ireturn, 1) := by decide +kernel
theorem d_Lw_law_627 : decode c_Lw_law 627 = .ok (.aload_n 1, 1) := by decide +kernel
theorem d_Lw_law_628 : decode c_Lw_law 628 = .ok (.aload_n 0, 1) := by decide +kernel
theorem d_Lw_law_629 : decode c_Lw_law 629 = .ok (.iload_n 3, 1) := by decide +kernel
theorem d_Lw_law_630 : decode c_Lw_law 630 = .ok (.iconst 1, 1) := by decide +kernel
theorem d_Lw_law_631 : decode c_Lw_law 631 = .ok (.iadd, 1) := by decide +kernel
theorem d_Lw_law_632 : decode c_Lw_law 632 = .ok (.iaload, 1) := by decide +kernel
theorem d_Lw_law_633 : decode c_Lw_law 633 = .ok (.aload_n 0, 1) := by decide +kernel
theorem d_Lw_law_634 : decode c_Lw_law 634 = .ok (.iload_n 3, 1) := by decide +kernel
theorem d_Lw_law_635 : decode c_Lw_law 635 = .ok (.iconst 2, 1) := by decide +kernel
theorem d_Lw_law_636 : decode c_Lw_law 636 = .ok (.iadd, 1) := by decide +kernel
theorem d_Lw_law_637 : decode c_Lw_law 637 = .ok (.iaload, 1) := by decide +kernel
theorem d_Lw_law_638 : decode c_Lw_law 638 = .ok (.invokevirtual 80, 3) := by decide +kernel
theorem d_Lw_law_641 : decode c_Lw_law 641 = .ok (.aload_n 2, 1) := by decide +kernel
theorem d_Lw_law_642 : decode c_Lw_law 642 = .ok (.aload_n 0, 1) := by decide +kernel
theorem d_Lw_law_643 : decode c_Lw_law 643 = .ok (.iload_n 3, 1) := by decide +kernel
theorem d_Lw_law_644 : decode c_Lw_law 644 = .ok (.iconst 1, 1) := by decide +kernel
theorem d_Lw_law_645 : decode c_Lw_law 645 = .ok (.iadd, 1) := by decide +kernel
theorem d_Lw_law_646 : decode c_Lw_law 646 = .ok (.iaload, 1) := by decide +kernel
theorem d_Lw_law_647 : decode c_Lw_law 647 = .ok (.aload_n 0, 1) := by decide +kernel
theorem d_Lw_law_648 : decode c_Lw_law 648 = .ok (.iload_n 3, 1) := by decide +kernel
theorem d_Lw_law_649 : decode c_Lw_law 649 = .ok (.iconst 2, 1) := by decide +kernel
theorem d_Lw_law_650 : decode c_Lw_law 650 = .ok (.iadd, 1) := by decide +kernel
theorem d_Lw_law_651 : decode c_Lw_law 651 = .ok (.iaload, 1) := by decide +kernel
theorem d_Lw_law_652 : decode c_Lw_law 652 = .ok (.invokevirtual 83, 3) := by decide +kernel
theorem d_Lw_law_655 : decode c_Lw_law 655 = .ok (.if_icmp .eq 61, 3) := by decide +kernel
theorem d_Lw_law_658 : decode c_Lw_law 658 = .ok (.iconst 0, 1) := by decide +kernel
theorem d_Lw_law_659 : decode c_Lw_law 659 = .ok (.ireturn, 1) := by decide +kernel
theorem d_Lw_law_660 : decode c_Lw_law 660 = .ok (.aload_n 1, 1) := by decide +kernel
theorem d_Lw_law_661 : decode c_Lw_law 661 = .ok (.aload_n 0, 1) := by decide +kernel
theorem d_Lw_law_662 : decode c_Lw_law 662 = .ok (.iload_n 3, 1) := by decide +kernel
theorem d_Lw_law_663 : decode c_Lw_law 663 = .ok (.iconst 1, 1) := by decide +kernel
theorem d_Lw_law_664 : decode c_Lw_law 664 = .ok (.iadd, 1) := by decide +kernel
theorem d_Lw_law_665 : decode c_Lw_law 665 = .ok (.iaload, 1) := by decide +kernel
theorem d_Lw_law_666 : decode c_Lw_law 666 = .ok (.aload_n 0, 1) := by decide +kernel
theorem d_Lw_law_667 : decode c_Lw_law 667 = .ok (.iload_n 3, 1) := by decide +kernel
theorem d_Lw_law_668 : decode c_Lw_law 668 = .ok (.iconst 2, 1) := by decide +kernel
theorem d_Lw_law_669 : decode c_Lw_law 669 = .ok (.iadd, 1) := by decide +kernel
theorem d_Lw_law_670 : decode c_Lw_law 670 = .ok (.iaload, 1) := by decide +kernel
theorem d_Lw_law_671 : decode c_Lw_law 671 = .ok (.invokevirtual 84, 3) := by decide +kernel
theorem d_Lw_law_674 : decode c_Lw_law 674 = .ok (.aload_n 2, 1) := by decide +kernel
theorem d_Lw_law_675 : decode c_Lw_law 675 = .ok (.aload_n 0, 1) := by decide +kernel
theorem d_Lw_law_676 : decode c_Lw_law 676 = .ok (.iload_n 3, 1) := by decide +kernel
theorem d_Lw_law_677 : decode c_Lw_law 677 = .ok (.iconst 1, 1) := by decide +kernel
theorem d_Lw_law_678 : decode c_Lw_law 678 = .ok (.iadd, 1) := by decide +kernel
theorem d_Lw_law_679 : decode c_Lw_law 679 = .ok (.iaload, 1) := by decide +kernel
theorem d_Lw_law_680 : decode c_Lw_law 680 = .ok (.aload_n 0, 1) := by decide +kernel
theorem d_Lw_law_681 : decode c_Lw_law 681 = .ok (.iload_n 3, 1) := by decide +kernel
theorem d_Lw_law_682 : decode c_Lw_law 682 = .ok (.iconst 2, 1) := by decide +kernel
theorem d_Lw_law_683 : decode c_Lw_law 683 = .ok (.iadd, 1) := by decide +kernel
theorem d_Lw_law_684 : decode c_Lw_law 684 = .ok (.iaload, 1) := by decide +kernel
theorem d_Lw_law_685 : decode c_Lw_law 685 = .ok (.invokevirtual 87, 3) := by decide +kernel
theorem d_Lw_law_688 : decode c_Lw_law 688 = .ok (.if_icmp .eq 28, 3) := by decide +kernel
theorem d_Lw_law_691 : decode c_Lw_law 691 = .ok (.iconst 0, 1) := by decide +kernel
theorem d_Lw_law_692 : decode c_Lw_law 692 = .ok (.ireturn, 1) := by decide +kernel
theorem d_Lw_law_693 : decode c_Lw_law 693 = .ok (.aload_n 1, 1) := by decide +kernel
theorem d_Lw_law_694 : decode c_Lw_law 694 = .ok (.aload_n 0, 1) := by decide +kernel
theorem d_Lw_law_695 : decode c_Lw_law 695 = .ok (.iload_n 3, 1) := by decide +kernel
theorem d_Lw_law_696 : decode c_Lw_law 696 = .ok (.iconst 1, 1) := by decide +kernel
theorem d_Lw_law_697 : decode c_Lw_law 697 = .ok (.iadd, 1) := by decide +kernel
theorem d_Lw_law_698 : decode c_Lw_law 698 = .ok (.iaload, 1) := by decide +kernel
theorem d_Lw_law_699 : decode c_Lw_law 699 = .ok (.invokevirtual 88, 3) := by decide +kernel
theorem d_Lw_law_702 : decode c_Lw_law 702 = .ok (.aload_n 2, 1) := by decide +kernel
theorem d_Lw_law_703 : decode c_Lw_law 703 = .ok (.aload_n 0, 1) := by decide +kernel
theorem d_Lw_law_704 : decode c_Lw_law 704 = .ok (.iload_n 3, 1) := by decide +kernel
theorem d_Lw_law_705 : decode c_Lw_law 705 = .ok (.iconst 1, 1) := by decide +kernel
theorem d_Lw_law_706 : decode c_Lw_law 706 = .ok (.iadd, 1) := by decide +kernel
theorem d_Lw_law_707 : decode c_Lw_law 707 = .ok (.iaload, 1) := by decide +kernel
theorem d_Lw_law_708 : decode c_Lw_law 708 = .ok (.invokevirtual 91, 3) := by decide +kernel
theorem d_Lw_law_711 : decode c_Lw_law 711 = .ok (.if_icmp .eq 5, 3) := by decide +kernel
theorem d_Lw_law_714 : decode c_Lw_law 714 = .ok (.iconst 0, 1) := by decide +kernel
theorem d_Lw_law_715 : decode c_Lw_law 715 = .ok (.ireturn, 1) := by decide +kernel
theorem d_Lw_law_716 : decode c_Lw_law 716 = .ok (.iinc 3 6, 3) := by decide +kernel
theorem d_Lw_law_719 : decode c_Lw_law 719 = .ok (.goto (-701), 3) := by decide +kernel
theorem d_Lw_law_722 : decode c_Lw_law 722 = .ok (.iconst 1, 1) := by decide +kernel
theorem d_Lw_law_723 : decode c_Lw_law 723 = .ok (.ireturn, 1) := by decide +kernel
