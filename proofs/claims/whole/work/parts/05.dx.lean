theorem dX0_init_0 : decode cX0_init 0 = .ok (.aload_n 0, 1) := by decide +kernel
theorem dX0_init_1 : decode cX0_init 1 = .ok (.invokespecial 3, 3) := by decide +kernel
theorem dX0_init_4 : decode cX0_init 4 = .ok (.aload_n 0, 1) := by decide +kernel
theorem dX0_init_5 : decode cX0_init 5 = .ok (.iload_n 1, 1) := by decide +kernel
theorem dX0_init_6 : decode cX0_init 6 = .ok (.putfield 9, 3) := by decide +kernel
theorem dX0_init_9 : decode cX0_init 9 = .ok (.aload_n 0, 1) := by decide +kernel
theorem dX0_init_10 : decode cX0_init 10 = .ok (.iload_n 2, 1) := by decide +kernel
theorem dX0_init_11 : decode cX0_init 11 = .ok (.putfield 15, 3) := by decide +kernel
theorem dX0_init_14 : decode cX0_init 14 = .ok (.aload_n 0, 1) := by decide +kernel
theorem dX0_init_15 : decode cX0_init 15 = .ok (.iload_n 3, 1) := by decide +kernel
theorem dX0_init_16 : decode cX0_init 16 = .ok (.putfield 18, 3) := by decide +kernel
theorem dX0_init_19 : decode cX0_init 19 = .ok (.aload_n 0, 1) := by decide +kernel
theorem dX0_init_20 : decode cX0_init 20 = .ok (.iload 4, 2) := by decide +kernel
theorem dX0_init_22 : decode cX0_init 22 = .ok (.putfield 21, 3) := by decide +kernel
theorem dX0_init_25 : decode cX0_init 25 = .ok (.return_, 1) := by decide +kernel
theorem dX0_timeAt_0 : decode cX0_timeAt 0 = .ok (.iload_n 1, 1) := by decide +kernel
theorem dX0_timeAt_1 : decode cX0_timeAt 1 = .ok (.aload_n 0, 1) := by decide +kernel
theorem dX0_timeAt_2 : decode cX0_timeAt 2 = .ok (.getfield 15, 3) := by decide +kernel
theorem dX0_timeAt_5 : decode cX0_timeAt 5 = .ok (.isub, 1) := by decide +kernel
theorem dX0_timeAt_6 : decode cX0_timeAt 6 = .ok (.istore_n 2, 1) := by decide +kernel
theorem dX0_timeAt_7 : decode cX0_timeAt 7 = .ok (.aload_n 0, 1) := by decide +kernel
theorem dX0_timeAt_8 : decode cX0_timeAt 8 = .ok (.getfield 21, 3) := by decide +kernel
theorem dX0_timeAt_11 : decode cX0_timeAt 11 = .ok (.ifCond .le 7, 3) := by decide +kernel
theorem dX0_timeAt_14 : decode cX0_timeAt 14 = .ok (.iload_n 2, 1) := by decide +kernel
theorem dX0_timeAt_15 : decode cX0_timeAt 15 = .ok (.ifCond .lt 14, 3) := by decide +kernel
theorem dX0_timeAt_18 : decode cX0_timeAt 18 = .ok (.aload_n 0, 1) := by decide +kernel
theorem dX0_timeAt_19 : decode cX0_timeAt 19 = .ok (.getfield 21, 3) := by decide +kernel
theorem dX0_timeAt_22 : decode cX0_timeAt 22 = .ok (.ifCond .ge 11, 3) := by decide +kernel
theorem dX0_timeAt_25 : decode cX0_timeAt 25 = .ok (.iload_n 2, 1) := by decide +kernel
theorem dX0_timeAt_26 : decode cX0_timeAt 26 = .ok (.ifCond .le 7, 3) := by decide +kernel
theorem dX0_timeAt_29 : decode cX0_timeAt 29 = .ok (.iconst 1, 1) := by decide +kernel
theorem dX0_timeAt_30 : decode cX0_timeAt 30 = .ok (.goto 4, 3) := by decide +kernel
theorem dX0_timeAt_33 : decode cX0_timeAt 33 = .ok (.iconst 0, 1) := by decide +kernel
theorem dX0_timeAt_34 : decode cX0_timeAt 34 = .ok (.istore_n 3, 1) := by decide +kernel
theorem dX0_timeAt_35 : decode cX0_timeAt 35 = .ok (.iload_n 3, 1) := by decide +kernel
theorem dX0_timeAt_36 : decode cX0_timeAt 36 = .ok (.ifCond .ne 11, 3) := by decide +kernel
theorem dX0_timeAt_39 : decode cX0_timeAt 39 = .ok (.aload_n 0, 1) := by decide +kernel
theorem dX0_timeAt_40 : decode cX0_timeAt 40 = .ok (.getfield 18, 3) := by decide +kernel
theorem dX0_timeAt_43 : decode cX0_timeAt 43 = .ok (.iconst 1, 1) := by decide +kernel
theorem dX0_timeAt_44 : decode cX0_timeAt 44 = .ok (.if_icmp .ge 5, 3) := by decide +kernel
theorem dX0_timeAt_47 : decode cX0_timeAt 47 = .ok (.iconst (-1), 1) := by decide +kernel
theorem dX0_timeAt_48 : decode cX0_timeAt 48 = .ok (.ireturn, 1) := by decide +kernel
theorem dX0_timeAt_49 : decode cX0_timeAt 49 = .ok (.aload_n 0, 1) := by decide +kernel
theorem dX0_timeAt_50 : decode cX0_timeAt 50 = .ok (.getfield 9, 3) := by decide +kernel
theorem dX0_timeAt_53 : decode cX0_timeAt 53 = .ok (.bipush 100, 2) := by decide +kernel
theorem dX0_timeAt_55 : decode cX0_timeAt 55 = .ok (.iload_n 2, 1) := by decide +kernel
theorem dX0_timeAt_56 : decode cX0_timeAt 56 = .ok (.invokestatic 24, 3) := by decide +kernel
theorem dX0_timeAt_59 : decode cX0_timeAt 59 = .ok (.imul, 1) := by decide +kernel
theorem dX0_timeAt_60 : decode cX0_timeAt 60 = .ok (.aload_n 0, 1) := by decide +kernel
theorem dX0_timeAt_61 : decode cX0_timeAt 61 = .ok (.getfield 18, 3) := by decide +kernel
theorem dX0_timeAt_64 : decode cX0_timeAt 64 = .ok (.iadd, 1) := by decide +kernel
theorem dX0_timeAt_65 : decode cX0_timeAt 65 = .ok (.iconst 1, 1) := by decide +kernel
theorem dX0_timeAt_66 : decode cX0_timeAt 66 = .ok (.isub, 1) := by decide +kernel
theorem dX0_timeAt_67 : decode cX0_timeAt 67 = .ok (.aload_n 0, 1) := by decide +kernel
theorem dX0_timeAt_68 : decode cX0_timeAt 68 = .ok (.getfield 18, 3) := by decide +kernel
theorem dX0_timeAt_71 : decode cX0_timeAt 71 = .ok (.idiv, 1) := by decide +kernel
theorem dX0_timeAt_72 : decode cX0_timeAt 72 = .ok (.iadd, 1) := by decide +kernel
theorem dX0_timeAt_73 : decode cX0_timeAt 73 = .ok (.ireturn, 1) := by decide +kernel
theorem dX1_init_0 : decode cX1_init 0 = .ok (.aload_n 0, 1) := by decide +kernel
theorem dX1_init_1 : decode cX1_init 1 = .ok (.invokespecial 3, 3) := by decide +kernel
theorem dX1_init_4 : decode cX1_init 4 = .ok (.aload_n 0, 1) := by decide +kernel
theorem dX1_init_5 : decode cX1_init 5 = .ok (.bipush 12, 2) := by decide +kernel
theorem dX1_init_7 : decode cX1_init 7 = .ok (.newarray .int, 2) := by decide +kernel
theorem dX1_init_9 : decode cX1_init 9 = .ok (.putfield 9, 3) := by decide +kernel
theorem dX1_init_12 : decode cX1_init 12 = .ok (.aload_n 0, 1) := by decide +kernel
theorem dX1_init_13 : decode cX1_init 13 = .ok (.bipush 12, 2) := by decide +kernel
theorem dX1_init_15 : decode cX1_init 15 = .ok (.newarray .int, 2) := by decide +kernel
theorem dX1_init_17 : decode cX1_init 17 = .ok (.putfield 15, 3) := by decide +kernel
theorem dX1_init_20 : decode cX1_init 20 = .ok (.aload_n 0, 1) := by decide +kernel
theorem dX1_init_21 : decode cX1_init 21 = .ok (.bipush 12, 2) := by decide +kernel
theorem dX1_init_23 : decode cX1_init 23 = .ok (.newarray .int, 2) := by decide +kernel
theorem dX1_init_25 : decode cX1_init 25 = .ok (.putfield 18, 3) := by decide +kernel
theorem dX1_init_28 : decode cX1_init 28 = .ok (.aload_n 0, 1) := by decide +kernel
theorem dX1_init_29 : decode cX1_init 29 = .ok (.bipush 12, 2) := by decide +kernel
theorem dX1_init_31 : decode cX1_init 31 = .ok (.newarray .int, 2) := by decide +kernel
theorem dX1_init_33 : decode cX1_init 33 = .ok (.putfield 21, 3) := by decide +kernel
theorem dX1_init_36 : decode cX1_init 36 = .ok (.aload_n 0, 1) := by decide +kernel
theorem dX1_init_37 : decode cX1_init 37 = .ok (.bipush 12, 2) := by decide +kernel
theorem dX1_init_39 : decode cX1_init 39 = .ok (.newarray .int, 2) := by decide +kernel
theorem dX1_init_41 : decode cX1_init 41 = .ok (.putfield 24, 3) := by decide +kernel
theorem dX1_init_44 : decode cX1_init 44 = .ok (.aload_n 0, 1) := by decide +kernel
theorem dX1_init_45 : decode cX1_init 45 = .ok (.bipush 66, 2) := by decide +kernel
theorem dX1_init_47 : decode cX1_init 47 = .ok (.newarray .int, 2) := by decide +kernel
theorem dX1_init_49 : decode cX1_init 49 = .ok (.putfield 27, 3) := by decide +kernel
theorem dX1_init_52 : decode cX1_init 52 = .ok (.return_, 1) := by decide +kernel
theorem dX1_reckon_0 : decode cX1_reckon 0 = .ok (.aload_n 0, 1) := by decide +kernel
theorem dX1_reckon_1 : decode cX1_reckon 1 = .ok (.aload_n 1, 1) := by decide +kernel
theorem dX1_reckon_2 : decode cX1_reckon 2 = .ok (.aload_n 2, 1) := by decide +kernel
theorem dX1_reckon_3 : decode cX1_reckon 3 = .ok (.invokevirtual 30, 3) := by decide +kernel
theorem dX1_reckon_6 : decode cX1_reckon 6 = .ok (.aload_n 0, 1) := by decide +kernel
theorem dX1_reckon_7 : decode cX1_reckon 7 = .ok (.ldc 34, 2) := by decide +kernel
theorem dX1_reckon_9 : decode cX1_reckon 9 = .ok (.putfield 35, 3) := by decide +kernel
theorem dX1_reckon_12 : decode cX1_reckon 12 = .ok (.aload_n 0, 1) := by decide +kernel
theorem dX1_reckon_13 : decode cX1_reckon 13 = .ok (.ldc 34, 2) := by decide +kernel
theorem dX1_reckon_15 : decode cX1_reckon 15 = .ok (.putfield 39, 3) := by decide +kernel
theorem dX1_reckon_18 : decode cX1_reckon 18 = .ok (.aload_n 0, 1) := by decide +kernel
theorem dX1_reckon_19 : decode cX1_reckon 19 = .ok (.ldc 34, 2) := by decide +kernel
theorem dX1_reckon_21 : decode cX1_reckon 21 = .ok (.putfield 42, 3) := by decide +kernel
theorem dX1_reckon_24 : decode cX1_reckon 24 = .ok (.aload_n 0, 1) := by decide +kernel
theorem dX1_reckon_25 : decode cX1_reckon 25 = .ok (.ldc 34, 2) := by decide +kernel
theorem dX1_reckon_27 : decode cX1_reckon 27 = .ok (.putfield 45, 3) := by decide +kernel
theorem dX1_reckon_30 : decode cX1_reckon 30 = .ok (.aload_n 0, 1) := by decide +kernel
theorem dX1_reckon_31 : decode cX1_reckon 31 = .ok (.getfield 48, 3) := by decide +kernel
theorem dX1_reckon_34 : decode cX1_reckon 34 = .ok (.iconst 2, 1) := by decide +kernel
theorem dX1_reckon_35 : decode cX1_reckon 35 = .ok (.if_icmp .lt 23, 3) := by decide +kernel
theorem dX1_reckon_38 : decode cX1_reckon 38 = .ok (.aload_n 0, 1) := by decide +kernel
theorem dX1_reckon_39 : decode cX1_reckon 39 = .ok (.aload_n 0, 1) := by decide +kernel
theorem dX1_reckon_40 : decode cX1_reckon 40 = .ok (.invokevirtual 51, 3) := by decide +kernel
theorem dX1_reckon_43 : decode cX1_reckon 43 = .ok (.putfield 35, 3) := by decide +kernel
theorem dX1_reckon_46 : decode cX1_reckon 46 = .ok (.aload_n 0, 1) := by decide +kernel
theorem dX1_reckon_47 : decode cX1_reckon 47 = .ok (.aload_n 0, 1) := by decide +kernel
theorem dX1_reckon_48 : decode cX1_reckon 48 = .ok (.invokevirtual 55, 3) := by decide +kernel
theorem dX1_reckon_51 : decode cX1_reckon 51 = .ok (.putfield 39, 3) := by decide +kernel
theorem dX1_reckon_54 : decode cX1_reckon 54 = .ok (.aload_n 0, 1) := by decide +kernel
theorem dX1_reckon_55 : decode cX1_reckon 55 = .ok (.invokevirtual 58, 3) := by decide +kernel
theorem dX1_reckon_58 : decode cX1_reckon 58 = .ok (.return_, 1) := by decide +kernel
theorem dX1_look_0 : decode cX1_look 0 = .ok (.aload_n 0, 1) := by decide +kernel
theorem dX1_look_1 : decode cX1_look 1 = .ok (.iconst 0, 1) := by decide +kernel
theorem dX1_look_2 : decode cX1_look 2 = .ok (.putfield 48, 3) := by decide +kernel
theorem dX1_look_5 : decode cX1_look 5 = .ok (.iconst 0, 1) := by decide +kernel
theorem dX1_look_6 : decode cX1_look 6 = .ok (.istore_n 3, 1) := by decide +kernel
theorem dX1_look_7 : decode cX1_look 7 = .ok (.iload_n 3, 1) := by decide +kernel
theorem dX1_look_8 : decode cX1_look 8 = .ok (.aload_n 2, 1) := by decide +kernel
theorem dX1_look_9 : decode cX1_look 9 = .ok (.invokevirtual 61, 3) := by decide +kernel
theorem dX1_look_12 : decode cX1_look 12 = .ok (.if_icmp .ge 90, 3) := by decide +kernel
theorem dX1_look_15 : decode cX1_look 15 = .ok (.aload_n 0, 1) := by decide +kernel
theorem dX1_look_16 : decode cX1_look 16 = .ok (.getfield 48, 3) := by decide +kernel
theorem dX1_look_19 : decode cX1_look 19 = .ok (.bipush 12, 2) := by decide +kernel
theorem dX1_look_21 : decode cX1_look 21 = .ok (.if_icmp .ge 81, 3) := by decide +kernel
theorem dX1_look_24 : decode cX1_look 24 = .ok (.aload_n 2, 1) := by decide +kernel
theorem dX1_look_25 : decode cX1_look 25 = .ok (.iload_n 3, 1) := by decide +kernel
theorem dX1_look_26 : decode cX1_look 26 = .ok (.invokevirtual 66, 3) := by decide +kernel
theorem dX1_look_29 : decode cX1_look 29 = .ok (.checkcast 70, 3) := by decide +kernel
theorem dX1_look_32 : decode cX1_look 32 = .ok (.astore 4, 2) := by decide +kernel
theorem dX1_look_34 : decode cX1_look 34 = .ok (.aload 4, 2) := by decide +kernel
theorem dX1_look_36 : decode cX1_look 36 = .ok (.aload_n 1, 1) := by decide +kernel
theorem dX1_look_37 : decode cX1_look 37 = .ok (.invokevirtual 72, 3) := by decide +kernel
theorem dX1_look_40 : decode cX1_look 40 = .ok (.ifCond .eq 56, 3) := by decide +kernel
theorem dX1_look_43 : decode cX1_look 43 = .ok (.aload_n 0, 1) := by decide +kernel
theorem dX1_look_44 : decode cX1_look 44 = .ok (.getfield 9, 3) := by decide +kernel
theorem dX1_look_47 : decode cX1_look 47 = .ok (.aload_n 0, 1) := by decide +kernel
theorem dX1_look_48 : decode cX1_look 48 = .ok (.getfield 48, 3) := by decide +kernel
theorem dX1_look_51 : decode cX1_look 51 = .ok (.aload 4, 2) := by decide +kernel
theorem dX1_look_53 : decode cX1_look 53 = .ok (.getfield 76, 3) := by decide +kernel
theorem dX1_look_56 : decode cX1_look 56 = .ok (.iastore, 1) := by decide +kernel
theorem dX1_look_57 : decode cX1_look 57 = .ok (.aload_n 0, 1) := by decide +kernel
theorem dX1_look_58 : decode cX1_look 58 = .ok (.getfield 15, 3) := by decide +kernel
theorem dX1_look_61 : decode cX1_look 61 = .ok (.aload_n 0, 1) := by decide +kernel
theorem dX1_look_62 : decode cX1_look 62 = .ok (.getfield 48, 3) := by decide +kernel
theorem dX1_look_65 : decode cX1_look 65 = .ok (.aload 4, 2) := by decide +kernel
theorem dX1_look_67 : decode cX1_look 67 = .ok (.getfield 79, 3) := by decide +kernel
theorem dX1_look_70 : decode cX1_look 70 = .ok (.iastore, 1) := by decide +kernel
theorem dX1_look_71 : decode cX1_look 71 = .ok (.aload_n 0, 1) := by decide +kernel
theorem dX1_look_72 : decode cX1_look 72 = .ok (.getfield 18, 3) := by decide +kernel
theorem dX1_look_75 : decode cX1_look 75 = .ok (.aload_n 0, 1) := by decide +kernel
theorem dX1_look_76 : decode cX1_look 76 = .ok (.getfield 48, 3) := by decide +kernel
theorem dX1_look_79 : decode cX1_look 79 = .ok (.aload 4, 2) := by decide +kernel
theorem dX1_look_81 : decode cX1_look 81 = .ok (.aload_n 1, 1) := by decide +kernel
theorem dX1_look_82 : decode cX1_look 82 = .ok (.invokevirtual 82, 3) := by decide +kernel
theorem dX1_look_85 : decode cX1_look 85 = .ok (.iastore, 1) := by decide +kernel
theorem dX1_look_86 : decode cX1_look 86 = .ok (.aload_n 0, 1) := by decide +kernel
theorem dX1_look_87 : decode cX1_look 87 = .ok (.dup, 1) := by decide +kernel
theorem dX1_look_88 : decode cX1_look 88 = .ok (.getfield 48, 3) := by decide +kernel
theorem dX1_look_91 : decode cX1_look 91 = .ok (.iconst 1, 1) := by decide +kernel
theorem dX1_look_92 : decode cX1_look 92 = .ok (.iadd, 1) := by decide +kernel
theorem dX1_look_93 : decode cX1_look 93 = .ok (.putfield 48, 3) := by decide +kernel
theorem dX1_look_96 : decode cX1_look 96 = .ok (.iinc 3 1, 3) := by decide +kernel
theorem dX1_look_99 : decode cX1_look 99 = .ok (.goto (-92), 3) := by decide +kernel
theorem dX1_look_102 : decode cX1_look 102 = .ok (.return_, 1) := by decide +kernel
theorem dX1_middleSlope_0 : decode cX1_middleSlope 0 = .ok (.iconst 0, 1) := by decide +kernel
theorem dX1_middleSlope_1 : decode cX1_middleSlope 1 = .ok (.istore_n 1, 1) := by decide +kernel
theorem dX1_middleSlope_2 : decode cX1_middleSlope 2 = .ok (.iconst 1, 1) := by decide +kernel
theorem dX1_middleSlope_3 : decode cX1_middleSlope 3 = .ok (.istore_n 2, 1) := by decide +kernel
theorem dX1_middleSlope_4 : decode cX1_middleSlope 4 = .ok (.iload_n 2, 1) := by decide +kernel
theorem dX1_middleSlope_5 : decode cX1_middleSlope 5 = .ok (.aload_n 0, 1) := by decide +kernel
theorem dX1_middleSlope_6 : decode cX1_middleSlope 6 = .ok (.getfield 48, 3) := by decide +kernel
theorem dX1_middleSlope_9 : decode cX1_middleSlope 9 = .ok (.if_icmp .ge 79, 3) := by decide +kernel
theorem dX1_middleSlope_12 : decode cX1_middleSlope 12 = .ok (.iconst 0, 1) := by decide +kernel
theorem dX1_middleSlope_13 : decode cX1_middleSlope 13 = .ok (.istore_n 3, 1) := by decide +kernel
theorem dX1_middleSlope_14 : decode cX1_middleSlope 14 = .ok (.iload_n 3, 1) := by decide +kernel
theorem dX1_middleSlope_15 : decode cX1_middleSlope 15 = .ok (.iload_n 2, 1) := by decide +kernel
theorem dX1_middleSlope_16 : decode cX1_middleSlope 16 = .ok (.if_icmp .ge 66, 3) := by decide +kernel
theorem dX1_middleSlope_19 : decode cX1_middleSlope 19 = .ok (.aload_n 0, 1) := by decide +kernel
theorem dX1_middleSlope_20 : decode cX1_middleSlope 20 = .ok (.getfield 15, 3) := by decide +kernel
theorem dX1_middleSlope_23 : decode cX1_middleSlope 23 = .ok (.iload_n 2, 1) := by decide +kernel
theorem dX1_middleSlope_24 : decode cX1_middleSlope 24 = .ok (.iaload, 1) := by decide +kernel
theorem dX1_middleSlope_25 : decode cX1_middleSlope 25 = .ok (.aload_n 0, 1) := by decide +kernel
theorem dX1_middleSlope_26 : decode cX1_middleSlope 26 = .ok (.getfield 15, 3) := by decide +kernel
theorem dX1_middleSlope_29 : decode cX1_middleSlope 29 = .ok (.iload_n 3, 1) := by decide +kernel
theorem dX1_middleSlope_30 : decode cX1_middleSlope 30 = .ok (.iaload, 1) := by decide +kernel
theorem dX1_middleSlope_31 : decode cX1_middleSlope 31 = .ok (.isub, 1) := by decide +kernel
theorem dX1_middleSlope_32 : decode cX1_middleSlope 32 = .ok (.istore 4, 2) := by decide +kernel
theorem dX1_middleSlope_34 : decode cX1_middleSlope 34 = .ok (.iload 4, 2) := by decide +kernel
theorem dX1_middleSlope_36 : decode cX1_middleSlope 36 = .ok (.ifCond .le 40, 3) := by decide +kernel
theorem dX1_middleSlope_39 : decode cX1_middleSlope 39 = .ok (.iload_n 1, 1) := by decide +kernel
theorem dX1_middleSlope_40 : decode cX1_middleSlope 40 = .ok (.aload_n 0, 1) := by decide +kernel
theorem dX1_middleSlope_41 : decode cX1_middleSlope 41 = .ok (.getfield 27, 3) := by decide +kernel
theorem dX1_middleSlope_44 : decode cX1_middleSlope 44 = .ok (.arraylength, 1) := by decide +kernel
theorem dX1_middleSlope_45 : decode cX1_middleSlope 45 = .ok (.if_icmp .ge 31, 3) := by decide +kernel
theorem dX1_middleSlope_48 : decode cX1_middleSlope 48 = .ok (.aload_n 0, 1) := by decide +kernel
theorem dX1_middleSlope_49 : decode cX1_middleSlope 49 = .ok (.getfield 27, 3) := by decide +kernel
theorem dX1_middleSlope_52 : decode cX1_middleSlope 52 = .ok (.iload_n 1, 1) := by decide +kernel
theorem dX1_middleSlope_53 : decode cX1_middleSlope 53 = .ok (.bipush 100, 2) := by decide +kernel
theorem dX1_middleSlope_55 : decode cX1_middleSlope 55 = .ok (.aload_n 0, 1) := by decide +kernel
theorem dX1_middleSlope_56 : decode cX1_middleSlope 56 = .ok (.getfield 18, 3) := by decide +kernel
theorem dX1_middleSlope_59 : decode cX1_middleSlope 59 = .ok (.iload_n 2, 1) := by decide +kernel
theorem dX1_middleSlope_60 : decode cX1_middleSlope 60 = .ok (.iaload, 1) := by decide +kernel
theorem dX1_middleSlope_61 : decode cX1_middleSlope 61 = .ok (.aload_n 0, 1) := by decide +kernel
theorem dX1_middleSlope_62 : decode cX1_middleSlope 62 = .ok (.getfield 18, 3) := by decide +kernel
theorem dX1_middleSlope_65 : decode cX1_middleSlope 65 = .ok (.iload_n 3, 1) := by decide +kernel
theorem dX1_middleSlope_66 : decode cX1_middleSlope 66 = .ok (.iaload, 1) := by decide +kernel
theorem dX1_middleSlope_67 : decode cX1_middleSlope 67 = .ok (.isub, 1) := by decide +kernel
theorem dX1_middleSlope_68 : decode cX1_middleSlope 68 = .ok (.imul, 1) := by decide +kernel
theorem dX1_middleSlope_69 : decode cX1_middleSlope 69 = .ok (.iload 4, 2) := by decide +kernel
theorem dX1_middleSlope_71 : decode cX1_middleSlope 71 = .ok (.idiv, 1) := by decide +kernel
theorem dX1_middleSlope_72 : decode cX1_middleSlope 72 = .ok (.iastore, 1) := by decide +kernel
theorem dX1_middleSlope_73 : decode cX1_middleSlope 73 = .ok (.iinc 1 1, 3) := by decide +kernel
theorem dX1_middleSlope_76 : decode cX1_middleSlope 76 = .ok (.iinc 3 1, 3) := by decide +kernel
theorem dX1_middleSlope_79 : decode cX1_middleSlope 79 = .ok (.goto (-65), 3) := by decide +kernel
theorem dX1_middleSlope_82 : decode cX1_middleSlope 82 = .ok (.iinc 2 1, 3) := by decide +kernel
theorem dX1_middleSlope_85 : decode cX1_middleSlope 85 = .ok (.goto (-81), 3) := by decide +kernel
theorem dX1_middleSlope_88 : decode cX1_middleSlope 88 = .ok (.aload_n 0, 1) := by decide +kernel
theorem dX1_middleSlope_89 : decode cX1_middleSlope 89 = .ok (.getfield 27, 3) := by decide +kernel
theorem dX1_middleSlope_92 : decode cX1_middleSlope 92 = .ok (.iload_n 1, 1) := by decide +kernel
theorem dX1_middleSlope_93 : decode cX1_middleSlope 93 = .ok (.invokestatic 86, 3) := by decide +kernel
theorem dX1_middleSlope_96 : decode cX1_middleSlope 96 = .ok (.ireturn, 1) := by decide +kernel
theorem dX1_riseTo_0 : decode cX1_riseTo 0 = .ok (.aload_n 0, 1) := by decide +kernel
theorem dX1_riseTo_1 : decode cX1_riseTo 1 = .ok (.getfield 35, 3) := by decide +kernel
theorem dX1_riseTo_4 : decode cX1_riseTo 4 = .ok (.i2l, 1) := by decide +kernel
theorem dX1_riseTo_5 : decode cX1_riseTo 5 = .ok (.iload_n 1, 1) := by decide +kernel
theorem dX1_riseTo_6 : decode cX1_riseTo 6 = .ok (.i2l, 1) := by decide +kernel
theorem dX1_riseTo_7 : decode cX1_riseTo 7 = .ok (.lmul, 1) := by decide +kernel
theorem dX1_riseTo_8 : decode cX1_riseTo 8 = .ok (.ldc2_w 90, 3) := by decide +kernel
theorem dX1_riseTo_11 : decode cX1_riseTo 11 = .ok (.ldiv, 1) := by decide +kernel
theorem dX1_riseTo_12 : decode cX1_riseTo 12 = .ok (.l2i, 1) := by decide +kernel
theorem dX1_riseTo_13 : decode cX1_riseTo 13 = .ok (.ireturn, 1) := by decide +kernel
theorem dX1_middleBase_0 : decode cX1_middleBase 0 = .ok (.iconst 0, 1) := by decide +kernel
theorem dX1_middleBase_1 : decode cX1_middleBase 1 = .ok (.istore_n 1, 1) := by decide +kernel
theorem dX1_middleBase_2 : decode cX1_middleBase 2 = .ok (.iload_n 1, 1) := by decide +kernel
theorem dX1_middleBase_3 : decode cX1_middleBase 3 = .ok (.aload_n 0, 1) := by decide +kernel
theorem dX1_middleBase_4 : decode cX1_middleBase 4 = .ok (.getfield 48, 3) := by decide +kernel
theorem dX1_middleBase_7 : decode cX1_middleBase 7 = .ok (.if_icmp .ge 32, 3) := by decide +kernel
theorem dX1_middleBase_10 : decode cX1_middleBase 10 = .ok (.aload_n 0, 1) := by decide +kernel
theorem dX1_middleBase_11 : decode cX1_middleBase 11 = .ok (.getfield 24, 3) := by decide +kernel
theorem dX1_middleBase_14 : decode cX1_middleBase 14 = .ok (.iload_n 1, 1) := by decide +kernel
theorem dX1_middleBase_15 : decode cX1_middleBase 15 = .ok (.aload_n 0, 1) := by decide +kernel
theorem dX1_middleBase_16 : decode cX1_middleBase 16 = .ok (.getfield 18, 3) := by decide +kernel
theorem dX1_middleBase_19 : decode cX1_middleBase 19 = .ok (.iload_n 1, 1) := by decide +kernel
theorem dX1_middleBase_20 : decode cX1_middleBase 20 = .ok (.iaload, 1) := by decide +kernel
theorem dX1_middleBase_21 : decode cX1_middleBase 21 = .ok (.aload_n 0, 1) := by decide +kernel
theorem dX1_middleBase_22 : decode cX1_middleBase 22 = .ok (.aload_n 0, 1) := by decide +kernel
theorem dX1_middleBase_23 : decode cX1_middleBase 23 = .ok (.getfield 15, 3) := by decide +kernel
theorem dX1_middleBase_26 : decode cX1_middleBase 26 = .ok (.iload_n 1, 1) := by decide +kernel
theorem dX1_middleBase_27 : decode cX1_middleBase 27 = .ok (.iaload, 1) := by decide +kernel
theorem dX1_middleBase_28 : decode cX1_middleBase 28 = .ok (.invokevirtual 92, 3) := by decide +kernel
theorem dX1_middleBase_31 : decode cX1_middleBase 31 = .ok (.isub, 1) := by decide +kernel
theorem dX1_middleBase_32 : decode cX1_middleBase 32 = .ok (.iastore, 1) := by decide +kernel
theorem dX1_middleBase_33 : decode cX1_middleBase 33 = .ok (.iinc 1 1, 3) := by decide +kernel
theorem dX1_middleBase_36 : decode cX1_middleBase 36 = .ok (.goto (-34), 3) := by decide +kernel
theorem dX1_middleBase_39 : decode cX1_middleBase 39 = .ok (.aload_n 0, 1) := by decide +kernel
theorem dX1_middleBase_40 : decode cX1_middleBase 40 = .ok (.getfield 24, 3) := by decide +kernel
theorem dX1_middleBase_43 : decode cX1_middleBase 43 = .ok (.aload_n 0, 1) := by decide +kernel
theorem dX1_middleBase_44 : decode cX1_middleBase 44 = .ok (.getfield 48, 3) := by decide +kernel
theorem dX1_middleBase_47 : decode cX1_middleBase 47 = .ok (.invokestatic 86, 3) := by decide +kernel
theorem dX1_middleBase_50 : decode cX1_middleBase 50 = .ok (.ireturn, 1) := by decide +kernel
theorem dX1_findOdd_0 : decode cX1_findOdd 0 = .ok (.iconst (-1), 1) := by decide +kernel
theorem dX1_findOdd_1 : decode cX1_findOdd 1 = .ok (.istore_n 1, 1) := by decide +kernel
theorem dX1_findOdd_2 : decode cX1_findOdd 2 = .ok (.iconst 0, 1) := by decide +kernel
theorem dX1_findOdd_3 : decode cX1_findOdd 3 = .ok (.istore_n 2, 1) := by decide +kernel
theorem dX1_findOdd_4 : decode cX1_findOdd 4 = .ok (.iload_n 2, 1) := by decide +kernel
theorem dX1_findOdd_5 : decode cX1_findOdd 5 = .ok (.aload_n 0, 1) := by decide +kernel
theorem dX1_findOdd_6 : decode cX1_findOdd 6 = .ok (.getfield 48, 3) := by decide +kernel
theorem dX1_findOdd_9 : decode cX1_findOdd 9 = .ok (.if_icmp .ge 92, 3) := by decide +kernel
theorem dX1_findOdd_12 : decode cX1_findOdd 12 = .ok (.aload_n 0, 1) := by decide +kernel
theorem dX1_findOdd_13 : decode cX1_findOdd 13 = .ok (.getfield 21, 3) := by decide +kernel
theorem dX1_findOdd_16 : decode cX1_findOdd 16 = .ok (.iload_n 2, 1) := by decide +kernel
theorem dX1_findOdd_17 : decode cX1_findOdd 17 = .ok (.aload_n 0, 1) := by decide +kernel
theorem dX1_findOdd_18 : decode cX1_findOdd 18 = .ok (.getfield 18, 3) := by decide +kernel
theorem dX1_findOdd_21 : decode cX1_findOdd 21 = .ok (.iload_n 2, 1) := by decide +kernel
theorem dX1_findOdd_22 : decode cX1_findOdd 22 = .ok (.iaload, 1) := by decide +kernel
theorem dX1_findOdd_23 : decode cX1_findOdd 23 = .ok (.aload_n 0, 1) := by decide +kernel
theorem dX1_findOdd_24 : decode cX1_findOdd 24 = .ok (.aload_n 0, 1) := by decide +kernel
theorem dX1_findOdd_25 : decode cX1_findOdd 25 = .ok (.getfield 15, 3) := by decide +kernel
theorem dX1_findOdd_28 : decode cX1_findOdd 28 = .ok (.iload_n 2, 1) := by decide +kernel
theorem dX1_findOdd_29 : decode cX1_findOdd 29 = .ok (.iaload, 1) := by decide +kernel
theorem dX1_findOdd_30 : decode cX1_findOdd 30 = .ok (.invokevirtual 92, 3) := by decide +kernel
theorem dX1_findOdd_33 : decode cX1_findOdd 33 = .ok (.isub, 1) := by decide +kernel
theorem dX1_findOdd_34 : decode cX1_findOdd 34 = .ok (.aload_n 0, 1) := by decide +kernel
theorem dX1_findOdd_35 : decode cX1_findOdd 35 = .ok (.getfield 39, 3) := by decide +kernel
theorem dX1_findOdd_38 : decode cX1_findOdd 38 = .ok (.isub, 1) := by decide +kernel
theorem dX1_findOdd_39 : decode cX1_findOdd 39 = .ok (.iastore, 1) := by decide +kernel
theorem dX1_findOdd_40 : decode cX1_findOdd 40 = .ok (.aload_n 0, 1) := by decide +kernel
theorem dX1_findOdd_41 : decode cX1_findOdd 41 = .ok (.getfield 21, 3) := by decide +kernel
theorem dX1_findOdd_44 : decode cX1_findOdd 44 = .ok (.iload_n 2, 1) := by decide +kernel
theorem dX1_findOdd_45 : decode cX1_findOdd 45 = .ok (.iaload, 1) := by decide +kernel
theorem dX1_findOdd_46 : decode cX1_findOdd 46 = .ok (.invokestatic 96, 3) := by decide +kernel
theorem dX1_findOdd_49 : decode cX1_findOdd 49 = .ok (.istore_n 3, 1) := by decide +kernel
theorem dX1_findOdd_50 : decode cX1_findOdd 50 = .ok (.iload_n 3, 1) := by decide +kernel
theorem dX1_findOdd_51 : decode cX1_findOdd 51 = .ok (.iload_n 1, 1) := by decide +kernel
theorem dX1_findOdd_52 : decode cX1_findOdd 52 = .ok (.if_icmp .gt 21, 3) := by decide +kernel
theorem dX1_findOdd_55 : decode cX1_findOdd 55 = .ok (.iload_n 3, 1) := by decide +kernel
theorem dX1_findOdd_56 : decode cX1_findOdd 56 = .ok (.iload_n 1, 1) := by decide +kernel
theorem dX1_findOdd_57 : decode cX1_findOdd 57 = .ok (.if_icmp .ne 38, 3) := by decide +kernel
theorem dX1_findOdd_60 : decode cX1_findOdd 60 = .ok (.aload_n 0, 1) := by decide +kernel
theorem dX1_findOdd_61 : decode cX1_findOdd 61 = .ok (.getfield 9, 3) := by decide +kernel
theorem dX1_findOdd_64 : decode cX1_findOdd 64 = .ok (.iload_n 2, 1) := by decide +kernel
theorem dX1_findOdd_65 : decode cX1_findOdd 65 = .ok (.iaload, 1) := by decide +kernel
theorem dX1_findOdd_66 : decode cX1_findOdd 66 = .ok (.aload_n 0, 1) := by decide +kernel
theorem dX1_findOdd_67 : decode cX1_findOdd 67 = .ok (.getfield 42, 3) := by decide +kernel
theorem dX1_findOdd_70 : decode cX1_findOdd 70 = .ok (.if_icmp .ge 25, 3) := by decide +kernel
theorem dX1_findOdd_73 : decode cX1_findOdd 73 = .ok (.iload_n 3, 1) := by decide +kernel
theorem dX1_findOdd_74 : decode cX1_findOdd 74 = .ok (.istore_n 1, 1) := by decide +kernel
theorem dX1_findOdd_75 : decode cX1_findOdd 75 = .ok (.aload_n 0, 1) := by decide +kernel
theorem dX1_findOdd_76 : decode cX1_findOdd 76 = .ok (.aload_n 0, 1) := by decide +kernel
theorem dX1_findOdd_77 : decode cX1_findOdd 77 = .ok (.getfield 9, 3) := by decide +kernel
theorem dX1_findOdd_80 : decode cX1_findOdd 80 = .ok (.iload_n 2, 1) := by decide +kernel
theorem dX1_findOdd_81 : decode cX1_findOdd 81 = .ok (.iaload, 1) := by decide +kernel
theorem dX1_findOdd_82 : decode cX1_findOdd 82 = .ok (.putfield 42, 3) := by decide +kernel
theorem dX1_findOdd_85 : decode cX1_findOdd 85 = .ok (.aload_n 0, 1) := by decide +kernel
theorem dX1_findOdd_86 : decode cX1_findOdd 86 = .ok (.aload_n 0, 1) := by decide +kernel
theorem dX1_findOdd_87 : decode cX1_findOdd 87 = .ok (.getfield 21, 3) := by decide +kernel
theorem dX1_findOdd_90 : decode cX1_findOdd 90 = .ok (.iload_n 2, 1) := by decide +kernel
theorem dX1_findOdd_91 : decode cX1_findOdd 91 = .ok (.iaload, 1) := by decide +kernel
theorem dX1_findOdd_92 : decode cX1_findOdd 92 = .ok (.putfield 45, 3) := by decide +kernel
theorem dX1_findOdd_95 : decode cX1_findOdd 95 = .ok (.iinc 2 1, 3) := by decide +kernel
theorem dX1_findOdd_98 : decode cX1_findOdd 98 = .ok (.goto (-94), 3) := by decide +kernel
theorem dX1_findOdd_101 : decode cX1_findOdd 101 = .ok (.return_, 1) := by decide +kernel
theorem dX1_tell_0 : decode cX1_tell 0 = .ok (.iload_n 1, 1) := by decide +kernel
theorem dX1_tell_1 : decode cX1_tell 1 = .ok (.tableswitch 78 0 5 #[39, 44, 49, 54, 59, 64], 39) := by decide +kernel
theorem dX1_tell_40 : decode cX1_tell 40 = .ok (.aload_n 0, 1) := by decide +kernel
theorem dX1_tell_41 : decode cX1_tell 41 = .ok (.getfield 48, 3) := by decide +kernel
theorem dX1_tell_44 : decode cX1_tell 44 = .ok (.ireturn, 1) := by decide +kernel
theorem dX1_tell_45 : decode cX1_tell 45 = .ok (.aload_n 0, 1) := by decide +kernel
theorem dX1_tell_46 : decode cX1_tell 46 = .ok (.getfield 35, 3) := by decide +kernel
theorem dX1_tell_49 : decode cX1_tell 49 = .ok (.ireturn, 1) := by decide +kernel
theorem dX1_tell_50 : decode cX1_tell 50 = .ok (.aload_n 0, 1) := by decide +kernel
theorem dX1_tell_51 : decode cX1_tell 51 = .ok (.getfield 39, 3) := by decide +kernel
theorem dX1_tell_54 : decode cX1_tell 54 = .ok (.ireturn, 1) := by decide +kernel
theorem dX1_tell_55 : decode cX1_tell 55 = .ok (.aload_n 0, 1) := by decide +kernel
theorem dX1_tell_56 : decode cX1_tell 56 = .ok (.getfield 42, 3) := by decide +kernel
theorem dX1_tell_59 : decode cX1_tell 59 = .ok (.ireturn, 1) := by decide +kernel
theorem dX1_tell_60 : decode cX1_tell 60 = .ok (.aload_n 0, 1) := by decide +kernel
theorem dX1_tell_61 : decode cX1_tell 61 = .ok (.getfield 45, 3) := by decide +kernel
theorem dX1_tell_64 : decode cX1_tell 64 = .ok (.ireturn, 1) := by decide +kernel
theorem dX1_tell_65 : decode cX1_tell 65 = .ok (.aload_n 0, 1) := by decide +kernel
theorem dX1_tell_66 : decode cX1_tell 66 = .ok (.iconst 1, 1) := by decide +kernel
theorem dX1_tell_67 : decode cX1_tell 67 = .ok (.invokevirtual 101, 3) := by decide +kernel
theorem dX1_tell_70 : decode cX1_tell 70 = .ok (.aload_n 0, 1) := by decide +kernel
theorem dX1_tell_71 : decode cX1_tell 71 = .ok (.iconst (-1), 1) := by decide +kernel
theorem dX1_tell_72 : decode cX1_tell 72 = .ok (.invokevirtual 101, 3) := by decide +kernel
theorem dX1_tell_75 : decode cX1_tell 75 = .ok (.invokestatic 104, 3) := by decide +kernel
theorem dX1_tell_78 : decode cX1_tell 78 = .ok (.ireturn, 1) := by decide +kernel
theorem dX1_tell_79 : decode cX1_tell 79 = .ok (.aload_n 0, 1) := by decide +kernel
theorem dX1_tell_80 : decode cX1_tell 80 = .ok (.invokevirtual 108, 3) := by decide +kernel
theorem dX1_tell_83 : decode cX1_tell 83 = .ok (.ireturn, 1) := by decide +kernel
theorem dX1_longestRun_0 : decode cX1_longestRun 0 = .ok (.iconst 0, 1) := by decide +kernel
theorem dX1_longestRun_1 : decode cX1_longestRun 1 = .ok (.istore_n 2, 1) := by decide +kernel
theorem dX1_longestRun_2 : decode cX1_longestRun 2 = .ok (.iconst 0, 1) := by decide +kernel
theorem dX1_longestRun_3 : decode cX1_longestRun 3 = .ok (.istore_n 3, 1) := by decide +kernel
theorem dX1_longestRun_4 : decode cX1_longestRun 4 = .ok (.iload_n 3, 1) := by decide +kernel
theorem dX1_longestRun_5 : decode cX1_longestRun 5 = .ok (.aload_n 0, 1) := by decide +kernel
theorem dX1_longestRun_6 : decode cX1_longestRun 6 = .ok (.getfield 48, 3) := by decide +kernel
theorem dX1_longestRun_9 : decode cX1_longestRun 9 = .ok (.if_icmp .ge 93, 3) := by decide +kernel
theorem dX1_longestRun_12 : decode cX1_longestRun 12 = .ok (.aload_n 0, 1) := by decide +kernel
theorem dX1_longestRun_13 : decode cX1_longestRun 13 = .ok (.getfield 24, 3) := by decide +kernel
theorem dX1_longestRun_16 : decode cX1_longestRun 16 = .ok (.iload_n 3, 1) := by decide +kernel
theorem dX1_longestRun_17 : decode cX1_longestRun 17 = .ok (.iconst 1, 1) := by decide +kernel
theorem dX1_longestRun_18 : decode cX1_longestRun 18 = .ok (.iastore, 1) := by decide +kernel
theorem dX1_longestRun_19 : decode cX1_longestRun 19 = .ok (.iconst 0, 1) := by decide +kernel
theorem dX1_longestRun_20 : decode cX1_longestRun 20 = .ok (.istore 4, 2) := by decide +kernel
theorem dX1_longestRun_22 : decode cX1_longestRun 22 = .ok (.iload 4, 2) := by decide +kernel
theorem dX1_longestRun_24 : decode cX1_longestRun 24 = .ok (.iload_n 3, 1) := by decide +kernel
theorem dX1_longestRun_25 : decode cX1_longestRun 25 = .ok (.if_icmp .ge 60, 3) := by decide +kernel
theorem dX1_longestRun_28 : decode cX1_longestRun 28 = .ok (.iload_n 1, 1) := by decide +kernel
theorem dX1_longestRun_29 : decode cX1_longestRun 29 = .ok (.aload_n 0, 1) := by decide +kernel
theorem dX1_longestRun_30 : decode cX1_longestRun 30 = .ok (.getfield 18, 3) := by decide +kernel
theorem dX1_longestRun_33 : decode cX1_longestRun 33 = .ok (.iload 4, 2) := by decide +kernel
theorem dX1_longestRun_35 : decode cX1_longestRun 35 = .ok (.iaload, 1) := by decide +kernel
theorem dX1_longestRun_36 : decode cX1_longestRun 36 = .ok (.imul, 1) := by decide +kernel
theorem dX1_longestRun_37 : decode cX1_longestRun 37 = .ok (.iload_n 1, 1) := by decide +kernel
theorem dX1_longestRun_38 : decode cX1_longestRun 38 = .ok (.aload_n 0, 1) := by decide +kernel
theorem dX1_longestRun_39 : decode cX1_longestRun 39 = .ok (.getfield 18, 3) := by decide +kernel
theorem dX1_longestRun_42 : decode cX1_longestRun 42 = .ok (.iload_n 3, 1) := by decide +kernel
theorem dX1_longestRun_43 : decode cX1_longestRun 43 = .ok (.iaload, 1) := by decide +kernel
theorem dX1_longestRun_44 : decode cX1_longestRun 44 = .ok (.imul, 1) := by decide +kernel
theorem dX1_longestRun_45 : decode cX1_longestRun 45 = .ok (.if_icmp .gt 34, 3) := by decide +kernel
theorem dX1_longestRun_48 : decode cX1_longestRun 48 = .ok (.aload_n 0, 1) := by decide +kernel
theorem dX1_longestRun_49 : decode cX1_longestRun 49 = .ok (.getfield 24, 3) := by decide +kernel
theorem dX1_longestRun_52 : decode cX1_longestRun 52 = .ok (.iload 4, 2) := by decide +kernel
theorem dX1_longestRun_54 : decode cX1_longestRun 54 = .ok (.iaload, 1) := by decide +kernel
theorem dX1_longestRun_55 : decode cX1_longestRun 55 = .ok (.aload_n 0, 1) := by decide +kernel
theorem dX1_longestRun_56 : decode cX1_longestRun 56 = .ok (.getfield 24, 3) := by decide +kernel
theorem dX1_longestRun_59 : decode cX1_longestRun 59 = .ok (.iload_n 3, 1) := by decide +kernel
theorem dX1_longestRun_60 : decode cX1_longestRun 60 = .ok (.iaload, 1) := by decide +kernel
theorem dX1_longestRun_61 : decode cX1_longestRun 61 = .ok (.if_icmp .lt 18, 3) := by decide +kernel
theorem dX1_longestRun_64 : decode cX1_longestRun 64 = .ok (.aload_n 0, 1) := by decide +kernel
theorem dX1_longestRun_65 : decode cX1_longestRun 65 = .ok (.getfield 24, 3) := by decide +kernel
theorem dX1_longestRun_68 : decode cX1_longestRun 68 = .ok (.iload_n 3, 1) := by decide +kernel
theorem dX1_longestRun_69 : decode cX1_longestRun 69 = .ok (.aload_n 0, 1) := by decide +kernel
theorem dX1_longestRun_70 : decode cX1_longestRun 70 = .ok (.getfield 24, 3) := by decide +kernel
theorem dX1_longestRun_73 : decode cX1_longestRun 73 = .ok (.iload 4, 2) := by decide +kernel
theorem dX1_longestRun_75 : decode cX1_longestRun 75 = .ok (.iaload, 1) := by decide +kernel
theorem dX1_longestRun_76 : decode cX1_longestRun 76 = .ok (.iconst 1, 1) := by decide +kernel
theorem dX1_longestRun_77 : decode cX1_longestRun 77 = .ok (.iadd, 1) := by decide +kernel
theorem dX1_longestRun_78 : decode cX1_longestRun 78 = .ok (.iastore, 1) := by decide +kernel
theorem dX1_longestRun_79 : decode cX1_longestRun 79 = .ok (.iinc 4 1, 3) := by decide +kernel
theorem dX1_longestRun_82 : decode cX1_longestRun 82 = .ok (.goto (-60), 3) := by decide +kernel
theorem dX1_longestRun_85 : decode cX1_longestRun 85 = .ok (.iload_n 2, 1) := by decide +kernel
theorem dX1_longestRun_86 : decode cX1_longestRun 86 = .ok (.aload_n 0, 1) := by decide +kernel
theorem dX1_longestRun_87 : decode cX1_longestRun 87 = .ok (.getfield 24, 3) := by decide +kernel
theorem dX1_longestRun_90 : decode cX1_longestRun 90 = .ok (.iload_n 3, 1) := by decide +kernel
theorem dX1_longestRun_91 : decode cX1_longestRun 91 = .ok (.iaload, 1) := by decide +kernel
theorem dX1_longestRun_92 : decode cX1_longestRun 92 = .ok (.invokestatic 104, 3) := by decide +kernel
theorem dX1_longestRun_95 : decode cX1_longestRun 95 = .ok (.istore_n 2, 1) := by decide +kernel
theorem dX1_longestRun_96 : decode cX1_longestRun 96 = .ok (.iinc 3 1, 3) := by decide +kernel
theorem dX1_longestRun_99 : decode cX1_longestRun 99 = .ok (.goto (-95), 3) := by decide +kernel
theorem dX1_longestRun_102 : decode cX1_longestRun 102 = .ok (.iload_n 2, 1) := by decide +kernel
theorem dX1_longestRun_103 : decode cX1_longestRun 103 = .ok (.ireturn, 1) := by decide +kernel
theorem dX1_fallingPairs_0 : decode cX1_fallingPairs 0 = .ok (.iconst 0, 1) := by decide +kernel
theorem dX1_fallingPairs_1 : decode cX1_fallingPairs 1 = .ok (.istore_n 1, 1) := by decide +kernel
theorem dX1_fallingPairs_2 : decode cX1_fallingPairs 2 = .ok (.iconst 1, 1) := by decide +kernel
theorem dX1_fallingPairs_3 : decode cX1_fallingPairs 3 = .ok (.istore_n 2, 1) := by decide +kernel
theorem dX1_fallingPairs_4 : decode cX1_fallingPairs 4 = .ok (.iload_n 2, 1) := by decide +kernel
theorem dX1_fallingPairs_5 : decode cX1_fallingPairs 5 = .ok (.aload_n 0, 1) := by decide +kernel
theorem dX1_fallingPairs_6 : decode cX1_fallingPairs 6 = .ok (.getfield 48, 3) := by decide +kernel
theorem dX1_fallingPairs_9 : decode cX1_fallingPairs 9 = .ok (.if_icmp .ge 40, 3) := by decide +kernel
theorem dX1_fallingPairs_12 : decode cX1_fallingPairs 12 = .ok (.iconst 0, 1) := by decide +kernel
theorem dX1_fallingPairs_13 : decode cX1_fallingPairs 13 = .ok (.istore_n 3, 1) := by decide +kernel
theorem dX1_fallingPairs_14 : decode cX1_fallingPairs 14 = .ok (.iload_n 3, 1) := by decide +kernel
theorem dX1_fallingPairs_15 : decode cX1_fallingPairs 15 = .ok (.iload_n 2, 1) := by decide +kernel
theorem dX1_fallingPairs_16 : decode cX1_fallingPairs 16 = .ok (.if_icmp .ge 27, 3) := by decide +kernel
theorem dX1_fallingPairs_19 : decode cX1_fallingPairs 19 = .ok (.aload_n 0, 1) := by decide +kernel
theorem dX1_fallingPairs_20 : decode cX1_fallingPairs 20 = .ok (.getfield 18, 3) := by decide +kernel
theorem dX1_fallingPairs_23 : decode cX1_fallingPairs 23 = .ok (.iload_n 2, 1) := by decide +kernel
theorem dX1_fallingPairs_24 : decode cX1_fallingPairs 24 = .ok (.iaload, 1) := by decide +kernel
theorem dX1_fallingPairs_25 : decode cX1_fallingPairs 25 = .ok (.aload_n 0, 1) := by decide +kernel
theorem dX1_fallingPairs_26 : decode cX1_fallingPairs 26 = .ok (.getfield 18, 3) := by decide +kernel
theorem dX1_fallingPairs_29 : decode cX1_fallingPairs 29 = .ok (.iload_n 3, 1) := by decide +kernel
theorem dX1_fallingPairs_30 : decode cX1_fallingPairs 30 = .ok (.iaload, 1) := by decide +kernel
theorem dX1_fallingPairs_31 : decode cX1_fallingPairs 31 = .ok (.if_icmp .ge 6, 3) := by decide +kernel
theorem dX1_fallingPairs_34 : decode cX1_fallingPairs 34 = .ok (.iinc 1 1, 3) := by decide +kernel
theorem dX1_fallingPairs_37 : decode cX1_fallingPairs 37 = .ok (.iinc 3 1, 3) := by decide +kernel
theorem dX1_fallingPairs_40 : decode cX1_fallingPairs 40 = .ok (.goto (-26), 3) := by decide +kernel
theorem dX1_fallingPairs_43 : decode cX1_fallingPairs 43 = .ok (.iinc 2 1, 3) := by decide +kernel
theorem dX1_fallingPairs_46 : decode cX1_fallingPairs 46 = .ok (.goto (-42), 3) := by decide +kernel
theorem dX1_fallingPairs_49 : decode cX1_fallingPairs 49 = .ok (.iload_n 1, 1) := by decide +kernel
theorem dX1_fallingPairs_50 : decode cX1_fallingPairs 50 = .ok (.ireturn, 1) := by decide +kernel
theorem dX1_guessAt_0 : decode cX1_guessAt 0 = .ok (.aload_n 0, 1) := by decide +kernel
theorem dX1_guessAt_1 : decode cX1_guessAt 1 = .ok (.getfield 48, 3) := by decide +kernel
theorem dX1_guessAt_4 : decode cX1_guessAt 4 = .ok (.iconst 2, 1) := by decide +kernel
theorem dX1_guessAt_5 : decode cX1_guessAt 5 = .ok (.if_icmp .ge 8, 3) := by decide +kernel
theorem dX1_guessAt_8 : decode cX1_guessAt 8 = .ok (.ldc 34, 2) := by decide +kernel
theorem dX1_guessAt_10 : decode cX1_guessAt 10 = .ok (.goto 13, 3) := by decide +kernel
theorem dX1_guessAt_13 : decode cX1_guessAt 13 = .ok (.aload_n 0, 1) := by decide +kernel
theorem dX1_guessAt_14 : decode cX1_guessAt 14 = .ok (.getfield 39, 3) := by decide +kernel
theorem dX1_guessAt_17 : decode cX1_guessAt 17 = .ok (.aload_n 0, 1) := by decide +kernel
theorem dX1_guessAt_18 : decode cX1_guessAt 18 = .ok (.iload_n 1, 1) := by decide +kernel
theorem dX1_guessAt_19 : decode cX1_guessAt 19 = .ok (.invokevirtual 92, 3) := by decide +kernel
theorem dX1_guessAt_22 : decode cX1_guessAt 22 = .ok (.iadd, 1) := by decide +kernel
theorem dX1_guessAt_23 : decode cX1_guessAt 23 = .ok (.ireturn, 1) := by decide +kernel
theorem dX1_stationInOrder_0 : decode cX1_stationInOrder 0 = .ok (.iconst 0, 1) := by decide +kernel
theorem dX1_stationInOrder_1 : decode cX1_stationInOrder 1 = .ok (.istore_n 2, 1) := by decide +kernel
theorem dX1_stationInOrder_2 : decode cX1_stationInOrder 2 = .ok (.iload_n 2, 1) := by decide +kernel
theorem dX1_stationInOrder_3 : decode cX1_stationInOrder 3 = .ok (.aload_n 0, 1) := by decide +kernel
theorem dX1_stationInOrder_4 : decode cX1_stationInOrder 4 = .ok (.getfield 48, 3) := by decide +kernel
theorem dX1_stationInOrder_7 : decode cX1_stationInOrder 7 = .ok (.if_icmp .ge 25, 3) := by decide +kernel
theorem dX1_stationInOrder_10 : decode cX1_stationInOrder 10 = .ok (.aload_n 0, 1) := by decide +kernel
theorem dX1_stationInOrder_11 : decode cX1_stationInOrder 11 = .ok (.iload_n 2, 1) := by decide +kernel
theorem dX1_stationInOrder_12 : decode cX1_stationInOrder 12 = .ok (.invokevirtual 111, 3) := by decide +kernel
theorem dX1_stationInOrder_15 : decode cX1_stationInOrder 15 = .ok (.iload_n 1, 1) := by decide +kernel
theorem dX1_stationInOrder_16 : decode cX1_stationInOrder 16 = .ok (.if_icmp .ne 10, 3) := by decide +kernel
theorem dX1_stationInOrder_19 : decode cX1_stationInOrder 19 = .ok (.aload_n 0, 1) := by decide +kernel
theorem dX1_stationInOrder_20 : decode cX1_stationInOrder 20 = .ok (.getfield 9, 3) := by decide +kernel
theorem dX1_stationInOrder_23 : decode cX1_stationInOrder 23 = .ok (.iload_n 2, 1) := by decide +kernel
theorem dX1_stationInOrder_24 : decode cX1_stationInOrder 24 = .ok (.iaload, 1) := by decide +kernel
theorem dX1_stationInOrder_25 : decode cX1_stationInOrder 25 = .ok (.ireturn, 1) := by decide +kernel
theorem dX1_stationInOrder_26 : decode cX1_stationInOrder 26 = .ok (.iinc 2 1, 3) := by decide +kernel
theorem dX1_stationInOrder_29 : decode cX1_stationInOrder 29 = .ok (.goto (-27), 3) := by decide +kernel
theorem dX1_stationInOrder_32 : decode cX1_stationInOrder 32 = .ok (.iconst (-1), 1) := by decide +kernel
theorem dX1_stationInOrder_33 : decode cX1_stationInOrder 33 = .ok (.ireturn, 1) := by decide +kernel
theorem dX1_stationsAheadOf_0 : decode cX1_stationsAheadOf 0 = .ok (.iconst 0, 1) := by decide +kernel
theorem dX1_stationsAheadOf_1 : decode cX1_stationsAheadOf 1 = .ok (.istore_n 2, 1) := by decide +kernel
theorem dX1_stationsAheadOf_2 : decode cX1_stationsAheadOf 2 = .ok (.iconst 0, 1) := by decide +kernel
theorem dX1_stationsAheadOf_3 : decode cX1_stationsAheadOf 3 = .ok (.istore_n 3, 1) := by decide +kernel
theorem dX1_stationsAheadOf_4 : decode cX1_stationsAheadOf 4 = .ok (.iload_n 3, 1) := by decide +kernel
theorem dX1_stationsAheadOf_5 : decode cX1_stationsAheadOf 5 = .ok (.aload_n 0, 1) := by decide +kernel
theorem dX1_stationsAheadOf_6 : decode cX1_stationsAheadOf 6 = .ok (.getfield 48, 3) := by decide +kernel
theorem dX1_stationsAheadOf_9 : decode cX1_stationsAheadOf 9 = .ok (.if_icmp .ge 69, 3) := by decide +kernel
theorem dX1_stationsAheadOf_12 : decode cX1_stationsAheadOf 12 = .ok (.aload_n 0, 1) := by decide +kernel
theorem dX1_stationsAheadOf_13 : decode cX1_stationsAheadOf 13 = .ok (.getfield 18, 3) := by decide +kernel
theorem dX1_stationsAheadOf_16 : decode cX1_stationsAheadOf 16 = .ok (.iload_n 3, 1) := by decide +kernel
theorem dX1_stationsAheadOf_17 : decode cX1_stationsAheadOf 17 = .ok (.iaload, 1) := by decide +kernel
theorem dX1_stationsAheadOf_18 : decode cX1_stationsAheadOf 18 = .ok (.aload_n 0, 1) := by decide +kernel
theorem dX1_stationsAheadOf_19 : decode cX1_stationsAheadOf 19 = .ok (.getfield 18, 3) := by decide +kernel
theorem dX1_stationsAheadOf_22 : decode cX1_stationsAheadOf 22 = .ok (.iload_n 1, 1) := by decide +kernel
theorem dX1_stationsAheadOf_23 : decode cX1_stationsAheadOf 23 = .ok (.iaload, 1) := by decide +kernel
theorem dX1_stationsAheadOf_24 : decode cX1_stationsAheadOf 24 = .ok (.if_icmp .ge 7, 3) := by decide +kernel
theorem dX1_stationsAheadOf_27 : decode cX1_stationsAheadOf 27 = .ok (.iconst 1, 1) := by decide +kernel
theorem dX1_stationsAheadOf_28 : decode cX1_stationsAheadOf 28 = .ok (.goto 4, 3) := by decide +kernel
theorem dX1_stationsAheadOf_31 : decode cX1_stationsAheadOf 31 = .ok (.iconst 0, 1) := by decide +kernel
theorem dX1_stationsAheadOf_32 : decode cX1_stationsAheadOf 32 = .ok (.istore 4, 2) := by decide +kernel
theorem dX1_stationsAheadOf_34 : decode cX1_stationsAheadOf 34 = .ok (.iload 4, 2) := by decide +kernel
theorem dX1_stationsAheadOf_36 : decode cX1_stationsAheadOf 36 = .ok (.ifCond .ne 33, 3) := by decide +kernel
theorem dX1_stationsAheadOf_39 : decode cX1_stationsAheadOf 39 = .ok (.aload_n 0, 1) := by decide +kernel
theorem dX1_stationsAheadOf_40 : decode cX1_stationsAheadOf 40 = .ok (.getfield 18, 3) := by decide +kernel
theorem dX1_stationsAheadOf_43 : decode cX1_stationsAheadOf 43 = .ok (.iload_n 3, 1) := by decide +kernel
theorem dX1_stationsAheadOf_44 : decode cX1_stationsAheadOf 44 = .ok (.iaload, 1) := by decide +kernel
theorem dX1_stationsAheadOf_45 : decode cX1_stationsAheadOf 45 = .ok (.aload_n 0, 1) := by decide +kernel
theorem dX1_stationsAheadOf_46 : decode cX1_stationsAheadOf 46 = .ok (.getfield 18, 3) := by decide +kernel
theorem dX1_stationsAheadOf_49 : decode cX1_stationsAheadOf 49 = .ok (.iload_n 1, 1) := by decide +kernel
theorem dX1_stationsAheadOf_50 : decode cX1_stationsAheadOf 50 = .ok (.iaload, 1) := by decide +kernel
theorem dX1_stationsAheadOf_51 : decode cX1_stationsAheadOf 51 = .ok (.if_icmp .ne 21, 3) := by decide +kernel
theorem dX1_stationsAheadOf_54 : decode cX1_stationsAheadOf 54 = .ok (.aload_n 0, 1) := by decide +kernel
theorem dX1_stationsAheadOf_55 : decode cX1_stationsAheadOf 55 = .ok (.getfield 9, 3) := by decide +kernel
theorem dX1_stationsAheadOf_58 : decode cX1_stationsAheadOf 58 = .ok (.iload_n 3, 1) := by decide +kernel
theorem dX1_stationsAheadOf_59 : decode cX1_stationsAheadOf 59 = .ok (.iaload, 1) := by decide +kernel
theorem dX1_stationsAheadOf_60 : decode cX1_stationsAheadOf 60 = .ok (.aload_n 0, 1) := by decide +kernel
theorem dX1_stationsAheadOf_61 : decode cX1_stationsAheadOf 61 = .ok (.getfield 9, 3) := by decide +kernel
theorem dX1_stationsAheadOf_64 : decode cX1_stationsAheadOf 64 = .ok (.iload_n 1, 1) := by decide +kernel
theorem dX1_stationsAheadOf_65 : decode cX1_stationsAheadOf 65 = .ok (.iaload, 1) := by decide +kernel
theorem dX1_stationsAheadOf_66 : decode cX1_stationsAheadOf 66 = .ok (.if_icmp .ge 6, 3) := by decide +kernel
theorem dX1_stationsAheadOf_69 : decode cX1_stationsAheadOf 69 = .ok (.iinc 2 1, 3) := by decide +kernel
theorem dX1_stationsAheadOf_72 : decode cX1_stationsAheadOf 72 = .ok (.iinc 3 1, 3) := by decide +kernel
theorem dX1_stationsAheadOf_75 : decode cX1_stationsAheadOf 75 = .ok (.goto (-71), 3) := by decide +kernel
theorem dX1_stationsAheadOf_78 : decode cX1_stationsAheadOf 78 = .ok (.iload_n 2, 1) := by decide +kernel
theorem dX1_stationsAheadOf_79 : decode cX1_stationsAheadOf 79 = .ok (.ireturn, 1) := by decide +kernel
theorem dX1_meanLeft_0 : decode cX1_meanLeft 0 = .ok (.aload_n 0, 1) := by decide +kernel
theorem dX1_meanLeft_1 : decode cX1_meanLeft 1 = .ok (.getfield 48, 3) := by decide +kernel
theorem dX1_meanLeft_4 : decode cX1_meanLeft 4 = .ok (.iconst 2, 1) := by decide +kernel
theorem dX1_meanLeft_5 : decode cX1_meanLeft 5 = .ok (.if_icmp .ge 5, 3) := by decide +kernel
theorem dX1_meanLeft_8 : decode cX1_meanLeft 8 = .ok (.dconst 0, 1) := by decide +kernel
theorem dX1_meanLeft_9 : decode cX1_meanLeft 9 = .ok (.dreturn, 1) := by decide +kernel
theorem dX1_meanLeft_10 : decode cX1_meanLeft 10 = .ok (.lconst 0, 1) := by decide +kernel
theorem dX1_meanLeft_11 : decode cX1_meanLeft 11 = .ok (.lstore_n 1, 1) := by decide +kernel
theorem dX1_meanLeft_12 : decode cX1_meanLeft 12 = .ok (.iconst 0, 1) := by decide +kernel
theorem dX1_meanLeft_13 : decode cX1_meanLeft 13 = .ok (.istore_n 3, 1) := by decide +kernel
theorem dX1_meanLeft_14 : decode cX1_meanLeft 14 = .ok (.iload_n 3, 1) := by decide +kernel
theorem dX1_meanLeft_15 : decode cX1_meanLeft 15 = .ok (.aload_n 0, 1) := by decide +kernel
theorem dX1_meanLeft_16 : decode cX1_meanLeft 16 = .ok (.getfield 48, 3) := by decide +kernel
theorem dX1_meanLeft_19 : decode cX1_meanLeft 19 = .ok (.if_icmp .ge 22, 3) := by decide +kernel
theorem dX1_meanLeft_22 : decode cX1_meanLeft 22 = .ok (.lload_n 1, 1) := by decide +kernel
theorem dX1_meanLeft_23 : decode cX1_meanLeft 23 = .ok (.aload_n 0, 1) := by decide +kernel
theorem dX1_meanLeft_24 : decode cX1_meanLeft 24 = .ok (.getfield 21, 3) := by decide +kernel
theorem dX1_meanLeft_27 : decode cX1_meanLeft 27 = .ok (.iload_n 3, 1) := by decide +kernel
theorem dX1_meanLeft_28 : decode cX1_meanLeft 28 = .ok (.iaload, 1) := by decide +kernel
theorem dX1_meanLeft_29 : decode cX1_meanLeft 29 = .ok (.invokestatic 96, 3) := by decide +kernel
theorem dX1_meanLeft_32 : decode cX1_meanLeft 32 = .ok (.i2l, 1) := by decide +kernel
theorem dX1_meanLeft_33 : decode cX1_meanLeft 33 = .ok (.ladd, 1) := by decide +kernel
theorem dX1_meanLeft_34 : decode cX1_meanLeft 34 = .ok (.lstore_n 1, 1) := by decide +kernel
theorem dX1_meanLeft_35 : decode cX1_meanLeft 35 = .ok (.iinc 3 1, 3) := by decide +kernel
theorem dX1_meanLeft_38 : decode cX1_meanLeft 38 = .ok (.goto (-24), 3) := by decide +kernel
theorem dX1_meanLeft_41 : decode cX1_meanLeft 41 = .ok (.lload_n 1, 1) := by decide +kernel
theorem dX1_meanLeft_42 : decode cX1_meanLeft 42 = .ok (.l2d, 1) := by decide +kernel
theorem dX1_meanLeft_43 : decode cX1_meanLeft 43 = .ok (.aload_n 0, 1) := by decide +kernel
theorem dX1_meanLeft_44 : decode cX1_meanLeft 44 = .ok (.getfield 48, 3) := by decide +kernel
theorem dX1_meanLeft_47 : decode cX1_meanLeft 47 = .ok (.i2d, 1) := by decide +kernel
theorem dX1_meanLeft_48 : decode cX1_meanLeft 48 = .ok (.ddiv, 1) := by decide +kernel
theorem dX1_meanLeft_49 : decode cX1_meanLeft 49 = .ok (.dreturn, 1) := by decide +kernel
theorem dX2_init_0 : decode cX2_init 0 = .ok (.aload_n 0, 1) := by decide +kernel
theorem dX2_init_1 : decode cX2_init 1 = .ok (.invokespecial 3, 3) := by decide +kernel
theorem dX2_init_4 : decode cX2_init 4 = .ok (.aload_n 0, 1) := by decide +kernel
theorem dX2_init_5 : decode cX2_init 5 = .ok (.iload_n 1, 1) := by decide +kernel
theorem dX2_init_6 : decode cX2_init 6 = .ok (.putfield 9, 3) := by decide +kernel
theorem dX2_init_9 : decode cX2_init 9 = .ok (.aload_n 0, 1) := by decide +kernel
theorem dX2_init_10 : decode cX2_init 10 = .ok (.iload_n 2, 1) := by decide +kernel
theorem dX2_init_11 : decode cX2_init 11 = .ok (.putfield 15, 3) := by decide +kernel
theorem dX2_init_14 : decode cX2_init 14 = .ok (.aload_n 0, 1) := by decide +kernel
theorem dX2_init_15 : decode cX2_init 15 = .ok (.iload_n 3, 1) := by decide +kernel
theorem dX2_init_16 : decode cX2_init 16 = .ok (.putfield 18, 3) := by decide +kernel
theorem dX2_init_19 : decode cX2_init 19 = .ok (.aload_n 0, 1) := by decide +kernel
theorem dX2_init_20 : decode cX2_init 20 = .ok (.iload 4, 2) := by decide +kernel
theorem dX2_init_22 : decode cX2_init 22 = .ok (.putfield 21, 3) := by decide +kernel
theorem dX2_init_25 : decode cX2_init 25 = .ok (.aload_n 0, 1) := by decide +kernel
theorem dX2_init_26 : decode cX2_init 26 = .ok (.iconst 4, 1) := by decide +kernel
theorem dX2_init_27 : decode cX2_init 27 = .ok (.newarray .int, 2) := by decide +kernel
theorem dX2_init_29 : decode cX2_init 29 = .ok (.putfield 24, 3) := by decide +kernel
theorem dX2_init_32 : decode cX2_init 32 = .ok (.aload_n 0, 1) := by decide +kernel
theorem dX2_init_33 : decode cX2_init 33 = .ok (.iconst 4, 1) := by decide +kernel
theorem dX2_init_34 : decode cX2_init 34 = .ok (.newarray .int, 2) := by decide +kernel
theorem dX2_init_36 : decode cX2_init 36 = .ok (.putfield 28, 3) := by decide +kernel
theorem dX2_init_39 : decode cX2_init 39 = .ok (.return_, 1) := by decide +kernel
theorem dX2_uncorrectedAt_0 : decode cX2_uncorrectedAt 0 = .ok (.iload_n 1, 1) := by decide +kernel
theorem dX2_uncorrectedAt_1 : decode cX2_uncorrectedAt 1 = .ok (.aload_n 0, 1) := by decide +kernel
theorem dX2_uncorrectedAt_2 : decode cX2_uncorrectedAt 2 = .ok (.getfield 18, 3) := by decide +kernel
theorem dX2_uncorrectedAt_5 : decode cX2_uncorrectedAt 5 = .ok (.iadd, 1) := by decide +kernel
theorem dX2_uncorrectedAt_6 : decode cX2_uncorrectedAt 6 = .ok (.aload_n 0, 1) := by decide +kernel
theorem dX2_uncorrectedAt_7 : decode cX2_uncorrectedAt 7 = .ok (.getfield 21, 3) := by decide +kernel
theorem dX2_uncorrectedAt_10 : decode cX2_uncorrectedAt 10 = .ok (.iload_n 1, 1) := by decide +kernel
theorem dX2_uncorrectedAt_11 : decode cX2_uncorrectedAt 11 = .ok (.imul, 1) := by decide +kernel
theorem dX2_uncorrectedAt_12 : decode cX2_uncorrectedAt 12 = .ok (.sipush 1000, 3) := by decide +kernel
theorem dX2_uncorrectedAt_15 : decode cX2_uncorrectedAt 15 = .ok (.idiv, 1) := by decide +kernel
theorem dX2_uncorrectedAt_16 : decode cX2_uncorrectedAt 16 = .ok (.iadd, 1) := by decide +kernel
theorem dX2_uncorrectedAt_17 : decode cX2_uncorrectedAt 17 = .ok (.ireturn, 1) := by decide +kernel
theorem dX2_readsAt_0 : decode cX2_readsAt 0 = .ok (.aload_n 0, 1) := by decide +kernel
theorem dX2_readsAt_1 : decode cX2_readsAt 1 = .ok (.iload_n 1, 1) := by decide +kernel
theorem dX2_readsAt_2 : decode cX2_readsAt 2 = .ok (.invokevirtual 31, 3) := by decide +kernel
theorem dX2_readsAt_5 : decode cX2_readsAt 5 = .ok (.aload_n 0, 1) := by decide +kernel
theorem dX2_readsAt_6 : decode cX2_readsAt 6 = .ok (.getfield 35, 3) := by decide +kernel
theorem dX2_readsAt_9 : decode cX2_readsAt 9 = .ok (.isub, 1) := by decide +kernel
theorem dX2_readsAt_10 : decode cX2_readsAt 10 = .ok (.ireturn, 1) := by decide +kernel
theorem dX2_correctionToRead_0 : decode cX2_correctionToRead 0 = .ok (.aload_n 0, 1) := by decide +kernel
theorem dX2_correctionToRead_1 : decode cX2_correctionToRead 1 = .ok (.iload_n 2, 1) := by decide +kernel
theorem dX2_correctionToRead_2 : decode cX2_correctionToRead 2 = .ok (.invokevirtual 31, 3) := by decide +kernel
theorem dX2_correctionToRead_5 : decode cX2_correctionToRead 5 = .ok (.iload_n 1, 1) := by decide +kernel
theorem dX2_correctionToRead_6 : decode cX2_correctionToRead 6 = .ok (.isub, 1) := by decide +kernel
theorem dX2_correctionToRead_7 : decode cX2_correctionToRead 7 = .ok (.ireturn, 1) := by decide +kernel
theorem dX2_isFullOfClouds_0 : decode cX2_isFullOfClouds 0 = .ok (.aload_n 0, 1) := by decide +kernel
theorem dX2_isFullOfClouds_1 : decode cX2_isFullOfClouds 1 = .ok (.getfield 38, 3) := by decide +kernel
theorem dX2_isFullOfClouds_4 : decode cX2_isFullOfClouds 4 = .ok (.iconst 4, 1) := by decide +kernel
theorem dX2_isFullOfClouds_5 : decode cX2_isFullOfClouds 5 = .ok (.if_icmp .lt 7, 3) := by decide +kernel
theorem dX2_isFullOfClouds_8 : decode cX2_isFullOfClouds 8 = .ok (.iconst 1, 1) := by decide +kernel
theorem dX2_isFullOfClouds_9 : decode cX2_isFullOfClouds 9 = .ok (.goto 4, 3) := by decide +kernel
theorem dX2_isFullOfClouds_12 : decode cX2_isFullOfClouds 12 = .ok (.iconst 0, 1) := by decide +kernel
theorem dX2_isFullOfClouds_13 : decode cX2_isFullOfClouds 13 = .ok (.ireturn, 1) := by decide +kernel
theorem dX2_cover_0 : decode cX2_cover 0 = .ok (.aload_n 0, 1) := by decide +kernel
theorem dX2_cover_1 : decode cX2_cover 1 = .ok (.getfield 38, 3) := by decide +kernel
theorem dX2_cover_4 : decode cX2_cover 4 = .ok (.ifCond .lt 57, 3) := by decide +kernel
theorem dX2_cover_7 : decode cX2_cover 7 = .ok (.aload_n 0, 1) := by decide +kernel
theorem dX2_cover_8 : decode cX2_cover 8 = .ok (.getfield 38, 3) := by decide +kernel
theorem dX2_cover_11 : decode cX2_cover 11 = .ok (.aload_n 0, 1) := by decide +kernel
theorem dX2_cover_12 : decode cX2_cover 12 = .ok (.getfield 24, 3) := by decide +kernel
theorem dX2_cover_15 : decode cX2_cover 15 = .ok (.arraylength, 1) := by decide +kernel
theorem dX2_cover_16 : decode cX2_cover 16 = .ok (.if_icmp .ge 45, 3) := by decide +kernel
theorem dX2_cover_19 : decode cX2_cover 19 = .ok (.aload_n 0, 1) := by decide +kernel
theorem dX2_cover_20 : decode cX2_cover 20 = .ok (.getfield 38, 3) := by decide +kernel
theorem dX2_cover_23 : decode cX2_cover 23 = .ok (.aload_n 0, 1) := by decide +kernel
theorem dX2_cover_24 : decode cX2_cover 24 = .ok (.getfield 28, 3) := by decide +kernel
theorem dX2_cover_27 : decode cX2_cover 27 = .ok (.arraylength, 1) := by decide +kernel
theorem dX2_cover_28 : decode cX2_cover 28 = .ok (.if_icmp .ge 33, 3) := by decide +kernel
theorem dX2_cover_31 : decode cX2_cover 31 = .ok (.aload_n 0, 1) := by decide +kernel
theorem dX2_cover_32 : decode cX2_cover 32 = .ok (.getfield 24, 3) := by decide +kernel
theorem dX2_cover_35 : decode cX2_cover 35 = .ok (.aload_n 0, 1) := by decide +kernel
theorem dX2_cover_36 : decode cX2_cover 36 = .ok (.getfield 38, 3) := by decide +kernel
theorem dX2_cover_39 : decode cX2_cover 39 = .ok (.iload_n 1, 1) := by decide +kernel
theorem dX2_cover_40 : decode cX2_cover 40 = .ok (.iastore, 1) := by decide +kernel
theorem dX2_cover_41 : decode cX2_cover 41 = .ok (.aload_n 0, 1) := by decide +kernel
theorem dX2_cover_42 : decode cX2_cover 42 = .ok (.getfield 28, 3) := by decide +kernel
theorem dX2_cover_45 : decode cX2_cover 45 = .ok (.aload_n 0, 1) := by decide +kernel
theorem dX2_cover_46 : decode cX2_cover 46 = .ok (.getfield 38, 3) := by decide +kernel
theorem dX2_cover_49 : decode cX2_cover 49 = .ok (.iload_n 2, 1) := by decide +kernel
theorem dX2_cover_50 : decode cX2_cover 50 = .ok (.iastore, 1) := by decide +kernel
theorem dX2_cover_51 : decode cX2_cover 51 = .ok (.aload_n 0, 1) := by decide +kernel
theorem dX2_cover_52 : decode cX2_cover 52 = .ok (.dup, 1) := by decide +kernel
theorem dX2_cover_53 : decode cX2_cover 53 = .ok (.getfield 38, 3) := by decide +kernel
theorem dX2_cover_56 : decode cX2_cover 56 = .ok (.iconst 1, 1) := by decide +kernel
theorem dX2_cover_57 : decode cX2_cover 57 = .ok (.iadd, 1) := by decide +kernel
theorem dX2_cover_58 : decode cX2_cover 58 = .ok (.putfield 38, 3) := by decide +kernel
theorem dX2_cover_61 : decode cX2_cover 61 = .ok (.return_, 1) := by decide +kernel
theorem dX2_isCoveredAt_0 : decode cX2_isCoveredAt 0 = .ok (.iconst 0, 1) := by decide +kernel
theorem dX2_isCoveredAt_1 : decode cX2_isCoveredAt 1 = .ok (.istore_n 2, 1) := by decide +kernel
theorem dX2_isCoveredAt_2 : decode cX2_isCoveredAt 2 = .ok (.iload_n 2, 1) := by decide +kernel
theorem dX2_isCoveredAt_3 : decode cX2_isCoveredAt 3 = .ok (.aload_n 0, 1) := by decide +kernel
theorem dX2_isCoveredAt_4 : decode cX2_isCoveredAt 4 = .ok (.getfield 38, 3) := by decide +kernel
theorem dX2_isCoveredAt_7 : decode cX2_isCoveredAt 7 = .ok (.if_icmp .ge 49, 3) := by decide +kernel
theorem dX2_isCoveredAt_10 : decode cX2_isCoveredAt 10 = .ok (.iload_n 2, 1) := by decide +kernel
theorem dX2_isCoveredAt_11 : decode cX2_isCoveredAt 11 = .ok (.aload_n 0, 1) := by decide +kernel
theorem dX2_isCoveredAt_12 : decode cX2_isCoveredAt 12 = .ok (.getfield 24, 3) := by decide +kernel
theorem dX2_isCoveredAt_15 : decode cX2_isCoveredAt 15 = .ok (.arraylength, 1) := by decide +kernel
theorem dX2_isCoveredAt_16 : decode cX2_isCoveredAt 16 = .ok (.if_icmp .ge 40, 3) := by decide +kernel
theorem dX2_isCoveredAt_19 : decode cX2_isCoveredAt 19 = .ok (.iload_n 2, 1) := by decide +kernel
theorem dX2_isCoveredAt_20 : decode cX2_isCoveredAt 20 = .ok (.aload_n 0, 1) := by decide +kernel
theorem dX2_isCoveredAt_21 : decode cX2_isCoveredAt 21 = .ok (.getfield 28, 3) := by decide +kernel
theorem dX2_isCoveredAt_24 : decode cX2_isCoveredAt 24 = .ok (.arraylength, 1) := by decide +kernel
theorem dX2_isCoveredAt_25 : decode cX2_isCoveredAt 25 = .ok (.if_icmp .ge 31, 3) := by decide +kernel
theorem dX2_isCoveredAt_28 : decode cX2_isCoveredAt 28 = .ok (.aload_n 0, 1) := by decide +kernel
theorem dX2_isCoveredAt_29 : decode cX2_isCoveredAt 29 = .ok (.getfield 24, 3) := by decide +kernel
theorem dX2_isCoveredAt_32 : decode cX2_isCoveredAt 32 = .ok (.iload_n 2, 1) := by decide +kernel
theorem dX2_isCoveredAt_33 : decode cX2_isCoveredAt 33 = .ok (.iaload, 1) := by decide +kernel
theorem dX2_isCoveredAt_34 : decode cX2_isCoveredAt 34 = .ok (.iload_n 1, 1) := by decide +kernel
theorem dX2_isCoveredAt_35 : decode cX2_isCoveredAt 35 = .ok (.if_icmp .gt 15, 3) := by decide +kernel
theorem dX2_isCoveredAt_38 : decode cX2_isCoveredAt 38 = .ok (.iload_n 1, 1) := by decide +kernel
theorem dX2_isCoveredAt_39 : decode cX2_isCoveredAt 39 = .ok (.aload_n 0, 1) := by decide +kernel
theorem dX2_isCoveredAt_40 : decode cX2_isCoveredAt 40 = .ok (.getfield 28, 3) := by decide +kernel
theorem dX2_isCoveredAt_43 : decode cX2_isCoveredAt 43 = .ok (.iload_n 2, 1) := by decide +kernel
theorem dX2_isCoveredAt_44 : decode cX2_isCoveredAt 44 = .ok (.iaload, 1) := by decide +kernel
theorem dX2_isCoveredAt_45 : decode cX2_isCoveredAt 45 = .ok (.if_icmp .ge 5, 3) := by decide +kernel
theorem dX2_isCoveredAt_48 : decode cX2_isCoveredAt 48 = .ok (.iconst 1, 1) := by decide +kernel
theorem dX2_isCoveredAt_49 : decode cX2_isCoveredAt 49 = .ok (.ireturn, 1) := by decide +kernel
theorem dX2_isCoveredAt_50 : decode cX2_isCoveredAt 50 = .ok (.iinc 2 1, 3) := by decide +kernel
theorem dX2_isCoveredAt_53 : decode cX2_isCoveredAt 53 = .ok (.goto (-51), 3) := by decide +kernel
theorem dX2_isCoveredAt_56 : decode cX2_isCoveredAt 56 = .ok (.iconst 0, 1) := by decide +kernel
theorem dX2_isCoveredAt_57 : decode cX2_isCoveredAt 57 = .ok (.ireturn, 1) := by decide +kernel
theorem dX2_seesAt_0 : decode cX2_seesAt 0 = .ok (.iload_n 1, 1) := by decide +kernel
theorem dX2_seesAt_1 : decode cX2_seesAt 1 = .ok (.iconst (-1), 1) := by decide +kernel
theorem dX2_seesAt_2 : decode cX2_seesAt 2 = .ok (.if_icmp .eq 15, 3) := by decide +kernel
theorem dX2_seesAt_5 : decode cX2_seesAt 5 = .ok (.aload_n 0, 1) := by decide +kernel
theorem dX2_seesAt_6 : decode cX2_seesAt 6 = .ok (.iload_n 1, 1) := by decide +kernel
theorem dX2_seesAt_7 : decode cX2_seesAt 7 = .ok (.invokevirtual 41, 3) := by decide +kernel
theorem dX2_seesAt_10 : decode cX2_seesAt 10 = .ok (.ifCond .ne 7, 3) := by decide +kernel
theorem dX2_seesAt_13 : decode cX2_seesAt 13 = .ok (.iconst 1, 1) := by decide +kernel
theorem dX2_seesAt_14 : decode cX2_seesAt 14 = .ok (.goto 4, 3) := by decide +kernel
theorem dX2_seesAt_17 : decode cX2_seesAt 17 = .ok (.iconst 0, 1) := by decide +kernel
theorem dX2_seesAt_18 : decode cX2_seesAt 18 = .ok (.ireturn, 1) := by decide +kernel
theorem dX2_sees_0 : decode cX2_sees 0 = .ok (.aload_n 0, 1) := by decide +kernel
theorem dX2_sees_1 : decode cX2_sees 1 = .ok (.aload_n 1, 1) := by decide +kernel
theorem dX2_sees_2 : decode cX2_sees 2 = .ok (.aload_n 0, 1) := by decide +kernel
theorem dX2_sees_3 : decode cX2_sees 3 = .ok (.getfield 15, 3) := by decide +kernel
theorem dX2_sees_6 : decode cX2_sees 6 = .ok (.invokevirtual 45, 3) := by decide +kernel
theorem dX2_sees_9 : decode cX2_sees 9 = .ok (.invokevirtual 50, 3) := by decide +kernel
theorem dX2_sees_12 : decode cX2_sees 12 = .ok (.ireturn, 1) := by decide +kernel
theorem dX2_readingOf_0 : decode cX2_readingOf 0 = .ok (.aload_n 1, 1) := by decide +kernel
theorem dX2_readingOf_1 : decode cX2_readingOf 1 = .ok (.aload_n 0, 1) := by decide +kernel
theorem dX2_readingOf_2 : decode cX2_readingOf 2 = .ok (.getfield 15, 3) := by decide +kernel
theorem dX2_readingOf_5 : decode cX2_readingOf 5 = .ok (.invokevirtual 45, 3) := by decide +kernel
theorem dX2_readingOf_8 : decode cX2_readingOf 8 = .ok (.istore_n 2, 1) := by decide +kernel
theorem dX2_readingOf_9 : decode cX2_readingOf 9 = .ok (.aload_n 0, 1) := by decide +kernel
theorem dX2_readingOf_10 : decode cX2_readingOf 10 = .ok (.iload_n 2, 1) := by decide +kernel
theorem dX2_readingOf_11 : decode cX2_readingOf 11 = .ok (.invokevirtual 50, 3) := by decide +kernel
theorem dX2_readingOf_14 : decode cX2_readingOf 14 = .ok (.ifCond .eq 11, 3) := by decide +kernel
theorem dX2_readingOf_17 : decode cX2_readingOf 17 = .ok (.aload_n 0, 1) := by decide +kernel
theorem dX2_readingOf_18 : decode cX2_readingOf 18 = .ok (.iload_n 2, 1) := by decide +kernel
theorem dX2_readingOf_19 : decode cX2_readingOf 19 = .ok (.invokevirtual 53, 3) := by decide +kernel
theorem dX2_readingOf_22 : decode cX2_readingOf 22 = .ok (.goto 5, 3) := by decide +kernel
theorem dX2_readingOf_25 : decode cX2_readingOf 25 = .ok (.ldc 56, 2) := by decide +kernel
theorem dX2_readingOf_27 : decode cX2_readingOf 27 = .ok (.ireturn, 1) := by decide +kernel
theorem dX3_init_0 : decode cX3_init 0 = .ok (.aload_n 0, 1) := by decide +kernel
theorem dX3_init_1 : decode cX3_init 1 = .ok (.invokespecial 3, 3) := by decide +kernel
theorem dX3_init_4 : decode cX3_init 4 = .ok (.aload_n 0, 1) := by decide +kernel
theorem dX3_init_5 : decode cX3_init 5 = .ok (.new 9, 3) := by decide +kernel
theorem dX3_init_8 : decode cX3_init 8 = .ok (.dup, 1) := by decide +kernel
theorem dX3_init_9 : decode cX3_init 9 = .ok (.invokespecial 11, 3) := by decide +kernel
theorem dX3_init_12 : decode cX3_init 12 = .ok (.putfield 12, 3) := by decide +kernel
theorem dX3_init_15 : decode cX3_init 15 = .ok (.aload_n 0, 1) := by decide +kernel
theorem dX3_init_16 : decode cX3_init 16 = .ok (.new 9, 3) := by decide +kernel
theorem dX3_init_19 : decode cX3_init 19 = .ok (.dup, 1) := by decide +kernel
theorem dX3_init_20 : decode cX3_init 20 = .ok (.invokespecial 11, 3) := by decide +kernel
theorem dX3_init_23 : decode cX3_init 23 = .ok (.putfield 16, 3) := by decide +kernel
theorem dX3_init_26 : decode cX3_init 26 = .ok (.aload_n 0, 1) := by decide +kernel
theorem dX3_init_27 : decode cX3_init 27 = .ok (.new 9, 3) := by decide +kernel
theorem dX3_init_30 : decode cX3_init 30 = .ok (.dup, 1) := by decide +kernel
theorem dX3_init_31 : decode cX3_init 31 = .ok (.invokespecial 11, 3) := by decide +kernel
theorem dX3_init_34 : decode cX3_init 34 = .ok (.putfield 19, 3) := by decide +kernel
theorem dX3_init_37 : decode cX3_init 37 = .ok (.aload_n 0, 1) := by decide +kernel
theorem dX3_init_38 : decode cX3_init 38 = .ok (.new 22, 3) := by decide +kernel
theorem dX3_init_41 : decode cX3_init 41 = .ok (.dup, 1) := by decide +kernel
theorem dX3_init_42 : decode cX3_init 42 = .ok (.invokespecial 24, 3) := by decide +kernel
theorem dX3_init_45 : decode cX3_init 45 = .ok (.putfield 25, 3) := by decide +kernel
theorem dX3_init_48 : decode cX3_init 48 = .ok (.aload_n 0, 1) := by decide +kernel
theorem dX3_init_49 : decode cX3_init 49 = .ok (.bipush 16, 2) := by decide +kernel
theorem dX3_init_51 : decode cX3_init 51 = .ok (.newarray .int, 2) := by decide +kernel
theorem dX3_init_53 : decode cX3_init 53 = .ok (.putfield 29, 3) := by decide +kernel
theorem dX3_init_56 : decode cX3_init 56 = .ok (.return_, 1) := by decide +kernel
theorem dX3_build_0 : decode cX3_build 0 = .ok (.iload_n 1, 1) := by decide +kernel
theorem dX3_build_1 : decode cX3_build 1 = .ok (.iconst 0, 1) := by decide +kernel
theorem dX3_build_2 : decode cX3_build 2 = .ok (.sipush 999, 3) := by decide +kernel
theorem dX3_build_5 : decode cX3_build 5 = .ok (.invokestatic 33, 3) := by decide +kernel
theorem dX3_build_8 : decode cX3_build 8 = .ok (.ifCond .ne 27, 3) := by decide +kernel
theorem dX3_build_11 : decode cX3_build 11 = .ok (.iload_n 2, 1) := by decide +kernel
theorem dX3_build_12 : decode cX3_build 12 = .ok (.sipush (-600), 3) := by decide +kernel
theorem dX3_build_15 : decode cX3_build 15 = .ok (.sipush 600, 3) := by decide +kernel
theorem dX3_build_18 : decode cX3_build 18 = .ok (.invokestatic 33, 3) := by decide +kernel
theorem dX3_build_21 : decode cX3_build 21 = .ok (.ifCond .ne 14, 3) := by decide +kernel
theorem dX3_build_24 : decode cX3_build 24 = .ok (.iload_n 3, 1) := by decide +kernel
theorem dX3_build_25 : decode cX3_build 25 = .ok (.bipush (-99), 2) := by decide +kernel
theorem dX3_build_27 : decode cX3_build 27 = .ok (.bipush 99, 2) := by decide +kernel
theorem dX3_build_29 : decode cX3_build 29 = .ok (.invokestatic 33, 3) := by decide +kernel
theorem dX3_build_32 : decode cX3_build 32 = .ok (.ifCond .eq 11, 3) := by decide +kernel
theorem dX3_build_35 : decode cX3_build 35 = .ok (.new 37, 3) := by decide +kernel
theorem dX3_build_38 : decode cX3_build 38 = .ok (.dup, 1) := by decide +kernel
theorem dX3_build_39 : decode cX3_build 39 = .ok (.invokespecial 39, 3) := by decide +kernel
theorem dX3_build_42 : decode cX3_build 42 = .ok (.athrow, 1) := by decide +kernel
theorem dX3_build_43 : decode cX3_build 43 = .ok (.aload_n 0, 1) := by decide +kernel
theorem dX3_build_44 : decode cX3_build 44 = .ok (.iload_n 1, 1) := by decide +kernel
theorem dX3_build_45 : decode cX3_build 45 = .ok (.invokevirtual 40, 3) := by decide +kernel
theorem dX3_build_48 : decode cX3_build 48 = .ok (.ifCond .ne 15, 3) := by decide +kernel
theorem dX3_build_51 : decode cX3_build 51 = .ok (.aload_n 0, 1) := by decide +kernel
theorem dX3_build_52 : decode cX3_build 52 = .ok (.getfield 12, 3) := by decide +kernel
theorem dX3_build_55 : decode cX3_build 55 = .ok (.invokevirtual 44, 3) := by decide +kernel
theorem dX3_build_58 : decode cX3_build 58 = .ok (.bipush 12, 2) := by decide +kernel
theorem dX3_build_60 : decode cX3_build 60 = .ok (.if_icmp .lt 11, 3) := by decide +kernel
theorem dX3_build_63 : decode cX3_build 63 = .ok (.new 48, 3) := by decide +kernel
theorem dX3_build_66 : decode cX3_build 66 = .ok (.dup, 1) := by decide +kernel
theorem dX3_build_67 : decode cX3_build 67 = .ok (.invokespecial 50, 3) := by decide +kernel
theorem dX3_build_70 : decode cX3_build 70 = .ok (.athrow, 1) := by decide +kernel
theorem dX3_build_71 : decode cX3_build 71 = .ok (.aload_n 0, 1) := by decide +kernel
theorem dX3_build_72 : decode cX3_build 72 = .ok (.getfield 12, 3) := by decide +kernel
theorem dX3_build_75 : decode cX3_build 75 = .ok (.invokevirtual 44, 3) := by decide +kernel
theorem dX3_build_78 : decode cX3_build 78 = .ok (.istore 4, 2) := by decide +kernel
theorem dX3_build_80 : decode cX3_build 80 = .ok (.new 51, 3) := by decide +kernel
theorem dX3_build_83 : decode cX3_build 83 = .ok (.dup, 1) := by decide +kernel
theorem dX3_build_84 : decode cX3_build 84 = .ok (.iload 4, 2) := by decide +kernel
theorem dX3_build_86 : decode cX3_build 86 = .ok (.iload_n 1, 1) := by decide +kernel
theorem dX3_build_87 : decode cX3_build 87 = .ok (.iload_n 2, 1) := by decide +kernel
theorem dX3_build_88 : decode cX3_build 88 = .ok (.iload_n 3, 1) := by decide +kernel
theorem dX3_build_89 : decode cX3_build 89 = .ok (.invokespecial 53, 3) := by decide +kernel
theorem dX3_build_92 : decode cX3_build 92 = .ok (.astore 5, 2) := by decide +kernel
theorem dX3_build_94 : decode cX3_build 94 = .ok (.aload_n 0, 1) := by decide +kernel
theorem dX3_build_95 : decode cX3_build 95 = .ok (.getfield 12, 3) := by decide +kernel
theorem dX3_build_98 : decode cX3_build 98 = .ok (.aload 5, 2) := by decide +kernel
theorem dX3_build_100 : decode cX3_build 100 = .ok (.invokevirtual 56, 3) := by decide +kernel
theorem dX3_build_103 : decode cX3_build 103 = .ok (.pop, 1) := by decide +kernel
theorem dX3_build_104 : decode cX3_build 104 = .ok (.aload_n 0, 1) := by decide +kernel
theorem dX3_build_105 : decode cX3_build 105 = .ok (.getfield 16, 3) := by decide +kernel
theorem dX3_build_108 : decode cX3_build 108 = .ok (.aload_n 0, 1) := by decide +kernel
theorem dX3_build_109 : decode cX3_build 109 = .ok (.iload_n 1, 1) := by decide +kernel
theorem dX3_build_110 : decode cX3_build 110 = .ok (.invokevirtual 60, 3) := by decide +kernel
theorem dX3_build_113 : decode cX3_build 113 = .ok (.aload 5, 2) := by decide +kernel
theorem dX3_build_115 : decode cX3_build 115 = .ok (.invokevirtual 64, 3) := by decide +kernel
theorem dX3_build_118 : decode cX3_build 118 = .ok (.iload 4, 2) := by decide +kernel
theorem dX3_build_120 : decode cX3_build 120 = .ok (.ireturn, 1) := by decide +kernel
theorem dX3_cloud_0 : decode cX3_cloud 0 = .ok (.aload_n 0, 1) := by decide +kernel
theorem dX3_cloud_1 : decode cX3_cloud 1 = .ok (.iload_n 1, 1) := by decide +kernel
theorem dX3_cloud_2 : decode cX3_cloud 2 = .ok (.invokevirtual 67, 3) := by decide +kernel
theorem dX3_cloud_5 : decode cX3_cloud 5 = .ok (.ifCond .eq 11, 3) := by decide +kernel
theorem dX3_cloud_8 : decode cX3_cloud 8 = .ok (.new 70, 3) := by decide +kernel
theorem dX3_cloud_11 : decode cX3_cloud 11 = .ok (.dup, 1) := by decide +kernel
theorem dX3_cloud_12 : decode cX3_cloud 12 = .ok (.invokespecial 72, 3) := by decide +kernel
theorem dX3_cloud_15 : decode cX3_cloud 15 = .ok (.athrow, 1) := by decide +kernel
theorem dX3_cloud_16 : decode cX3_cloud 16 = .ok (.iload_n 2, 1) := by decide +kernel
theorem dX3_cloud_17 : decode cX3_cloud 17 = .ok (.ifCond .lt 8, 3) := by decide +kernel
theorem dX3_cloud_20 : decode cX3_cloud 20 = .ok (.iload_n 3, 1) := by decide +kernel
theorem dX3_cloud_21 : decode cX3_cloud 21 = .ok (.iload_n 2, 1) := by decide +kernel
theorem dX3_cloud_22 : decode cX3_cloud 22 = .ok (.if_icmp .gt 11, 3) := by decide +kernel
theorem dX3_cloud_25 : decode cX3_cloud 25 = .ok (.new 37, 3) := by decide +kernel
theorem dX3_cloud_28 : decode cX3_cloud 28 = .ok (.dup, 1) := by decide +kernel
theorem dX3_cloud_29 : decode cX3_cloud 29 = .ok (.invokespecial 39, 3) := by decide +kernel
theorem dX3_cloud_32 : decode cX3_cloud 32 = .ok (.athrow, 1) := by decide +kernel
theorem dX3_cloud_33 : decode cX3_cloud 33 = .ok (.aload_n 0, 1) := by decide +kernel
theorem dX3_cloud_34 : decode cX3_cloud 34 = .ok (.getfield 12, 3) := by decide +kernel
theorem dX3_cloud_37 : decode cX3_cloud 37 = .ok (.iload_n 1, 1) := by decide +kernel
theorem dX3_cloud_38 : decode cX3_cloud 38 = .ok (.invokevirtual 73, 3) := by decide +kernel
theorem dX3_cloud_41 : decode cX3_cloud 41 = .ok (.checkcast 51, 3) := by decide +kernel
theorem dX3_cloud_44 : decode cX3_cloud 44 = .ok (.astore 4, 2) := by decide +kernel
theorem dX3_cloud_46 : decode cX3_cloud 46 = .ok (.aload 4, 2) := by decide +kernel
theorem dX3_cloud_48 : decode cX3_cloud 48 = .ok (.invokevirtual 77, 3) := by decide +kernel
theorem dX3_cloud_51 : decode cX3_cloud 51 = .ok (.ifCond .eq 11, 3) := by decide +kernel
theorem dX3_cloud_54 : decode cX3_cloud 54 = .ok (.new 48, 3) := by decide +kernel
theorem dX3_cloud_57 : decode cX3_cloud 57 = .ok (.dup, 1) := by decide +kernel
theorem dX3_cloud_58 : decode cX3_cloud 58 = .ok (.invokespecial 50, 3) := by decide +kernel
theorem dX3_cloud_61 : decode cX3_cloud 61 = .ok (.athrow, 1) := by decide +kernel
theorem dX3_cloud_62 : decode cX3_cloud 62 = .ok (.aload 4, 2) := by decide +kernel
theorem dX3_cloud_64 : decode cX3_cloud 64 = .ok (.iload_n 2, 1) := by decide +kernel
theorem dX3_cloud_65 : decode cX3_cloud 65 = .ok (.iload_n 3, 1) := by decide +kernel
theorem dX3_cloud_66 : decode cX3_cloud 66 = .ok (.invokevirtual 81, 3) := by decide +kernel
theorem dX3_cloud_69 : decode cX3_cloud 69 = .ok (.aload 4, 2) := by decide +kernel
theorem dX3_cloud_71 : decode cX3_cloud 71 = .ok (.getfield 85, 3) := by decide +kernel
theorem dX3_cloud_74 : decode cX3_cloud 74 = .ok (.ireturn, 1) := by decide +kernel
theorem dX3_clear_0 : decode cX3_clear 0 = .ok (.aload_n 0, 1) := by decide +kernel
theorem dX3_clear_1 : decode cX3_clear 1 = .ok (.iload_n 1, 1) := by decide +kernel
theorem dX3_clear_2 : decode cX3_clear 2 = .ok (.invokevirtual 67, 3) := by decide +kernel
theorem dX3_clear_5 : decode cX3_clear 5 = .ok (.ifCond .eq 11, 3) := by decide +kernel
theorem dX3_clear_8 : decode cX3_clear 8 = .ok (.new 70, 3) := by decide +kernel
theorem dX3_clear_11 : decode cX3_clear 11 = .ok (.dup, 1) := by decide +kernel
theorem dX3_clear_12 : decode cX3_clear 12 = .ok (.invokespecial 72, 3) := by decide +kernel
theorem dX3_clear_15 : decode cX3_clear 15 = .ok (.athrow, 1) := by decide +kernel
theorem dX3_clear_16 : decode cX3_clear 16 = .ok (.aload_n 0, 1) := by decide +kernel
theorem dX3_clear_17 : decode cX3_clear 17 = .ok (.getfield 12, 3) := by decide +kernel
theorem dX3_clear_20 : decode cX3_clear 20 = .ok (.iload_n 1, 1) := by decide +kernel
theorem dX3_clear_21 : decode cX3_clear 21 = .ok (.invokevirtual 73, 3) := by decide +kernel
theorem dX3_clear_24 : decode cX3_clear 24 = .ok (.checkcast 51, 3) := by decide +kernel
theorem dX3_clear_27 : decode cX3_clear 27 = .ok (.astore_n 2, 1) := by decide +kernel
theorem dX3_clear_28 : decode cX3_clear 28 = .ok (.aload_n 2, 1) := by decide +kernel
theorem dX3_clear_29 : decode cX3_clear 29 = .ok (.getfield 85, 3) := by decide +kernel
theorem dX3_clear_32 : decode cX3_clear 32 = .ok (.istore_n 3, 1) := by decide +kernel
theorem dX3_clear_33 : decode cX3_clear 33 = .ok (.aload_n 2, 1) := by decide +kernel
theorem dX3_clear_34 : decode cX3_clear 34 = .ok (.iconst 0, 1) := by decide +kernel
theorem dX3_clear_35 : decode cX3_clear 35 = .ok (.putfield 85, 3) := by decide +kernel
theorem dX3_clear_38 : decode cX3_clear 38 = .ok (.iload_n 3, 1) := by decide +kernel
theorem dX3_clear_39 : decode cX3_clear 39 = .ok (.ireturn, 1) := by decide +kernel
theorem dX3_correct_0 : decode cX3_correct 0 = .ok (.aload_n 0, 1) := by decide +kernel
theorem dX3_correct_1 : decode cX3_correct 1 = .ok (.iload_n 1, 1) := by decide +kernel
theorem dX3_correct_2 : decode cX3_correct 2 = .ok (.invokevirtual 67, 3) := by decide +kernel
theorem dX3_correct_5 : decode cX3_correct 5 = .ok (.ifCond .eq 11, 3) := by decide +kernel
theorem dX3_correct_8 : decode cX3_correct 8 = .ok (.new 70, 3) := by decide +kernel
theorem dX3_correct_11 : decode cX3_correct 11 = .ok (.dup, 1) := by decide +kernel
theorem dX3_correct_12 : decode cX3_correct 12 = .ok (.invokespecial 72, 3) := by decide +kernel
theorem dX3_correct_15 : decode cX3_correct 15 = .ok (.athrow, 1) := by decide +kernel
theorem dX3_correct_16 : decode cX3_correct 16 = .ok (.iload_n 2, 1) := by decide +kernel
theorem dX3_correct_17 : decode cX3_correct 17 = .ok (.ldc 89, 2) := by decide +kernel
theorem dX3_correct_19 : decode cX3_correct 19 = .ok (.ldc 90, 2) := by decide +kernel
theorem dX3_correct_21 : decode cX3_correct 21 = .ok (.invokestatic 33, 3) := by decide +kernel
theorem dX3_correct_24 : decode cX3_correct 24 = .ok (.ifCond .eq 11, 3) := by decide +kernel
theorem dX3_correct_27 : decode cX3_correct 27 = .ok (.new 37, 3) := by decide +kernel
theorem dX3_correct_30 : decode cX3_correct 30 = .ok (.dup, 1) := by decide +kernel
theorem dX3_correct_31 : decode cX3_correct 31 = .ok (.invokespecial 39, 3) := by decide +kernel
theorem dX3_correct_34 : decode cX3_correct 34 = .ok (.athrow, 1) := by decide +kernel
theorem dX3_correct_35 : decode cX3_correct 35 = .ok (.aload_n 0, 1) := by decide +kernel
theorem dX3_correct_36 : decode cX3_correct 36 = .ok (.getfield 12, 3) := by decide +kernel
theorem dX3_correct_39 : decode cX3_correct 39 = .ok (.iload_n 1, 1) := by decide +kernel
theorem dX3_correct_40 : decode cX3_correct 40 = .ok (.invokevirtual 73, 3) := by decide +kernel
theorem dX3_correct_43 : decode cX3_correct 43 = .ok (.checkcast 51, 3) := by decide +kernel
theorem dX3_correct_46 : decode cX3_correct 46 = .ok (.astore_n 3, 1) := by decide +kernel
theorem dX3_correct_47 : decode cX3_correct 47 = .ok (.aload_n 3, 1) := by decide +kernel
theorem dX3_correct_48 : decode cX3_correct 48 = .ok (.getfield 91, 3) := by decide +kernel
theorem dX3_correct_51 : decode cX3_correct 51 = .ok (.istore 4, 2) := by decide +kernel
theorem dX3_correct_53 : decode cX3_correct 53 = .ok (.aload_n 3, 1) := by decide +kernel
theorem dX3_correct_54 : decode cX3_correct 54 = .ok (.iload_n 2, 1) := by decide +kernel
theorem dX3_correct_55 : decode cX3_correct 55 = .ok (.putfield 91, 3) := by decide +kernel
theorem dX3_correct_58 : decode cX3_correct 58 = .ok (.iload 4, 2) := by decide +kernel
theorem dX3_correct_60 : decode cX3_correct 60 = .ok (.ireturn, 1) := by decide +kernel
theorem dX3_station_0 : decode cX3_station 0 = .ok (.aload_n 0, 1) := by decide +kernel
theorem dX3_station_1 : decode cX3_station 1 = .ok (.iload_n 1, 1) := by decide +kernel
theorem dX3_station_2 : decode cX3_station 2 = .ok (.invokevirtual 67, 3) := by decide +kernel
theorem dX3_station_5 : decode cX3_station 5 = .ok (.ifCond .ne 12, 3) := by decide +kernel
theorem dX3_station_8 : decode cX3_station 8 = .ok (.iload_n 2, 1) := by decide +kernel
theorem dX3_station_9 : decode cX3_station 9 = .ok (.iconst 0, 1) := by decide +kernel
theorem dX3_station_10 : decode cX3_station 10 = .ok (.iconst 5, 1) := by decide +kernel
theorem dX3_station_11 : decode cX3_station 11 = .ok (.invokestatic 33, 3) := by decide +kernel
theorem dX3_station_14 : decode cX3_station 14 = .ok (.ifCond .eq 11, 3) := by decide +kernel
theorem dX3_station_17 : decode cX3_station 17 = .ok (.new 70, 3) := by decide +kernel
theorem dX3_station_20 : decode cX3_station 20 = .ok (.dup, 1) := by decide +kernel
theorem dX3_station_21 : decode cX3_station 21 = .ok (.invokespecial 72, 3) := by decide +kernel
theorem dX3_station_24 : decode cX3_station 24 = .ok (.athrow, 1) := by decide +kernel
theorem dX3_station_25 : decode cX3_station 25 = .ok (.aload_n 0, 1) := by decide +kernel
theorem dX3_station_26 : decode cX3_station 26 = .ok (.aload_n 0, 1) := by decide +kernel
theorem dX3_station_27 : decode cX3_station 27 = .ok (.getfield 12, 3) := by decide +kernel
theorem dX3_station_30 : decode cX3_station 30 = .ok (.iload_n 1, 1) := by decide +kernel
theorem dX3_station_31 : decode cX3_station 31 = .ok (.invokevirtual 73, 3) := by decide +kernel
theorem dX3_station_34 : decode cX3_station 34 = .ok (.checkcast 51, 3) := by decide +kernel
theorem dX3_station_37 : decode cX3_station 37 = .ok (.iload_n 2, 1) := by decide +kernel
theorem dX3_station_38 : decode cX3_station 38 = .ok (.invokevirtual 94, 3) := by decide +kernel
theorem dX3_station_41 : decode cX3_station 41 = .ok (.ireturn, 1) := by decide +kernel
theorem dX3_clock_0 : decode cX3_clock 0 = .ok (.aload_n 0, 1) := by decide +kernel
theorem dX3_clock_1 : decode cX3_clock 1 = .ok (.iload_n 1, 1) := by decide +kernel
theorem dX3_clock_2 : decode cX3_clock 2 = .ok (.invokevirtual 67, 3) := by decide +kernel
theorem dX3_clock_5 : decode cX3_clock 5 = .ok (.ifCond .eq 11, 3) := by decide +kernel
theorem dX3_clock_8 : decode cX3_clock 8 = .ok (.new 70, 3) := by decide +kernel
theorem dX3_clock_11 : decode cX3_clock 11 = .ok (.dup, 1) := by decide +kernel
theorem dX3_clock_12 : decode cX3_clock 12 = .ok (.invokespecial 72, 3) := by decide +kernel
theorem dX3_clock_15 : decode cX3_clock 15 = .ok (.athrow, 1) := by decide +kernel
theorem dX3_clock_16 : decode cX3_clock 16 = .ok (.iload_n 2, 1) := by decide +kernel
theorem dX3_clock_17 : decode cX3_clock 17 = .ok (.iconst 0, 1) := by decide +kernel
theorem dX3_clock_18 : decode cX3_clock 18 = .ok (.ldc 98, 2) := by decide +kernel
theorem dX3_clock_20 : decode cX3_clock 20 = .ok (.invokestatic 33, 3) := by decide +kernel
theorem dX3_clock_23 : decode cX3_clock 23 = .ok (.ifCond .eq 11, 3) := by decide +kernel
theorem dX3_clock_26 : decode cX3_clock 26 = .ok (.new 37, 3) := by decide +kernel
theorem dX3_clock_29 : decode cX3_clock 29 = .ok (.dup, 1) := by decide +kernel
theorem dX3_clock_30 : decode cX3_clock 30 = .ok (.invokespecial 39, 3) := by decide +kernel
theorem dX3_clock_33 : decode cX3_clock 33 = .ok (.athrow, 1) := by decide +kernel
theorem dX3_clock_34 : decode cX3_clock 34 = .ok (.aload_n 0, 1) := by decide +kernel
theorem dX3_clock_35 : decode cX3_clock 35 = .ok (.getfield 12, 3) := by decide +kernel
theorem dX3_clock_38 : decode cX3_clock 38 = .ok (.iload_n 1, 1) := by decide +kernel
theorem dX3_clock_39 : decode cX3_clock 39 = .ok (.invokevirtual 73, 3) := by decide +kernel
theorem dX3_clock_42 : decode cX3_clock 42 = .ok (.checkcast 51, 3) := by decide +kernel
theorem dX3_clock_45 : decode cX3_clock 45 = .ok (.iload_n 2, 1) := by decide +kernel
theorem dX3_clock_46 : decode cX3_clock 46 = .ok (.invokevirtual 99, 3) := by decide +kernel
theorem dX3_clock_49 : decode cX3_clock 49 = .ok (.ireturn, 1) := by decide +kernel
theorem dX3_addHalo_0 : decode cX3_addHalo 0 = .ok (.iload_n 1, 1) := by decide +kernel
theorem dX3_addHalo_1 : decode cX3_addHalo 1 = .ok (.iconst 0, 1) := by decide +kernel
theorem dX3_addHalo_2 : decode cX3_addHalo 2 = .ok (.ldc 90, 2) := by decide +kernel
theorem dX3_addHalo_4 : decode cX3_addHalo 4 = .ok (.invokestatic 33, 3) := by decide +kernel
theorem dX3_addHalo_7 : decode cX3_addHalo 7 = .ok (.ifCond .ne 34, 3) := by decide +kernel
theorem dX3_addHalo_10 : decode cX3_addHalo 10 = .ok (.iload_n 2, 1) := by decide +kernel
theorem dX3_addHalo_11 : decode cX3_addHalo 11 = .ok (.iconst 0, 1) := by decide +kernel
theorem dX3_addHalo_12 : decode cX3_addHalo 12 = .ok (.sipush 999, 3) := by decide +kernel
theorem dX3_addHalo_15 : decode cX3_addHalo 15 = .ok (.invokestatic 33, 3) := by decide +kernel
theorem dX3_addHalo_18 : decode cX3_addHalo 18 = .ok (.ifCond .ne 23, 3) := by decide +kernel
theorem dX3_addHalo_21 : decode cX3_addHalo 21 = .ok (.iload_n 3, 1) := by decide +kernel
theorem dX3_addHalo_22 : decode cX3_addHalo 22 = .ok (.iconst 1, 1) := by decide +kernel
theorem dX3_addHalo_23 : decode cX3_addHalo 23 = .ok (.bipush 99, 2) := by decide +kernel
theorem dX3_addHalo_25 : decode cX3_addHalo 25 = .ok (.invokestatic 33, 3) := by decide +kernel
theorem dX3_addHalo_28 : decode cX3_addHalo 28 = .ok (.ifCond .ne 13, 3) := by decide +kernel
theorem dX3_addHalo_31 : decode cX3_addHalo 31 = .ok (.iload 4, 2) := by decide +kernel
theorem dX3_addHalo_33 : decode cX3_addHalo 33 = .ok (.iconst (-1), 1) := by decide +kernel
theorem dX3_addHalo_34 : decode cX3_addHalo 34 = .ok (.iconst 1, 1) := by decide +kernel
theorem dX3_addHalo_35 : decode cX3_addHalo 35 = .ok (.invokestatic 33, 3) := by decide +kernel
theorem dX3_addHalo_38 : decode cX3_addHalo 38 = .ok (.ifCond .eq 11, 3) := by decide +kernel
theorem dX3_addHalo_41 : decode cX3_addHalo 41 = .ok (.new 37, 3) := by decide +kernel
theorem dX3_addHalo_44 : decode cX3_addHalo 44 = .ok (.dup, 1) := by decide +kernel
theorem dX3_addHalo_45 : decode cX3_addHalo 45 = .ok (.invokespecial 39, 3) := by decide +kernel
theorem dX3_addHalo_48 : decode cX3_addHalo 48 = .ok (.athrow, 1) := by decide +kernel
theorem dX3_addHalo_49 : decode cX3_addHalo 49 = .ok (.aload_n 0, 1) := by decide +kernel
theorem dX3_addHalo_50 : decode cX3_addHalo 50 = .ok (.getfield 19, 3) := by decide +kernel
theorem dX3_addHalo_53 : decode cX3_addHalo 53 = .ok (.invokevirtual 44, 3) := by decide +kernel
theorem dX3_addHalo_56 : decode cX3_addHalo 56 = .ok (.bipush 16, 2) := by decide +kernel
theorem dX3_addHalo_58 : decode cX3_addHalo 58 = .ok (.if_icmp .lt 11, 3) := by decide +kernel
theorem dX3_addHalo_61 : decode cX3_addHalo 61 = .ok (.new 48, 3) := by decide +kernel
theorem dX3_addHalo_64 : decode cX3_addHalo 64 = .ok (.dup, 1) := by decide +kernel
theorem dX3_addHalo_65 : decode cX3_addHalo 65 = .ok (.invokespecial 50, 3) := by decide +kernel
theorem dX3_addHalo_68 : decode cX3_addHalo 68 = .ok (.athrow, 1) := by decide +kernel
theorem dX3_addHalo_69 : decode cX3_addHalo 69 = .ok (.aload_n 0, 1) := by decide +kernel
theorem dX3_addHalo_70 : decode cX3_addHalo 70 = .ok (.getfield 19, 3) := by decide +kernel
theorem dX3_addHalo_73 : decode cX3_addHalo 73 = .ok (.new 102, 3) := by decide +kernel
theorem dX3_addHalo_76 : decode cX3_addHalo 76 = .ok (.dup, 1) := by decide +kernel
theorem dX3_addHalo_77 : decode cX3_addHalo 77 = .ok (.iload_n 1, 1) := by decide +kernel
theorem dX3_addHalo_78 : decode cX3_addHalo 78 = .ok (.iload_n 2, 1) := by decide +kernel
theorem dX3_addHalo_79 : decode cX3_addHalo 79 = .ok (.iload_n 3, 1) := by decide +kernel
theorem dX3_addHalo_80 : decode cX3_addHalo 80 = .ok (.iload 4, 2) := by decide +kernel
theorem dX3_addHalo_82 : decode cX3_addHalo 82 = .ok (.invokespecial 104, 3) := by decide +kernel
theorem dX3_addHalo_85 : decode cX3_addHalo 85 = .ok (.invokevirtual 56, 3) := by decide +kernel
theorem dX3_addHalo_88 : decode cX3_addHalo 88 = .ok (.pop, 1) := by decide +kernel
theorem dX3_addHalo_89 : decode cX3_addHalo 89 = .ok (.aload_n 0, 1) := by decide +kernel
theorem dX3_addHalo_90 : decode cX3_addHalo 90 = .ok (.getfield 19, 3) := by decide +kernel
theorem dX3_addHalo_93 : decode cX3_addHalo 93 = .ok (.invokevirtual 44, 3) := by decide +kernel
theorem dX3_addHalo_96 : decode cX3_addHalo 96 = .ok (.iconst 1, 1) := by decide +kernel
theorem dX3_addHalo_97 : decode cX3_addHalo 97 = .ok (.isub, 1) := by decide +kernel
theorem dX3_addHalo_98 : decode cX3_addHalo 98 = .ok (.ireturn, 1) := by decide +kernel
theorem dX3_comes_0 : decode cX3_comes 0 = .ok (.aload_n 0, 1) := by decide +kernel
theorem dX3_comes_1 : decode cX3_comes 1 = .ok (.iload_n 1, 1) := by decide +kernel
theorem dX3_comes_2 : decode cX3_comes 2 = .ok (.invokevirtual 105, 3) := by decide +kernel
theorem dX3_comes_5 : decode cX3_comes 5 = .ok (.ifCond .ne 11, 3) := by decide +kernel
theorem dX3_comes_8 : decode cX3_comes 8 = .ok (.aload_n 0, 1) := by decide +kernel
theorem dX3_comes_9 : decode cX3_comes 9 = .ok (.iload_n 2, 1) := by decide +kernel
theorem dX3_comes_10 : decode cX3_comes 10 = .ok (.invokevirtual 67, 3) := by decide +kernel
theorem dX3_comes_13 : decode cX3_comes 13 = .ok (.ifCond .eq 11, 3) := by decide +kernel
theorem dX3_comes_16 : decode cX3_comes 16 = .ok (.new 70, 3) := by decide +kernel
theorem dX3_comes_19 : decode cX3_comes 19 = .ok (.dup, 1) := by decide +kernel
theorem dX3_comes_20 : decode cX3_comes 20 = .ok (.invokespecial 72, 3) := by decide +kernel
theorem dX3_comes_23 : decode cX3_comes 23 = .ok (.athrow, 1) := by decide +kernel
theorem dX3_comes_24 : decode cX3_comes 24 = .ok (.aload_n 0, 1) := by decide +kernel
theorem dX3_comes_25 : decode cX3_comes 25 = .ok (.getfield 19, 3) := by decide +kernel
theorem dX3_comes_28 : decode cX3_comes 28 = .ok (.iload_n 1, 1) := by decide +kernel
theorem dX3_comes_29 : decode cX3_comes 29 = .ok (.invokevirtual 73, 3) := by decide +kernel
theorem dX3_comes_32 : decode cX3_comes 32 = .ok (.checkcast 102, 3) := by decide +kernel
theorem dX3_comes_35 : decode cX3_comes 35 = .ok (.aload_n 0, 1) := by decide +kernel
theorem dX3_comes_36 : decode cX3_comes 36 = .ok (.getfield 12, 3) := by decide +kernel
theorem dX3_comes_39 : decode cX3_comes 39 = .ok (.iload_n 2, 1) := by decide +kernel
theorem dX3_comes_40 : decode cX3_comes 40 = .ok (.invokevirtual 73, 3) := by decide +kernel
theorem dX3_comes_43 : decode cX3_comes 43 = .ok (.checkcast 51, 3) := by decide +kernel
theorem dX3_comes_46 : decode cX3_comes 46 = .ok (.getfield 108, 3) := by decide +kernel
theorem dX3_comes_49 : decode cX3_comes 49 = .ok (.invokevirtual 111, 3) := by decide +kernel
theorem dX3_comes_52 : decode cX3_comes 52 = .ok (.ireturn, 1) := by decide +kernel
theorem dX3_reading_0 : decode cX3_reading 0 = .ok (.aload_n 0, 1) := by decide +kernel
theorem dX3_reading_1 : decode cX3_reading 1 = .ok (.iload_n 1, 1) := by decide +kernel
theorem dX3_reading_2 : decode cX3_reading 2 = .ok (.invokevirtual 105, 3) := by decide +kernel
theorem dX3_reading_5 : decode cX3_reading 5 = .ok (.ifCond .ne 11, 3) := by decide +kernel
theorem dX3_reading_8 : decode cX3_reading 8 = .ok (.aload_n 0, 1) := by decide +kernel
theorem dX3_reading_9 : decode cX3_reading 9 = .ok (.iload_n 2, 1) := by decide +kernel
theorem dX3_reading_10 : decode cX3_reading 10 = .ok (.invokevirtual 67, 3) := by decide +kernel
theorem dX3_reading_13 : decode cX3_reading 13 = .ok (.ifCond .eq 11, 3) := by decide +kernel
theorem dX3_reading_16 : decode cX3_reading 16 = .ok (.new 70, 3) := by decide +kernel
theorem dX3_reading_19 : decode cX3_reading 19 = .ok (.dup, 1) := by decide +kernel
theorem dX3_reading_20 : decode cX3_reading 20 = .ok (.invokespecial 72, 3) := by decide +kernel
theorem dX3_reading_23 : decode cX3_reading 23 = .ok (.athrow, 1) := by decide +kernel
theorem dX3_reading_24 : decode cX3_reading 24 = .ok (.aload_n 0, 1) := by decide +kernel
theorem dX3_reading_25 : decode cX3_reading 25 = .ok (.getfield 12, 3) := by decide +kernel
theorem dX3_reading_28 : decode cX3_reading 28 = .ok (.iload_n 2, 1) := by decide +kernel
theorem dX3_reading_29 : decode cX3_reading 29 = .ok (.invokevirtual 73, 3) := by decide +kernel
theorem dX3_reading_32 : decode cX3_reading 32 = .ok (.checkcast 51, 3) := by decide +kernel
theorem dX3_reading_35 : decode cX3_reading 35 = .ok (.aload_n 0, 1) := by decide +kernel
theorem dX3_reading_36 : decode cX3_reading 36 = .ok (.getfield 19, 3) := by decide +kernel
theorem dX3_reading_39 : decode cX3_reading 39 = .ok (.iload_n 1, 1) := by decide +kernel
theorem dX3_reading_40 : decode cX3_reading 40 = .ok (.invokevirtual 73, 3) := by decide +kernel
theorem dX3_reading_43 : decode cX3_reading 43 = .ok (.checkcast 102, 3) := by decide +kernel
theorem dX3_reading_46 : decode cX3_reading 46 = .ok (.invokevirtual 114, 3) := by decide +kernel
theorem dX3_reading_49 : decode cX3_reading 49 = .ok (.ireturn, 1) := by decide +kernel
theorem dX3_order_0 : decode cX3_order 0 = .ok (.aload_n 0, 1) := by decide +kernel
theorem dX3_order_1 : decode cX3_order 1 = .ok (.iload_n 1, 1) := by decide +kernel
theorem dX3_order_2 : decode cX3_order 2 = .ok (.invokevirtual 105, 3) := by decide +kernel
theorem dX3_order_5 : decode cX3_order 5 = .ok (.ifCond .ne 7, 3) := by decide +kernel
theorem dX3_order_8 : decode cX3_order 8 = .ok (.iload_n 2, 1) := by decide +kernel
theorem dX3_order_9 : decode cX3_order 9 = .ok (.ifCond .ge 11, 3) := by decide +kernel
theorem dX3_order_12 : decode cX3_order 12 = .ok (.new 70, 3) := by decide +kernel
theorem dX3_order_15 : decode cX3_order 15 = .ok (.dup, 1) := by decide +kernel
theorem dX3_order_16 : decode cX3_order 16 = .ok (.invokespecial 72, 3) := by decide +kernel
theorem dX3_order_19 : decode cX3_order 19 = .ok (.athrow, 1) := by decide +kernel
theorem dX3_order_20 : decode cX3_order 20 = .ok (.aload_n 0, 1) := by decide +kernel
theorem dX3_order_21 : decode cX3_order 21 = .ok (.getfield 25, 3) := by decide +kernel
theorem dX3_order_24 : decode cX3_order 24 = .ok (.aload_n 0, 1) := by decide +kernel
theorem dX3_order_25 : decode cX3_order 25 = .ok (.getfield 19, 3) := by decide +kernel
theorem dX3_order_28 : decode cX3_order 28 = .ok (.iload_n 1, 1) := by decide +kernel
theorem dX3_order_29 : decode cX3_order 29 = .ok (.invokevirtual 73, 3) := by decide +kernel
theorem dX3_order_32 : decode cX3_order 32 = .ok (.checkcast 102, 3) := by decide +kernel
theorem dX3_order_35 : decode cX3_order 35 = .ok (.aload_n 0, 1) := by decide +kernel
theorem dX3_order_36 : decode cX3_order 36 = .ok (.getfield 16, 3) := by decide +kernel
theorem dX3_order_39 : decode cX3_order 39 = .ok (.invokevirtual 118, 3) := by decide +kernel
theorem dX3_order_42 : decode cX3_order 42 = .ok (.aload_n 0, 1) := by decide +kernel
theorem dX3_order_43 : decode cX3_order 43 = .ok (.getfield 25, 3) := by decide +kernel
theorem dX3_order_46 : decode cX3_order 46 = .ok (.iload_n 2, 1) := by decide +kernel
theorem dX3_order_47 : decode cX3_order 47 = .ok (.invokevirtual 122, 3) := by decide +kernel
theorem dX3_order_50 : decode cX3_order 50 = .ok (.ireturn, 1) := by decide +kernel
theorem dX3_halo_0 : decode cX3_halo 0 = .ok (.aload_n 0, 1) := by decide +kernel
theorem dX3_halo_1 : decode cX3_halo 1 = .ok (.iload_n 1, 1) := by decide +kernel
theorem dX3_halo_2 : decode cX3_halo 2 = .ok (.invokevirtual 105, 3) := by decide +kernel
theorem dX3_halo_5 : decode cX3_halo 5 = .ok (.ifCond .ne 13, 3) := by decide +kernel
theorem dX3_halo_8 : decode cX3_halo 8 = .ok (.iload_n 2, 1) := by decide +kernel
theorem dX3_halo_9 : decode cX3_halo 9 = .ok (.iconst 0, 1) := by decide +kernel
theorem dX3_halo_10 : decode cX3_halo 10 = .ok (.bipush 6, 2) := by decide +kernel
theorem dX3_halo_12 : decode cX3_halo 12 = .ok (.invokestatic 33, 3) := by decide +kernel
theorem dX3_halo_15 : decode cX3_halo 15 = .ok (.ifCond .eq 11, 3) := by decide +kernel
theorem dX3_halo_18 : decode cX3_halo 18 = .ok (.new 70, 3) := by decide +kernel
theorem dX3_halo_21 : decode cX3_halo 21 = .ok (.dup, 1) := by decide +kernel
theorem dX3_halo_22 : decode cX3_halo 22 = .ok (.invokespecial 72, 3) := by decide +kernel
theorem dX3_halo_25 : decode cX3_halo 25 = .ok (.athrow, 1) := by decide +kernel
theorem dX3_halo_26 : decode cX3_halo 26 = .ok (.aload_n 0, 1) := by decide +kernel
theorem dX3_halo_27 : decode cX3_halo 27 = .ok (.getfield 25, 3) := by decide +kernel
theorem dX3_halo_30 : decode cX3_halo 30 = .ok (.aload_n 0, 1) := by decide +kernel
theorem dX3_halo_31 : decode cX3_halo 31 = .ok (.getfield 19, 3) := by decide +kernel
theorem dX3_halo_34 : decode cX3_halo 34 = .ok (.iload_n 1, 1) := by decide +kernel
theorem dX3_halo_35 : decode cX3_halo 35 = .ok (.invokevirtual 73, 3) := by decide +kernel
theorem dX3_halo_38 : decode cX3_halo 38 = .ok (.checkcast 102, 3) := by decide +kernel
theorem dX3_halo_41 : decode cX3_halo 41 = .ok (.aload_n 0, 1) := by decide +kernel
theorem dX3_halo_42 : decode cX3_halo 42 = .ok (.getfield 16, 3) := by decide +kernel
theorem dX3_halo_45 : decode cX3_halo 45 = .ok (.invokevirtual 125, 3) := by decide +kernel
theorem dX3_halo_48 : decode cX3_halo 48 = .ok (.aload_n 0, 1) := by decide +kernel
theorem dX3_halo_49 : decode cX3_halo 49 = .ok (.getfield 25, 3) := by decide +kernel
theorem dX3_halo_52 : decode cX3_halo 52 = .ok (.iload_n 2, 1) := by decide +kernel
theorem dX3_halo_53 : decode cX3_halo 53 = .ok (.invokevirtual 128, 3) := by decide +kernel
theorem dX3_halo_56 : decode cX3_halo 56 = .ok (.ireturn, 1) := by decide +kernel
theorem dX3_guess_0 : decode cX3_guess 0 = .ok (.aload_n 0, 1) := by decide +kernel
theorem dX3_guess_1 : decode cX3_guess 1 = .ok (.iload_n 1, 1) := by decide +kernel
theorem dX3_guess_2 : decode cX3_guess 2 = .ok (.invokevirtual 105, 3) := by decide +kernel
theorem dX3_guess_5 : decode cX3_guess 5 = .ok (.ifCond .ne 11, 3) := by decide +kernel
theorem dX3_guess_8 : decode cX3_guess 8 = .ok (.aload_n 0, 1) := by decide +kernel
theorem dX3_guess_9 : decode cX3_guess 9 = .ok (.iload_n 2, 1) := by decide +kernel
theorem dX3_guess_10 : decode cX3_guess 10 = .ok (.invokevirtual 67, 3) := by decide +kernel
theorem dX3_guess_13 : decode cX3_guess 13 = .ok (.ifCond .eq 11, 3) := by decide +kernel
theorem dX3_guess_16 : decode cX3_guess 16 = .ok (.new 70, 3) := by decide +kernel
theorem dX3_guess_19 : decode cX3_guess 19 = .ok (.dup, 1) := by decide +kernel
theorem dX3_guess_20 : decode cX3_guess 20 = .ok (.invokespecial 72, 3) := by decide +kernel
theorem dX3_guess_23 : decode cX3_guess 23 = .ok (.athrow, 1) := by decide +kernel
theorem dX3_guess_24 : decode cX3_guess 24 = .ok (.aload_n 0, 1) := by decide +kernel
theorem dX3_guess_25 : decode cX3_guess 25 = .ok (.getfield 25, 3) := by decide +kernel
theorem dX3_guess_28 : decode cX3_guess 28 = .ok (.aload_n 0, 1) := by decide +kernel
theorem dX3_guess_29 : decode cX3_guess 29 = .ok (.getfield 19, 3) := by decide +kernel
theorem dX3_guess_32 : decode cX3_guess 32 = .ok (.iload_n 1, 1) := by decide +kernel
theorem dX3_guess_33 : decode cX3_guess 33 = .ok (.invokevirtual 73, 3) := by decide +kernel
theorem dX3_guess_36 : decode cX3_guess 36 = .ok (.checkcast 102, 3) := by decide +kernel
theorem dX3_guess_39 : decode cX3_guess 39 = .ok (.aload_n 0, 1) := by decide +kernel
theorem dX3_guess_40 : decode cX3_guess 40 = .ok (.getfield 16, 3) := by decide +kernel
theorem dX3_guess_43 : decode cX3_guess 43 = .ok (.invokevirtual 125, 3) := by decide +kernel
theorem dX3_guess_46 : decode cX3_guess 46 = .ok (.aload_n 0, 1) := by decide +kernel
theorem dX3_guess_47 : decode cX3_guess 47 = .ok (.getfield 25, 3) := by decide +kernel
theorem dX3_guess_50 : decode cX3_guess 50 = .ok (.aload_n 0, 1) := by decide +kernel
theorem dX3_guess_51 : decode cX3_guess 51 = .ok (.getfield 12, 3) := by decide +kernel
theorem dX3_guess_54 : decode cX3_guess 54 = .ok (.iload_n 2, 1) := by decide +kernel
theorem dX3_guess_55 : decode cX3_guess 55 = .ok (.invokevirtual 73, 3) := by decide +kernel
theorem dX3_guess_58 : decode cX3_guess 58 = .ok (.checkcast 51, 3) := by decide +kernel
theorem dX3_guess_61 : decode cX3_guess 61 = .ok (.getfield 108, 3) := by decide +kernel
theorem dX3_guess_64 : decode cX3_guess 64 = .ok (.invokevirtual 131, 3) := by decide +kernel
theorem dX3_guess_67 : decode cX3_guess 67 = .ok (.ireturn, 1) := by decide +kernel
theorem dX3_blame_0 : decode cX3_blame 0 = .ok (.aload_n 0, 1) := by decide +kernel
theorem dX3_blame_1 : decode cX3_blame 1 = .ok (.iload_n 1, 1) := by decide +kernel
theorem dX3_blame_2 : decode cX3_blame 2 = .ok (.invokevirtual 67, 3) := by decide +kernel
theorem dX3_blame_5 : decode cX3_blame 5 = .ok (.ifCond .eq 11, 3) := by decide +kernel
theorem dX3_blame_8 : decode cX3_blame 8 = .ok (.new 70, 3) := by decide +kernel
theorem dX3_blame_11 : decode cX3_blame 11 = .ok (.dup, 1) := by decide +kernel
theorem dX3_blame_12 : decode cX3_blame 12 = .ok (.invokespecial 72, 3) := by decide +kernel
theorem dX3_blame_15 : decode cX3_blame 15 = .ok (.athrow, 1) := by decide +kernel
theorem dX3_blame_16 : decode cX3_blame 16 = .ok (.iconst 0, 1) := by decide +kernel
theorem dX3_blame_17 : decode cX3_blame 17 = .ok (.istore_n 2, 1) := by decide +kernel
theorem dX3_blame_18 : decode cX3_blame 18 = .ok (.iconst 0, 1) := by decide +kernel
theorem dX3_blame_19 : decode cX3_blame 19 = .ok (.istore_n 3, 1) := by decide +kernel
theorem dX3_blame_20 : decode cX3_blame 20 = .ok (.iload_n 3, 1) := by decide +kernel
theorem dX3_blame_21 : decode cX3_blame 21 = .ok (.aload_n 0, 1) := by decide +kernel
theorem dX3_blame_22 : decode cX3_blame 22 = .ok (.getfield 19, 3) := by decide +kernel
theorem dX3_blame_25 : decode cX3_blame 25 = .ok (.invokevirtual 44, 3) := by decide +kernel
theorem dX3_blame_28 : decode cX3_blame 28 = .ok (.if_icmp .ge 56, 3) := by decide +kernel
theorem dX3_blame_31 : decode cX3_blame 31 = .ok (.aload_n 0, 1) := by decide +kernel
theorem dX3_blame_32 : decode cX3_blame 32 = .ok (.getfield 25, 3) := by decide +kernel
theorem dX3_blame_35 : decode cX3_blame 35 = .ok (.aload_n 0, 1) := by decide +kernel
theorem dX3_blame_36 : decode cX3_blame 36 = .ok (.getfield 19, 3) := by decide +kernel
theorem dX3_blame_39 : decode cX3_blame 39 = .ok (.iload_n 3, 1) := by decide +kernel
theorem dX3_blame_40 : decode cX3_blame 40 = .ok (.invokevirtual 73, 3) := by decide +kernel
theorem dX3_blame_43 : decode cX3_blame 43 = .ok (.checkcast 102, 3) := by decide +kernel
theorem dX3_blame_46 : decode cX3_blame 46 = .ok (.aload_n 0, 1) := by decide +kernel
theorem dX3_blame_47 : decode cX3_blame 47 = .ok (.getfield 16, 3) := by decide +kernel
theorem dX3_blame_50 : decode cX3_blame 50 = .ok (.invokevirtual 125, 3) := by decide +kernel
theorem dX3_blame_53 : decode cX3_blame 53 = .ok (.aload_n 0, 1) := by decide +kernel
theorem dX3_blame_54 : decode cX3_blame 54 = .ok (.getfield 25, 3) := by decide +kernel
theorem dX3_blame_57 : decode cX3_blame 57 = .ok (.getfield 134, 3) := by decide +kernel
theorem dX3_blame_60 : decode cX3_blame 60 = .ok (.iconst 2, 1) := by decide +kernel
theorem dX3_blame_61 : decode cX3_blame 61 = .ok (.if_icmp .le 17, 3) := by decide +kernel
theorem dX3_blame_64 : decode cX3_blame 64 = .ok (.aload_n 0, 1) := by decide +kernel
theorem dX3_blame_65 : decode cX3_blame 65 = .ok (.getfield 25, 3) := by decide +kernel
theorem dX3_blame_68 : decode cX3_blame 68 = .ok (.getfield 137, 3) := by decide +kernel
theorem dX3_blame_71 : decode cX3_blame 71 = .ok (.iload_n 1, 1) := by decide +kernel
theorem dX3_blame_72 : decode cX3_blame 72 = .ok (.if_icmp .ne 6, 3) := by decide +kernel
theorem dX3_blame_75 : decode cX3_blame 75 = .ok (.iinc 2 1, 3) := by decide +kernel
theorem dX3_blame_78 : decode cX3_blame 78 = .ok (.iinc 3 1, 3) := by decide +kernel
theorem dX3_blame_81 : decode cX3_blame 81 = .ok (.goto (-61), 3) := by decide +kernel
theorem dX3_blame_84 : decode cX3_blame 84 = .ok (.iload_n 2, 1) := by decide +kernel
theorem dX3_blame_85 : decode cX3_blame 85 = .ok (.ireturn, 1) := by decide +kernel
theorem dX3_advise_0 : decode cX3_advise 0 = .ok (.aload_n 0, 1) := by decide +kernel
theorem dX3_advise_1 : decode cX3_advise 1 = .ok (.iload_n 1, 1) := by decide +kernel
theorem dX3_advise_2 : decode cX3_advise 2 = .ok (.invokevirtual 67, 3) := by decide +kernel
theorem dX3_advise_5 : decode cX3_advise 5 = .ok (.ifCond .eq 11, 3) := by decide +kernel
theorem dX3_advise_8 : decode cX3_advise 8 = .ok (.new 70, 3) := by decide +kernel
theorem dX3_advise_11 : decode cX3_advise 11 = .ok (.dup, 1) := by decide +kernel
theorem dX3_advise_12 : decode cX3_advise 12 = .ok (.invokespecial 72, 3) := by decide +kernel
theorem dX3_advise_15 : decode cX3_advise 15 = .ok (.athrow, 1) := by decide +kernel
theorem dX3_advise_16 : decode cX3_advise 16 = .ok (.aload_n 0, 1) := by decide +kernel
theorem dX3_advise_17 : decode cX3_advise 17 = .ok (.aload_n 0, 1) := by decide +kernel
theorem dX3_advise_18 : decode cX3_advise 18 = .ok (.getfield 12, 3) := by decide +kernel
theorem dX3_advise_21 : decode cX3_advise 21 = .ok (.iload_n 1, 1) := by decide +kernel
theorem dX3_advise_22 : decode cX3_advise 22 = .ok (.invokevirtual 73, 3) := by decide +kernel
theorem dX3_advise_25 : decode cX3_advise 25 = .ok (.checkcast 51, 3) := by decide +kernel
theorem dX3_advise_28 : decode cX3_advise 28 = .ok (.invokevirtual 140, 3) := by decide +kernel
theorem dX3_advise_31 : decode cX3_advise 31 = .ok (.istore_n 2, 1) := by decide +kernel
theorem dX3_advise_32 : decode cX3_advise 32 = .ok (.aload_n 0, 1) := by decide +kernel
theorem dX3_advise_33 : decode cX3_advise 33 = .ok (.getfield 12, 3) := by decide +kernel
theorem dX3_advise_36 : decode cX3_advise 36 = .ok (.iload_n 1, 1) := by decide +kernel
theorem dX3_advise_37 : decode cX3_advise 37 = .ok (.invokevirtual 73, 3) := by decide +kernel
theorem dX3_advise_40 : decode cX3_advise 40 = .ok (.checkcast 51, 3) := by decide +kernel
theorem dX3_advise_43 : decode cX3_advise 43 = .ok (.getfield 91, 3) := by decide +kernel
theorem dX3_advise_46 : decode cX3_advise 46 = .ok (.istore_n 3, 1) := by decide +kernel
theorem dX3_advise_47 : decode cX3_advise 47 = .ok (.iload_n 2, 1) := by decide +kernel
theorem dX3_advise_48 : decode cX3_advise 48 = .ok (.ifCond .ne 7, 3) := by decide +kernel
theorem dX3_advise_51 : decode cX3_advise 51 = .ok (.iload_n 3, 1) := by decide +kernel
theorem dX3_advise_52 : decode cX3_advise 52 = .ok (.goto 13, 3) := by decide +kernel
theorem dX3_advise_55 : decode cX3_advise 55 = .ok (.iload_n 3, 1) := by decide +kernel
theorem dX3_advise_56 : decode cX3_advise 56 = .ok (.aload_n 0, 1) := by decide +kernel
theorem dX3_advise_57 : decode cX3_advise 57 = .ok (.getfield 29, 3) := by decide +kernel
theorem dX3_advise_60 : decode cX3_advise 60 = .ok (.iload_n 2, 1) := by decide +kernel
theorem dX3_advise_61 : decode cX3_advise 61 = .ok (.invokestatic 144, 3) := by decide +kernel
theorem dX3_advise_64 : decode cX3_advise 64 = .ok (.iadd, 1) := by decide +kernel
theorem dX3_advise_65 : decode cX3_advise 65 = .ok (.ireturn, 1) := by decide +kernel
theorem dX3_wire_0 : decode cX3_wire 0 = .ok (.aload_n 0, 1) := by decide +kernel
theorem dX3_wire_1 : decode cX3_wire 1 = .ok (.iload_n 1, 1) := by decide +kernel
theorem dX3_wire_2 : decode cX3_wire 2 = .ok (.invokevirtual 67, 3) := by decide +kernel
theorem dX3_wire_5 : decode cX3_wire 5 = .ok (.ifCond .ne 11, 3) := by decide +kernel
theorem dX3_wire_8 : decode cX3_wire 8 = .ok (.aload_n 0, 1) := by decide +kernel
theorem dX3_wire_9 : decode cX3_wire 9 = .ok (.iload_n 2, 1) := by decide +kernel
theorem dX3_wire_10 : decode cX3_wire 10 = .ok (.invokevirtual 67, 3) := by decide +kernel
theorem dX3_wire_13 : decode cX3_wire 13 = .ok (.ifCond .eq 11, 3) := by decide +kernel
theorem dX3_wire_16 : decode cX3_wire 16 = .ok (.new 70, 3) := by decide +kernel
theorem dX3_wire_19 : decode cX3_wire 19 = .ok (.dup, 1) := by decide +kernel
theorem dX3_wire_20 : decode cX3_wire 20 = .ok (.invokespecial 72, 3) := by decide +kernel
theorem dX3_wire_23 : decode cX3_wire 23 = .ok (.athrow, 1) := by decide +kernel
theorem dX3_wire_24 : decode cX3_wire 24 = .ok (.iload_n 3, 1) := by decide +kernel
theorem dX3_wire_25 : decode cX3_wire 25 = .ok (.iconst 0, 1) := by decide +kernel
theorem dX3_wire_26 : decode cX3_wire 26 = .ok (.ldc 98, 2) := by decide +kernel
theorem dX3_wire_28 : decode cX3_wire 28 = .ok (.invokestatic 33, 3) := by decide +kernel
theorem dX3_wire_31 : decode cX3_wire 31 = .ok (.ifCond .eq 11, 3) := by decide +kernel
theorem dX3_wire_34 : decode cX3_wire 34 = .ok (.new 37, 3) := by decide +kernel
theorem dX3_wire_37 : decode cX3_wire 37 = .ok (.dup, 1) := by decide +kernel
theorem dX3_wire_38 : decode cX3_wire 38 = .ok (.invokespecial 39, 3) := by decide +kernel
theorem dX3_wire_41 : decode cX3_wire 41 = .ok (.athrow, 1) := by decide +kernel
theorem dX3_wire_42 : decode cX3_wire 42 = .ok (.aload_n 0, 1) := by decide +kernel
theorem dX3_wire_43 : decode cX3_wire 43 = .ok (.getfield 12, 3) := by decide +kernel
theorem dX3_wire_46 : decode cX3_wire 46 = .ok (.iload_n 1, 1) := by decide +kernel
theorem dX3_wire_47 : decode cX3_wire 47 = .ok (.invokevirtual 73, 3) := by decide +kernel
theorem dX3_wire_50 : decode cX3_wire 50 = .ok (.checkcast 51, 3) := by decide +kernel
theorem dX3_wire_53 : decode cX3_wire 53 = .ok (.astore 4, 2) := by decide +kernel
theorem dX3_wire_55 : decode cX3_wire 55 = .ok (.aload_n 0, 1) := by decide +kernel
theorem dX3_wire_56 : decode cX3_wire 56 = .ok (.getfield 12, 3) := by decide +kernel
theorem dX3_wire_59 : decode cX3_wire 59 = .ok (.iload_n 2, 1) := by decide +kernel
theorem dX3_wire_60 : decode cX3_wire 60 = .ok (.invokevirtual 73, 3) := by decide +kernel
theorem dX3_wire_63 : decode cX3_wire 63 = .ok (.checkcast 51, 3) := by decide +kernel
theorem dX3_wire_66 : decode cX3_wire 66 = .ok (.astore 5, 2) := by decide +kernel
theorem dX3_wire_68 : decode cX3_wire 68 = .ok (.iload_n 3, 1) := by decide +kernel
theorem dX3_wire_69 : decode cX3_wire 69 = .ok (.aload 5, 2) := by decide +kernel
theorem dX3_wire_71 : decode cX3_wire 71 = .ok (.getfield 108, 3) := by decide +kernel
theorem dX3_wire_74 : decode cX3_wire 74 = .ok (.aload 4, 2) := by decide +kernel
theorem dX3_wire_76 : decode cX3_wire 76 = .ok (.getfield 108, 3) := by decide +kernel
theorem dX3_wire_79 : decode cX3_wire 79 = .ok (.isub, 1) := by decide +kernel
theorem dX3_wire_80 : decode cX3_wire 80 = .ok (.invokestatic 148, 3) := by decide +kernel
theorem dX3_wire_83 : decode cX3_wire 83 = .ok (.iconst 3, 1) := by decide +kernel
theorem dX3_wire_84 : decode cX3_wire 84 = .ok (.idiv, 1) := by decide +kernel
theorem dX3_wire_85 : decode cX3_wire 85 = .ok (.iadd, 1) := by decide +kernel
theorem dX3_wire_86 : decode cX3_wire 86 = .ok (.istore 6, 2) := by decide +kernel
theorem dX3_wire_88 : decode cX3_wire 88 = .ok (.aload 5, 2) := by decide +kernel
theorem dX3_wire_90 : decode cX3_wire 90 = .ok (.iload 6, 2) := by decide +kernel
theorem dX3_wire_92 : decode cX3_wire 92 = .ok (.invokevirtual 99, 3) := by decide +kernel
theorem dX3_wire_95 : decode cX3_wire 95 = .ok (.aload 4, 2) := by decide +kernel
theorem dX3_wire_97 : decode cX3_wire 97 = .ok (.iload_n 3, 1) := by decide +kernel
theorem dX3_wire_98 : decode cX3_wire 98 = .ok (.invokevirtual 99, 3) := by decide +kernel
theorem dX3_wire_101 : decode cX3_wire 101 = .ok (.isub, 1) := by decide +kernel
theorem dX3_wire_102 : decode cX3_wire 102 = .ok (.ireturn, 1) := by decide +kernel
theorem dX3_align_0 : decode cX3_align 0 = .ok (.aload_n 0, 1) := by decide +kernel
theorem dX3_align_1 : decode cX3_align 1 = .ok (.iload_n 1, 1) := by decide +kernel
theorem dX3_align_2 : decode cX3_align 2 = .ok (.invokevirtual 67, 3) := by decide +kernel
theorem dX3_align_5 : decode cX3_align 5 = .ok (.ifCond .eq 11, 3) := by decide +kernel
theorem dX3_align_8 : decode cX3_align 8 = .ok (.new 70, 3) := by decide +kernel
theorem dX3_align_11 : decode cX3_align 11 = .ok (.dup, 1) := by decide +kernel
theorem dX3_align_12 : decode cX3_align 12 = .ok (.invokespecial 72, 3) := by decide +kernel
theorem dX3_align_15 : decode cX3_align 15 = .ok (.athrow, 1) := by decide +kernel
theorem dX3_align_16 : decode cX3_align 16 = .ok (.iload_n 2, 1) := by decide +kernel
theorem dX3_align_17 : decode cX3_align 17 = .ok (.iconst 0, 1) := by decide +kernel
theorem dX3_align_18 : decode cX3_align 18 = .ok (.ldc 98, 2) := by decide +kernel
theorem dX3_align_20 : decode cX3_align 20 = .ok (.invokestatic 33, 3) := by decide +kernel
theorem dX3_align_23 : decode cX3_align 23 = .ok (.ifCond .eq 11, 3) := by decide +kernel
theorem dX3_align_26 : decode cX3_align 26 = .ok (.new 37, 3) := by decide +kernel
theorem dX3_align_29 : decode cX3_align 29 = .ok (.dup, 1) := by decide +kernel
theorem dX3_align_30 : decode cX3_align 30 = .ok (.invokespecial 39, 3) := by decide +kernel
theorem dX3_align_33 : decode cX3_align 33 = .ok (.athrow, 1) := by decide +kernel
theorem dX3_align_34 : decode cX3_align 34 = .ok (.aload_n 0, 1) := by decide +kernel
theorem dX3_align_35 : decode cX3_align 35 = .ok (.getfield 12, 3) := by decide +kernel
theorem dX3_align_38 : decode cX3_align 38 = .ok (.iload_n 1, 1) := by decide +kernel
theorem dX3_align_39 : decode cX3_align 39 = .ok (.invokevirtual 73, 3) := by decide +kernel
theorem dX3_align_42 : decode cX3_align 42 = .ok (.checkcast 51, 3) := by decide +kernel
theorem dX3_align_45 : decode cX3_align 45 = .ok (.iload_n 2, 1) := by decide +kernel
theorem dX3_align_46 : decode cX3_align 46 = .ok (.invokevirtual 99, 3) := by decide +kernel
theorem dX3_align_49 : decode cX3_align 49 = .ok (.istore_n 3, 1) := by decide +kernel
theorem dX3_align_50 : decode cX3_align 50 = .ok (.iconst 0, 1) := by decide +kernel
theorem dX3_align_51 : decode cX3_align 51 = .ok (.istore 4, 2) := by decide +kernel
theorem dX3_align_53 : decode cX3_align 53 = .ok (.iload 4, 2) := by decide +kernel
theorem dX3_align_55 : decode cX3_align 55 = .ok (.aload_n 0, 1) := by decide +kernel
theorem dX3_align_56 : decode cX3_align 56 = .ok (.getfield 12, 3) := by decide +kernel
theorem dX3_align_59 : decode cX3_align 59 = .ok (.invokevirtual 44, 3) := by decide +kernel
theorem dX3_align_62 : decode cX3_align 62 = .ok (.if_icmp .ge 48, 3) := by decide +kernel
theorem dX3_align_65 : decode cX3_align 65 = .ok (.aload_n 0, 1) := by decide +kernel
theorem dX3_align_66 : decode cX3_align 66 = .ok (.getfield 12, 3) := by decide +kernel
theorem dX3_align_69 : decode cX3_align 69 = .ok (.iload 4, 2) := by decide +kernel
theorem dX3_align_71 : decode cX3_align 71 = .ok (.invokevirtual 73, 3) := by decide +kernel
theorem dX3_align_74 : decode cX3_align 74 = .ok (.checkcast 51, 3) := by decide +kernel
theorem dX3_align_77 : decode cX3_align 77 = .ok (.iload_n 3, 1) := by decide +kernel
theorem dX3_align_78 : decode cX3_align 78 = .ok (.iload_n 2, 1) := by decide +kernel
theorem dX3_align_79 : decode cX3_align 79 = .ok (.invokevirtual 153, 3) := by decide +kernel
theorem dX3_align_82 : decode cX3_align 82 = .ok (.istore 5, 2) := by decide +kernel
theorem dX3_align_84 : decode cX3_align 84 = .ok (.iload 5, 2) := by decide +kernel
theorem dX3_align_86 : decode cX3_align 86 = .ok (.ldc 89, 2) := by decide +kernel
theorem dX3_align_88 : decode cX3_align 88 = .ok (.ldc 90, 2) := by decide +kernel
theorem dX3_align_90 : decode cX3_align 90 = .ok (.invokestatic 33, 3) := by decide +kernel
theorem dX3_align_93 : decode cX3_align 93 = .ok (.ifCond .eq 11, 3) := by decide +kernel
theorem dX3_align_96 : decode cX3_align 96 = .ok (.new 48, 3) := by decide +kernel
theorem dX3_align_99 : decode cX3_align 99 = .ok (.dup, 1) := by decide +kernel
theorem dX3_align_100 : decode cX3_align 100 = .ok (.invokespecial 50, 3) := by decide +kernel
theorem dX3_align_103 : decode cX3_align 103 = .ok (.athrow, 1) := by decide +kernel
theorem dX3_align_104 : decode cX3_align 104 = .ok (.iinc 4 1, 3) := by decide +kernel
theorem dX3_align_107 : decode cX3_align 107 = .ok (.goto (-54), 3) := by decide +kernel
theorem dX3_align_110 : decode cX3_align 110 = .ok (.aload_n 0, 1) := by decide +kernel
theorem dX3_align_111 : decode cX3_align 111 = .ok (.iload_n 3, 1) := by decide +kernel
theorem dX3_align_112 : decode cX3_align 112 = .ok (.iload_n 2, 1) := by decide +kernel
theorem dX3_align_113 : decode cX3_align 113 = .ok (.invokevirtual 157, 3) := by decide +kernel
theorem dX3_align_116 : decode cX3_align 116 = .ok (.ireturn, 1) := by decide +kernel
theorem dX3_spread_0 : decode cX3_spread 0 = .ok (.iload_n 1, 1) := by decide +kernel
theorem dX3_spread_1 : decode cX3_spread 1 = .ok (.iconst 0, 1) := by decide +kernel
theorem dX3_spread_2 : decode cX3_spread 2 = .ok (.ldc 98, 2) := by decide +kernel
theorem dX3_spread_4 : decode cX3_spread 4 = .ok (.invokestatic 33, 3) := by decide +kernel
theorem dX3_spread_7 : decode cX3_spread 7 = .ok (.ifCond .eq 11, 3) := by decide +kernel
theorem dX3_spread_10 : decode cX3_spread 10 = .ok (.new 37, 3) := by decide +kernel
theorem dX3_spread_13 : decode cX3_spread 13 = .ok (.dup, 1) := by decide +kernel
theorem dX3_spread_14 : decode cX3_spread 14 = .ok (.invokespecial 39, 3) := by decide +kernel
theorem dX3_spread_17 : decode cX3_spread 17 = .ok (.athrow, 1) := by decide +kernel
theorem dX3_spread_18 : decode cX3_spread 18 = .ok (.aload_n 0, 1) := by decide +kernel
theorem dX3_spread_19 : decode cX3_spread 19 = .ok (.getfield 12, 3) := by decide +kernel
theorem dX3_spread_22 : decode cX3_spread 22 = .ok (.invokevirtual 160, 3) := by decide +kernel
theorem dX3_spread_25 : decode cX3_spread 25 = .ok (.ifCond .eq 5, 3) := by decide +kernel
theorem dX3_spread_28 : decode cX3_spread 28 = .ok (.iconst 0, 1) := by decide +kernel
theorem dX3_spread_29 : decode cX3_spread 29 = .ok (.ireturn, 1) := by decide +kernel
theorem dX3_spread_30 : decode cX3_spread 30 = .ok (.aload_n 0, 1) := by decide +kernel
theorem dX3_spread_31 : decode cX3_spread 31 = .ok (.getfield 12, 3) := by decide +kernel
theorem dX3_spread_34 : decode cX3_spread 34 = .ok (.iconst 0, 1) := by decide +kernel
theorem dX3_spread_35 : decode cX3_spread 35 = .ok (.invokevirtual 73, 3) := by decide +kernel
theorem dX3_spread_38 : decode cX3_spread 38 = .ok (.checkcast 51, 3) := by decide +kernel
theorem dX3_spread_41 : decode cX3_spread 41 = .ok (.iload_n 1, 1) := by decide +kernel
theorem dX3_spread_42 : decode cX3_spread 42 = .ok (.invokevirtual 99, 3) := by decide +kernel
theorem dX3_spread_45 : decode cX3_spread 45 = .ok (.istore_n 2, 1) := by decide +kernel
theorem dX3_spread_46 : decode cX3_spread 46 = .ok (.iload_n 2, 1) := by decide +kernel
theorem dX3_spread_47 : decode cX3_spread 47 = .ok (.istore_n 3, 1) := by decide +kernel
theorem dX3_spread_48 : decode cX3_spread 48 = .ok (.iconst 1, 1) := by decide +kernel
theorem dX3_spread_49 : decode cX3_spread 49 = .ok (.istore 4, 2) := by decide +kernel
theorem dX3_spread_51 : decode cX3_spread 51 = .ok (.iload 4, 2) := by decide +kernel
theorem dX3_spread_53 : decode cX3_spread 53 = .ok (.aload_n 0, 1) := by decide +kernel
theorem dX3_spread_54 : decode cX3_spread 54 = .ok (.getfield 12, 3) := by decide +kernel
theorem dX3_spread_57 : decode cX3_spread 57 = .ok (.invokevirtual 44, 3) := by decide +kernel
theorem dX3_spread_60 : decode cX3_spread 60 = .ok (.if_icmp .ge 41, 3) := by decide +kernel
theorem dX3_spread_63 : decode cX3_spread 63 = .ok (.aload_n 0, 1) := by decide +kernel
theorem dX3_spread_64 : decode cX3_spread 64 = .ok (.getfield 12, 3) := by decide +kernel
theorem dX3_spread_67 : decode cX3_spread 67 = .ok (.iload 4, 2) := by decide +kernel
theorem dX3_spread_69 : decode cX3_spread 69 = .ok (.invokevirtual 73, 3) := by decide +kernel
theorem dX3_spread_72 : decode cX3_spread 72 = .ok (.checkcast 51, 3) := by decide +kernel
theorem dX3_spread_75 : decode cX3_spread 75 = .ok (.iload_n 1, 1) := by decide +kernel
theorem dX3_spread_76 : decode cX3_spread 76 = .ok (.invokevirtual 99, 3) := by decide +kernel
theorem dX3_spread_79 : decode cX3_spread 79 = .ok (.istore 5, 2) := by decide +kernel
theorem dX3_spread_81 : decode cX3_spread 81 = .ok (.iload_n 2, 1) := by decide +kernel
theorem dX3_spread_82 : decode cX3_spread 82 = .ok (.iload 5, 2) := by decide +kernel
theorem dX3_spread_84 : decode cX3_spread 84 = .ok (.invokestatic 163, 3) := by decide +kernel
theorem dX3_spread_87 : decode cX3_spread 87 = .ok (.istore_n 2, 1) := by decide +kernel
theorem dX3_spread_88 : decode cX3_spread 88 = .ok (.iload_n 3, 1) := by decide +kernel
theorem dX3_spread_89 : decode cX3_spread 89 = .ok (.iload 5, 2) := by decide +kernel
theorem dX3_spread_91 : decode cX3_spread 91 = .ok (.invokestatic 166, 3) := by decide +kernel
theorem dX3_spread_94 : decode cX3_spread 94 = .ok (.istore_n 3, 1) := by decide +kernel
theorem dX3_spread_95 : decode cX3_spread 95 = .ok (.iinc 4 1, 3) := by decide +kernel
theorem dX3_spread_98 : decode cX3_spread 98 = .ok (.goto (-47), 3) := by decide +kernel
theorem dX3_spread_101 : decode cX3_spread 101 = .ok (.iload_n 3, 1) := by decide +kernel
theorem dX3_spread_102 : decode cX3_spread 102 = .ok (.iload_n 2, 1) := by decide +kernel
theorem dX3_spread_103 : decode cX3_spread 103 = .ok (.isub, 1) := by decide +kernel
theorem dX3_spread_104 : decode cX3_spread 104 = .ok (.ireturn, 1) := by decide +kernel
theorem dX3_count_0 : decode cX3_count 0 = .ok (.iload_n 1, 1) := by decide +kernel
theorem dX3_count_1 : decode cX3_count 1 = .ok (.iconst 0, 1) := by decide +kernel
theorem dX3_count_2 : decode cX3_count 2 = .ok (.iconst 4, 1) := by decide +kernel
theorem dX3_count_3 : decode cX3_count 3 = .ok (.invokestatic 33, 3) := by decide +kernel
theorem dX3_count_6 : decode cX3_count 6 = .ok (.ifCond .eq 11, 3) := by decide +kernel
theorem dX3_count_9 : decode cX3_count 9 = .ok (.new 70, 3) := by decide +kernel
theorem dX3_count_12 : decode cX3_count 12 = .ok (.dup, 1) := by decide +kernel
theorem dX3_count_13 : decode cX3_count 13 = .ok (.invokespecial 72, 3) := by decide +kernel
theorem dX3_count_16 : decode cX3_count 16 = .ok (.athrow, 1) := by decide +kernel
theorem dX3_count_17 : decode cX3_count 17 = .ok (.aload_n 0, 1) := by decide +kernel
theorem dX3_count_18 : decode cX3_count 18 = .ok (.iload_n 1, 1) := by decide +kernel
theorem dX3_count_19 : decode cX3_count 19 = .ok (.invokevirtual 169, 3) := by decide +kernel
theorem dX3_count_22 : decode cX3_count 22 = .ok (.ireturn, 1) := by decide +kernel
theorem dX3_error_0 : decode cX3_error 0 = .ok (.aload_n 0, 1) := by decide +kernel
theorem dX3_error_1 : decode cX3_error 1 = .ok (.iload_n 1, 1) := by decide +kernel
theorem dX3_error_2 : decode cX3_error 2 = .ok (.invokevirtual 105, 3) := by decide +kernel
theorem dX3_error_5 : decode cX3_error 5 = .ok (.ifCond .eq 11, 3) := by decide +kernel
theorem dX3_error_8 : decode cX3_error 8 = .ok (.new 70, 3) := by decide +kernel
theorem dX3_error_11 : decode cX3_error 11 = .ok (.dup, 1) := by decide +kernel
theorem dX3_error_12 : decode cX3_error 12 = .ok (.invokespecial 72, 3) := by decide +kernel
theorem dX3_error_15 : decode cX3_error 15 = .ok (.athrow, 1) := by decide +kernel
theorem dX3_error_16 : decode cX3_error 16 = .ok (.aload_n 0, 1) := by decide +kernel
theorem dX3_error_17 : decode cX3_error 17 = .ok (.getfield 25, 3) := by decide +kernel
theorem dX3_error_20 : decode cX3_error 20 = .ok (.aload_n 0, 1) := by decide +kernel
theorem dX3_error_21 : decode cX3_error 21 = .ok (.getfield 19, 3) := by decide +kernel
theorem dX3_error_24 : decode cX3_error 24 = .ok (.iload_n 1, 1) := by decide +kernel
theorem dX3_error_25 : decode cX3_error 25 = .ok (.invokevirtual 73, 3) := by decide +kernel
theorem dX3_error_28 : decode cX3_error 28 = .ok (.checkcast 102, 3) := by decide +kernel
theorem dX3_error_31 : decode cX3_error 31 = .ok (.aload_n 0, 1) := by decide +kernel
theorem dX3_error_32 : decode cX3_error 32 = .ok (.getfield 16, 3) := by decide +kernel
theorem dX3_error_35 : decode cX3_error 35 = .ok (.invokevirtual 125, 3) := by decide +kernel
theorem dX3_error_38 : decode cX3_error 38 = .ok (.aload_n 0, 1) := by decide +kernel
theorem dX3_error_39 : decode cX3_error 39 = .ok (.getfield 25, 3) := by decide +kernel
theorem dX3_error_42 : decode cX3_error 42 = .ok (.invokevirtual 172, 3) := by decide +kernel
theorem dX3_error_45 : decode cX3_error 45 = .ok (.dreturn, 1) := by decide +kernel
theorem dX3_digest_0 : decode cX3_digest 0 = .ok (.ldc2_w 176, 3) := by decide +kernel
theorem dX3_digest_3 : decode cX3_digest 3 = .ok (.lstore_n 1, 1) := by decide +kernel
theorem dX3_digest_4 : decode cX3_digest 4 = .ok (.iconst 0, 1) := by decide +kernel
theorem dX3_digest_5 : decode cX3_digest 5 = .ok (.istore_n 3, 1) := by decide +kernel
theorem dX3_digest_6 : decode cX3_digest 6 = .ok (.iload_n 3, 1) := by decide +kernel
theorem dX3_digest_7 : decode cX3_digest 7 = .ok (.iconst 5, 1) := by decide +kernel
theorem dX3_digest_8 : decode cX3_digest 8 = .ok (.if_icmp .ge 22, 3) := by decide +kernel
theorem dX3_digest_11 : decode cX3_digest 11 = .ok (.lload_n 1, 1) := by decide +kernel
theorem dX3_digest_12 : decode cX3_digest 12 = .ok (.ldc2_w 178, 3) := by decide +kernel
theorem dX3_digest_15 : decode cX3_digest 15 = .ok (.lmul, 1) := by decide +kernel
theorem dX3_digest_16 : decode cX3_digest 16 = .ok (.aload_n 0, 1) := by decide +kernel
theorem dX3_digest_17 : decode cX3_digest 17 = .ok (.iload_n 3, 1) := by decide +kernel
theorem dX3_digest_18 : decode cX3_digest 18 = .ok (.invokevirtual 169, 3) := by decide +kernel
theorem dX3_digest_21 : decode cX3_digest 21 = .ok (.i2l, 1) := by decide +kernel
theorem dX3_digest_22 : decode cX3_digest 22 = .ok (.ladd, 1) := by decide +kernel
theorem dX3_digest_23 : decode cX3_digest 23 = .ok (.lstore_n 1, 1) := by decide +kernel
theorem dX3_digest_24 : decode cX3_digest 24 = .ok (.iinc 3 1, 3) := by decide +kernel
theorem dX3_digest_27 : decode cX3_digest 27 = .ok (.goto (-21), 3) := by decide +kernel
theorem dX3_digest_30 : decode cX3_digest 30 = .ok (.iconst 0, 1) := by decide +kernel
theorem dX3_digest_31 : decode cX3_digest 31 = .ok (.istore_n 3, 1) := by decide +kernel
theorem dX3_digest_32 : decode cX3_digest 32 = .ok (.iload_n 3, 1) := by decide +kernel
theorem dX3_digest_33 : decode cX3_digest 33 = .ok (.aload_n 0, 1) := by decide +kernel
theorem dX3_digest_34 : decode cX3_digest 34 = .ok (.getfield 12, 3) := by decide +kernel
theorem dX3_digest_37 : decode cX3_digest 37 = .ok (.invokevirtual 44, 3) := by decide +kernel
theorem dX3_digest_40 : decode cX3_digest 40 = .ok (.if_icmp .ge 50, 3) := by decide +kernel
theorem dX3_digest_43 : decode cX3_digest 43 = .ok (.iconst 0, 1) := by decide +kernel
theorem dX3_digest_44 : decode cX3_digest 44 = .ok (.istore 4, 2) := by decide +kernel
theorem dX3_digest_46 : decode cX3_digest 46 = .ok (.iload 4, 2) := by decide +kernel
theorem dX3_digest_48 : decode cX3_digest 48 = .ok (.bipush 6, 2) := by decide +kernel
theorem dX3_digest_50 : decode cX3_digest 50 = .ok (.if_icmp .ge 34, 3) := by decide +kernel
theorem dX3_digest_53 : decode cX3_digest 53 = .ok (.lload_n 1, 1) := by decide +kernel
theorem dX3_digest_54 : decode cX3_digest 54 = .ok (.ldc2_w 178, 3) := by decide +kernel
theorem dX3_digest_57 : decode cX3_digest 57 = .ok (.lmul, 1) := by decide +kernel
theorem dX3_digest_58 : decode cX3_digest 58 = .ok (.aload_n 0, 1) := by decide +kernel
theorem dX3_digest_59 : decode cX3_digest 59 = .ok (.aload_n 0, 1) := by decide +kernel
theorem dX3_digest_60 : decode cX3_digest 60 = .ok (.getfield 12, 3) := by decide +kernel
theorem dX3_digest_63 : decode cX3_digest 63 = .ok (.iload_n 3, 1) := by decide +kernel
theorem dX3_digest_64 : decode cX3_digest 64 = .ok (.invokevirtual 73, 3) := by decide +kernel
theorem dX3_digest_67 : decode cX3_digest 67 = .ok (.checkcast 51, 3) := by decide +kernel
theorem dX3_digest_70 : decode cX3_digest 70 = .ok (.iload 4, 2) := by decide +kernel
theorem dX3_digest_72 : decode cX3_digest 72 = .ok (.invokevirtual 94, 3) := by decide +kernel
theorem dX3_digest_75 : decode cX3_digest 75 = .ok (.i2l, 1) := by decide +kernel
theorem dX3_digest_76 : decode cX3_digest 76 = .ok (.ladd, 1) := by decide +kernel
theorem dX3_digest_77 : decode cX3_digest 77 = .ok (.lstore_n 1, 1) := by decide +kernel
theorem dX3_digest_78 : decode cX3_digest 78 = .ok (.iinc 4 1, 3) := by decide +kernel
theorem dX3_digest_81 : decode cX3_digest 81 = .ok (.goto (-35), 3) := by decide +kernel
theorem dX3_digest_84 : decode cX3_digest 84 = .ok (.iinc 3 1, 3) := by decide +kernel
theorem dX3_digest_87 : decode cX3_digest 87 = .ok (.goto (-55), 3) := by decide +kernel
theorem dX3_digest_90 : decode cX3_digest 90 = .ok (.iconst 0, 1) := by decide +kernel
theorem dX3_digest_91 : decode cX3_digest 91 = .ok (.istore_n 3, 1) := by decide +kernel
theorem dX3_digest_92 : decode cX3_digest 92 = .ok (.iload_n 3, 1) := by decide +kernel
theorem dX3_digest_93 : decode cX3_digest 93 = .ok (.aload_n 0, 1) := by decide +kernel
theorem dX3_digest_94 : decode cX3_digest 94 = .ok (.getfield 19, 3) := by decide +kernel
theorem dX3_digest_97 : decode cX3_digest 97 = .ok (.invokevirtual 44, 3) := by decide +kernel
theorem dX3_digest_100 : decode cX3_digest 100 = .ok (.if_icmp .ge 26, 3) := by decide +kernel
theorem dX3_digest_103 : decode cX3_digest 103 = .ok (.aload_n 0, 1) := by decide +kernel
theorem dX3_digest_104 : decode cX3_digest 104 = .ok (.lload_n 1, 1) := by decide +kernel
theorem dX3_digest_105 : decode cX3_digest 105 = .ok (.aload_n 0, 1) := by decide +kernel
theorem dX3_digest_106 : decode cX3_digest 106 = .ok (.getfield 19, 3) := by decide +kernel
theorem dX3_digest_109 : decode cX3_digest 109 = .ok (.iload_n 3, 1) := by decide +kernel
theorem dX3_digest_110 : decode cX3_digest 110 = .ok (.invokevirtual 73, 3) := by decide +kernel
theorem dX3_digest_113 : decode cX3_digest 113 = .ok (.checkcast 102, 3) := by decide +kernel
theorem dX3_digest_116 : decode cX3_digest 116 = .ok (.invokevirtual 180, 3) := by decide +kernel
theorem dX3_digest_119 : decode cX3_digest 119 = .ok (.lstore_n 1, 1) := by decide +kernel
theorem dX3_digest_120 : decode cX3_digest 120 = .ok (.iinc 3 1, 3) := by decide +kernel
theorem dX3_digest_123 : decode cX3_digest 123 = .ok (.goto (-31), 3) := by decide +kernel
theorem dX3_digest_126 : decode cX3_digest 126 = .ok (.lload_n 1, 1) := by decide +kernel
theorem dX3_digest_127 : decode cX3_digest 127 = .ok (.lreturn, 1) := by decide +kernel
theorem dX3_outside_0 : decode cX3_outside 0 = .ok (.iload_n 0, 1) := by decide +kernel
theorem dX3_outside_1 : decode cX3_outside 1 = .ok (.iload_n 1, 1) := by decide +kernel
theorem dX3_outside_2 : decode cX3_outside 2 = .ok (.if_icmp .lt 8, 3) := by decide +kernel
theorem dX3_outside_5 : decode cX3_outside 5 = .ok (.iload_n 0, 1) := by decide +kernel
theorem dX3_outside_6 : decode cX3_outside 6 = .ok (.iload_n 2, 1) := by decide +kernel
theorem dX3_outside_7 : decode cX3_outside 7 = .ok (.if_icmp .le 7, 3) := by decide +kernel
theorem dX3_outside_10 : decode cX3_outside 10 = .ok (.iconst 1, 1) := by decide +kernel
theorem dX3_outside_11 : decode cX3_outside 11 = .ok (.goto 4, 3) := by decide +kernel
theorem dX3_outside_14 : decode cX3_outside 14 = .ok (.iconst 0, 1) := by decide +kernel
theorem dX3_outside_15 : decode cX3_outside 15 = .ok (.ireturn, 1) := by decide +kernel
theorem dX3_noStation_0 : decode cX3_noStation 0 = .ok (.iload_n 1, 1) := by decide +kernel
theorem dX3_noStation_1 : decode cX3_noStation 1 = .ok (.iconst 0, 1) := by decide +kernel
theorem dX3_noStation_2 : decode cX3_noStation 2 = .ok (.aload_n 0, 1) := by decide +kernel
theorem dX3_noStation_3 : decode cX3_noStation 3 = .ok (.getfield 12, 3) := by decide +kernel
theorem dX3_noStation_6 : decode cX3_noStation 6 = .ok (.invokevirtual 44, 3) := by decide +kernel
theorem dX3_noStation_9 : decode cX3_noStation 9 = .ok (.iconst 1, 1) := by decide +kernel
theorem dX3_noStation_10 : decode cX3_noStation 10 = .ok (.isub, 1) := by decide +kernel
theorem dX3_noStation_11 : decode cX3_noStation 11 = .ok (.invokestatic 33, 3) := by decide +kernel
theorem dX3_noStation_14 : decode cX3_noStation 14 = .ok (.ireturn, 1) := by decide +kernel
theorem dX3_noHalo_0 : decode cX3_noHalo 0 = .ok (.iload_n 1, 1) := by decide +kernel
theorem dX3_noHalo_1 : decode cX3_noHalo 1 = .ok (.iconst 0, 1) := by decide +kernel
theorem dX3_noHalo_2 : decode cX3_noHalo 2 = .ok (.aload_n 0, 1) := by decide +kernel
theorem dX3_noHalo_3 : decode cX3_noHalo 3 = .ok (.getfield 19, 3) := by decide +kernel
theorem dX3_noHalo_6 : decode cX3_noHalo 6 = .ok (.invokevirtual 44, 3) := by decide +kernel
theorem dX3_noHalo_9 : decode cX3_noHalo 9 = .ok (.iconst 1, 1) := by decide +kernel
theorem dX3_noHalo_10 : decode cX3_noHalo 10 = .ok (.isub, 1) := by decide +kernel
theorem dX3_noHalo_11 : decode cX3_noHalo 11 = .ok (.invokestatic 33, 3) := by decide +kernel
theorem dX3_noHalo_14 : decode cX3_noHalo 14 = .ok (.ireturn, 1) := by decide +kernel
theorem dX3_isTaken_0 : decode cX3_isTaken 0 = .ok (.iconst 0, 1) := by decide +kernel
theorem dX3_isTaken_1 : decode cX3_isTaken 1 = .ok (.istore_n 2, 1) := by decide +kernel
theorem dX3_isTaken_2 : decode cX3_isTaken 2 = .ok (.iload_n 2, 1) := by decide +kernel
theorem dX3_isTaken_3 : decode cX3_isTaken 3 = .ok (.aload_n 0, 1) := by decide +kernel
theorem dX3_isTaken_4 : decode cX3_isTaken 4 = .ok (.getfield 12, 3) := by decide +kernel
theorem dX3_isTaken_7 : decode cX3_isTaken 7 = .ok (.invokevirtual 44, 3) := by decide +kernel
theorem dX3_isTaken_10 : decode cX3_isTaken 10 = .ok (.if_icmp .ge 29, 3) := by decide +kernel
theorem dX3_isTaken_13 : decode cX3_isTaken 13 = .ok (.aload_n 0, 1) := by decide +kernel
theorem dX3_isTaken_14 : decode cX3_isTaken 14 = .ok (.getfield 12, 3) := by decide +kernel
theorem dX3_isTaken_17 : decode cX3_isTaken 17 = .ok (.iload_n 2, 1) := by decide +kernel
theorem dX3_isTaken_18 : decode cX3_isTaken 18 = .ok (.invokevirtual 73, 3) := by decide +kernel
theorem dX3_isTaken_21 : decode cX3_isTaken 21 = .ok (.checkcast 51, 3) := by decide +kernel
theorem dX3_isTaken_24 : decode cX3_isTaken 24 = .ok (.getfield 108, 3) := by decide +kernel
theorem dX3_isTaken_27 : decode cX3_isTaken 27 = .ok (.iload_n 1, 1) := by decide +kernel
theorem dX3_isTaken_28 : decode cX3_isTaken 28 = .ok (.if_icmp .ne 5, 3) := by decide +kernel
theorem dX3_isTaken_31 : decode cX3_isTaken 31 = .ok (.iconst 1, 1) := by decide +kernel
theorem dX3_isTaken_32 : decode cX3_isTaken 32 = .ok (.ireturn, 1) := by decide +kernel
theorem dX3_isTaken_33 : decode cX3_isTaken 33 = .ok (.iinc 2 1, 3) := by decide +kernel
theorem dX3_isTaken_36 : decode cX3_isTaken 36 = .ok (.goto (-34), 3) := by decide +kernel
theorem dX3_isTaken_39 : decode cX3_isTaken 39 = .ok (.iconst 0, 1) := by decide +kernel
theorem dX3_isTaken_40 : decode cX3_isTaken 40 = .ok (.ireturn, 1) := by decide +kernel
theorem dX3_stationsBefore_0 : decode cX3_stationsBefore 0 = .ok (.iconst 0, 1) := by decide +kernel
theorem dX3_stationsBefore_1 : decode cX3_stationsBefore 1 = .ok (.istore_n 2, 1) := by decide +kernel
theorem dX3_stationsBefore_2 : decode cX3_stationsBefore 2 = .ok (.iconst 0, 1) := by decide +kernel
theorem dX3_stationsBefore_3 : decode cX3_stationsBefore 3 = .ok (.istore_n 3, 1) := by decide +kernel
theorem dX3_stationsBefore_4 : decode cX3_stationsBefore 4 = .ok (.iload_n 3, 1) := by decide +kernel
theorem dX3_stationsBefore_5 : decode cX3_stationsBefore 5 = .ok (.aload_n 0, 1) := by decide +kernel
theorem dX3_stationsBefore_6 : decode cX3_stationsBefore 6 = .ok (.getfield 16, 3) := by decide +kernel
theorem dX3_stationsBefore_9 : decode cX3_stationsBefore 9 = .ok (.invokevirtual 44, 3) := by decide +kernel
theorem dX3_stationsBefore_12 : decode cX3_stationsBefore 12 = .ok (.if_icmp .ge 30, 3) := by decide +kernel
theorem dX3_stationsBefore_15 : decode cX3_stationsBefore 15 = .ok (.aload_n 0, 1) := by decide +kernel
theorem dX3_stationsBefore_16 : decode cX3_stationsBefore 16 = .ok (.getfield 16, 3) := by decide +kernel
theorem dX3_stationsBefore_19 : decode cX3_stationsBefore 19 = .ok (.iload_n 3, 1) := by decide +kernel
theorem dX3_stationsBefore_20 : decode cX3_stationsBefore 20 = .ok (.invokevirtual 73, 3) := by decide +kernel
theorem dX3_stationsBefore_23 : decode cX3_stationsBefore 23 = .ok (.checkcast 51, 3) := by decide +kernel
theorem dX3_stationsBefore_26 : decode cX3_stationsBefore 26 = .ok (.getfield 108, 3) := by decide +kernel
theorem dX3_stationsBefore_29 : decode cX3_stationsBefore 29 = .ok (.iload_n 1, 1) := by decide +kernel
theorem dX3_stationsBefore_30 : decode cX3_stationsBefore 30 = .ok (.if_icmp .ge 6, 3) := by decide +kernel
theorem dX3_stationsBefore_33 : decode cX3_stationsBefore 33 = .ok (.iinc 2 1, 3) := by decide +kernel
theorem dX3_stationsBefore_36 : decode cX3_stationsBefore 36 = .ok (.iinc 3 1, 3) := by decide +kernel
theorem dX3_stationsBefore_39 : decode cX3_stationsBefore 39 = .ok (.goto (-35), 3) := by decide +kernel
theorem dX3_stationsBefore_42 : decode cX3_stationsBefore 42 = .ok (.iload_n 2, 1) := by decide +kernel
theorem dX3_stationsBefore_43 : decode cX3_stationsBefore 43 = .ok (.ireturn, 1) := by decide +kernel
theorem dX3_tellOfStation_0 : decode cX3_tellOfStation 0 = .ok (.iload_n 2, 1) := by decide +kernel
theorem dX3_tellOfStation_1 : decode cX3_tellOfStation 1 = .ok (.tableswitch 60 0 4 #[35, 40, 45, 50, 55], 35) := by decide +kernel
theorem dX3_tellOfStation_36 : decode cX3_tellOfStation 36 = .ok (.aload_n 1, 1) := by decide +kernel
theorem dX3_tellOfStation_37 : decode cX3_tellOfStation 37 = .ok (.getfield 108, 3) := by decide +kernel
theorem dX3_tellOfStation_40 : decode cX3_tellOfStation 40 = .ok (.ireturn, 1) := by decide +kernel
theorem dX3_tellOfStation_41 : decode cX3_tellOfStation 41 = .ok (.aload_n 1, 1) := by decide +kernel
theorem dX3_tellOfStation_42 : decode cX3_tellOfStation 42 = .ok (.getfield 184, 3) := by decide +kernel
theorem dX3_tellOfStation_45 : decode cX3_tellOfStation 45 = .ok (.ireturn, 1) := by decide +kernel
theorem dX3_tellOfStation_46 : decode cX3_tellOfStation 46 = .ok (.aload_n 1, 1) := by decide +kernel
theorem dX3_tellOfStation_47 : decode cX3_tellOfStation 47 = .ok (.getfield 187, 3) := by decide +kernel
theorem dX3_tellOfStation_50 : decode cX3_tellOfStation 50 = .ok (.ireturn, 1) := by decide +kernel
theorem dX3_tellOfStation_51 : decode cX3_tellOfStation 51 = .ok (.aload_n 1, 1) := by decide +kernel
theorem dX3_tellOfStation_52 : decode cX3_tellOfStation 52 = .ok (.getfield 91, 3) := by decide +kernel
theorem dX3_tellOfStation_55 : decode cX3_tellOfStation 55 = .ok (.ireturn, 1) := by decide +kernel
theorem dX3_tellOfStation_56 : decode cX3_tellOfStation 56 = .ok (.aload_n 1, 1) := by decide +kernel
theorem dX3_tellOfStation_57 : decode cX3_tellOfStation 57 = .ok (.getfield 85, 3) := by decide +kernel
theorem dX3_tellOfStation_60 : decode cX3_tellOfStation 60 = .ok (.ireturn, 1) := by decide +kernel
theorem dX3_tellOfStation_61 : decode cX3_tellOfStation 61 = .ok (.aload_n 0, 1) := by decide +kernel
theorem dX3_tellOfStation_62 : decode cX3_tellOfStation 62 = .ok (.aload_n 1, 1) := by decide +kernel
theorem dX3_tellOfStation_63 : decode cX3_tellOfStation 63 = .ok (.invokevirtual 190, 3) := by decide +kernel
theorem dX3_tellOfStation_66 : decode cX3_tellOfStation 66 = .ok (.ireturn, 1) := by decide +kernel
theorem dX3_halosSeenBy_0 : decode cX3_halosSeenBy 0 = .ok (.iconst 0, 1) := by decide +kernel
theorem dX3_halosSeenBy_1 : decode cX3_halosSeenBy 1 = .ok (.istore_n 2, 1) := by decide +kernel
theorem dX3_halosSeenBy_2 : decode cX3_halosSeenBy 2 = .ok (.iconst 0, 1) := by decide +kernel
theorem dX3_halosSeenBy_3 : decode cX3_halosSeenBy 3 = .ok (.istore_n 3, 1) := by decide +kernel
theorem dX3_halosSeenBy_4 : decode cX3_halosSeenBy 4 = .ok (.iload_n 3, 1) := by decide +kernel
theorem dX3_halosSeenBy_5 : decode cX3_halosSeenBy 5 = .ok (.aload_n 0, 1) := by decide +kernel
theorem dX3_halosSeenBy_6 : decode cX3_halosSeenBy 6 = .ok (.getfield 19, 3) := by decide +kernel
theorem dX3_halosSeenBy_9 : decode cX3_halosSeenBy 9 = .ok (.invokevirtual 44, 3) := by decide +kernel
theorem dX3_halosSeenBy_12 : decode cX3_halosSeenBy 12 = .ok (.if_icmp .ge 30, 3) := by decide +kernel
theorem dX3_halosSeenBy_15 : decode cX3_halosSeenBy 15 = .ok (.aload_n 1, 1) := by decide +kernel
theorem dX3_halosSeenBy_16 : decode cX3_halosSeenBy 16 = .ok (.aload_n 0, 1) := by decide +kernel
theorem dX3_halosSeenBy_17 : decode cX3_halosSeenBy 17 = .ok (.getfield 19, 3) := by decide +kernel
theorem dX3_halosSeenBy_20 : decode cX3_halosSeenBy 20 = .ok (.iload_n 3, 1) := by decide +kernel
theorem dX3_halosSeenBy_21 : decode cX3_halosSeenBy 21 = .ok (.invokevirtual 73, 3) := by decide +kernel
theorem dX3_halosSeenBy_24 : decode cX3_halosSeenBy 24 = .ok (.checkcast 102, 3) := by decide +kernel
theorem dX3_halosSeenBy_27 : decode cX3_halosSeenBy 27 = .ok (.invokevirtual 193, 3) := by decide +kernel
theorem dX3_halosSeenBy_30 : decode cX3_halosSeenBy 30 = .ok (.ifCond .eq 6, 3) := by decide +kernel
theorem dX3_halosSeenBy_33 : decode cX3_halosSeenBy 33 = .ok (.iinc 2 1, 3) := by decide +kernel
theorem dX3_halosSeenBy_36 : decode cX3_halosSeenBy 36 = .ok (.iinc 3 1, 3) := by decide +kernel
theorem dX3_halosSeenBy_39 : decode cX3_halosSeenBy 39 = .ok (.goto (-35), 3) := by decide +kernel
theorem dX3_halosSeenBy_42 : decode cX3_halosSeenBy 42 = .ok (.iload_n 2, 1) := by decide +kernel
theorem dX3_halosSeenBy_43 : decode cX3_halosSeenBy 43 = .ok (.ireturn, 1) := by decide +kernel
theorem dX3_stationsThatSee_0 : decode cX3_stationsThatSee 0 = .ok (.iconst 0, 1) := by decide +kernel
theorem dX3_stationsThatSee_1 : decode cX3_stationsThatSee 1 = .ok (.istore_n 2, 1) := by decide +kernel
theorem dX3_stationsThatSee_2 : decode cX3_stationsThatSee 2 = .ok (.iconst 0, 1) := by decide +kernel
theorem dX3_stationsThatSee_3 : decode cX3_stationsThatSee 3 = .ok (.istore_n 3, 1) := by decide +kernel
theorem dX3_stationsThatSee_4 : decode cX3_stationsThatSee 4 = .ok (.iload_n 3, 1) := by decide +kernel
theorem dX3_stationsThatSee_5 : decode cX3_stationsThatSee 5 = .ok (.aload_n 0, 1) := by decide +kernel
theorem dX3_stationsThatSee_6 : decode cX3_stationsThatSee 6 = .ok (.getfield 12, 3) := by decide +kernel
theorem dX3_stationsThatSee_9 : decode cX3_stationsThatSee 9 = .ok (.invokevirtual 44, 3) := by decide +kernel
theorem dX3_stationsThatSee_12 : decode cX3_stationsThatSee 12 = .ok (.if_icmp .ge 30, 3) := by decide +kernel
theorem dX3_stationsThatSee_15 : decode cX3_stationsThatSee 15 = .ok (.aload_n 0, 1) := by decide +kernel
theorem dX3_stationsThatSee_16 : decode cX3_stationsThatSee 16 = .ok (.getfield 12, 3) := by decide +kernel
theorem dX3_stationsThatSee_19 : decode cX3_stationsThatSee 19 = .ok (.iload_n 3, 1) := by decide +kernel
theorem dX3_stationsThatSee_20 : decode cX3_stationsThatSee 20 = .ok (.invokevirtual 73, 3) := by decide +kernel
theorem dX3_stationsThatSee_23 : decode cX3_stationsThatSee 23 = .ok (.checkcast 51, 3) := by decide +kernel
theorem dX3_stationsThatSee_26 : decode cX3_stationsThatSee 26 = .ok (.aload_n 1, 1) := by decide +kernel
theorem dX3_stationsThatSee_27 : decode cX3_stationsThatSee 27 = .ok (.invokevirtual 193, 3) := by decide +kernel
theorem dX3_stationsThatSee_30 : decode cX3_stationsThatSee 30 = .ok (.ifCond .eq 6, 3) := by decide +kernel
theorem dX3_stationsThatSee_33 : decode cX3_stationsThatSee 33 = .ok (.iinc 2 1, 3) := by decide +kernel
theorem dX3_stationsThatSee_36 : decode cX3_stationsThatSee 36 = .ok (.iinc 3 1, 3) := by decide +kernel
theorem dX3_stationsThatSee_39 : decode cX3_stationsThatSee 39 = .ok (.goto (-35), 3) := by decide +kernel
theorem dX3_stationsThatSee_42 : decode cX3_stationsThatSee 42 = .ok (.iload_n 2, 1) := by decide +kernel
theorem dX3_stationsThatSee_43 : decode cX3_stationsThatSee 43 = .ok (.ireturn, 1) := by decide +kernel
theorem dX3_gatherMisses_0 : decode cX3_gatherMisses 0 = .ok (.iconst 0, 1) := by decide +kernel
theorem dX3_gatherMisses_1 : decode cX3_gatherMisses 1 = .ok (.istore_n 2, 1) := by decide +kernel
theorem dX3_gatherMisses_2 : decode cX3_gatherMisses 2 = .ok (.iconst 0, 1) := by decide +kernel
theorem dX3_gatherMisses_3 : decode cX3_gatherMisses 3 = .ok (.istore_n 3, 1) := by decide +kernel
theorem dX3_gatherMisses_4 : decode cX3_gatherMisses 4 = .ok (.iload_n 3, 1) := by decide +kernel
theorem dX3_gatherMisses_5 : decode cX3_gatherMisses 5 = .ok (.aload_n 0, 1) := by decide +kernel
theorem dX3_gatherMisses_6 : decode cX3_gatherMisses 6 = .ok (.getfield 19, 3) := by decide +kernel
theorem dX3_gatherMisses_9 : decode cX3_gatherMisses 9 = .ok (.invokevirtual 44, 3) := by decide +kernel
theorem dX3_gatherMisses_12 : decode cX3_gatherMisses 12 = .ok (.if_icmp .ge 105, 3) := by decide +kernel
theorem dX3_gatherMisses_15 : decode cX3_gatherMisses 15 = .ok (.aload_n 1, 1) := by decide +kernel
theorem dX3_gatherMisses_16 : decode cX3_gatherMisses 16 = .ok (.aload_n 0, 1) := by decide +kernel
theorem dX3_gatherMisses_17 : decode cX3_gatherMisses 17 = .ok (.getfield 19, 3) := by decide +kernel
theorem dX3_gatherMisses_20 : decode cX3_gatherMisses 20 = .ok (.iload_n 3, 1) := by decide +kernel
theorem dX3_gatherMisses_21 : decode cX3_gatherMisses 21 = .ok (.invokevirtual 73, 3) := by decide +kernel
theorem dX3_gatherMisses_24 : decode cX3_gatherMisses 24 = .ok (.checkcast 102, 3) := by decide +kernel
theorem dX3_gatherMisses_27 : decode cX3_gatherMisses 27 = .ok (.invokevirtual 193, 3) := by decide +kernel
theorem dX3_gatherMisses_30 : decode cX3_gatherMisses 30 = .ok (.ifCond .eq 81, 3) := by decide +kernel
theorem dX3_gatherMisses_33 : decode cX3_gatherMisses 33 = .ok (.aload_n 0, 1) := by decide +kernel
theorem dX3_gatherMisses_34 : decode cX3_gatherMisses 34 = .ok (.getfield 25, 3) := by decide +kernel
theorem dX3_gatherMisses_37 : decode cX3_gatherMisses 37 = .ok (.aload_n 0, 1) := by decide +kernel
theorem dX3_gatherMisses_38 : decode cX3_gatherMisses 38 = .ok (.getfield 19, 3) := by decide +kernel
theorem dX3_gatherMisses_41 : decode cX3_gatherMisses 41 = .ok (.iload_n 3, 1) := by decide +kernel
theorem dX3_gatherMisses_42 : decode cX3_gatherMisses 42 = .ok (.invokevirtual 73, 3) := by decide +kernel
theorem dX3_gatherMisses_45 : decode cX3_gatherMisses 45 = .ok (.checkcast 102, 3) := by decide +kernel
theorem dX3_gatherMisses_48 : decode cX3_gatherMisses 48 = .ok (.aload_n 0, 1) := by decide +kernel
theorem dX3_gatherMisses_49 : decode cX3_gatherMisses 49 = .ok (.getfield 16, 3) := by decide +kernel
theorem dX3_gatherMisses_52 : decode cX3_gatherMisses 52 = .ok (.invokevirtual 125, 3) := by decide +kernel
theorem dX3_gatherMisses_55 : decode cX3_gatherMisses 55 = .ok (.aload_n 0, 1) := by decide +kernel
theorem dX3_gatherMisses_56 : decode cX3_gatherMisses 56 = .ok (.getfield 25, 3) := by decide +kernel
theorem dX3_gatherMisses_59 : decode cX3_gatherMisses 59 = .ok (.getfield 134, 3) := by decide +kernel
theorem dX3_gatherMisses_62 : decode cX3_gatherMisses 62 = .ok (.iconst 3, 1) := by decide +kernel
theorem dX3_gatherMisses_63 : decode cX3_gatherMisses 63 = .ok (.if_icmp .lt 48, 3) := by decide +kernel
theorem dX3_gatherMisses_66 : decode cX3_gatherMisses 66 = .ok (.iload_n 2, 1) := by decide +kernel
theorem dX3_gatherMisses_67 : decode cX3_gatherMisses 67 = .ok (.aload_n 0, 1) := by decide +kernel
theorem dX3_gatherMisses_68 : decode cX3_gatherMisses 68 = .ok (.getfield 29, 3) := by decide +kernel
theorem dX3_gatherMisses_71 : decode cX3_gatherMisses 71 = .ok (.arraylength, 1) := by decide +kernel
theorem dX3_gatherMisses_72 : decode cX3_gatherMisses 72 = .ok (.if_icmp .ge 39, 3) := by decide +kernel
theorem dX3_gatherMisses_75 : decode cX3_gatherMisses 75 = .ok (.aload_n 0, 1) := by decide +kernel
theorem dX3_gatherMisses_76 : decode cX3_gatherMisses 76 = .ok (.getfield 29, 3) := by decide +kernel
theorem dX3_gatherMisses_79 : decode cX3_gatherMisses 79 = .ok (.iload_n 2, 1) := by decide +kernel
theorem dX3_gatherMisses_80 : decode cX3_gatherMisses 80 = .ok (.aload_n 1, 1) := by decide +kernel
theorem dX3_gatherMisses_81 : decode cX3_gatherMisses 81 = .ok (.aload_n 0, 1) := by decide +kernel
theorem dX3_gatherMisses_82 : decode cX3_gatherMisses 82 = .ok (.getfield 19, 3) := by decide +kernel
theorem dX3_gatherMisses_85 : decode cX3_gatherMisses 85 = .ok (.iload_n 3, 1) := by decide +kernel
theorem dX3_gatherMisses_86 : decode cX3_gatherMisses 86 = .ok (.invokevirtual 73, 3) := by decide +kernel
theorem dX3_gatherMisses_89 : decode cX3_gatherMisses 89 = .ok (.checkcast 102, 3) := by decide +kernel
theorem dX3_gatherMisses_92 : decode cX3_gatherMisses 92 = .ok (.invokevirtual 114, 3) := by decide +kernel
theorem dX3_gatherMisses_95 : decode cX3_gatherMisses 95 = .ok (.aload_n 0, 1) := by decide +kernel
theorem dX3_gatherMisses_96 : decode cX3_gatherMisses 96 = .ok (.getfield 25, 3) := by decide +kernel
theorem dX3_gatherMisses_99 : decode cX3_gatherMisses 99 = .ok (.aload_n 1, 1) := by decide +kernel
theorem dX3_gatherMisses_100 : decode cX3_gatherMisses 100 = .ok (.getfield 108, 3) := by decide +kernel
theorem dX3_gatherMisses_103 : decode cX3_gatherMisses 103 = .ok (.invokevirtual 131, 3) := by decide +kernel
theorem dX3_gatherMisses_106 : decode cX3_gatherMisses 106 = .ok (.isub, 1) := by decide +kernel
theorem dX3_gatherMisses_107 : decode cX3_gatherMisses 107 = .ok (.iastore, 1) := by decide +kernel
theorem dX3_gatherMisses_108 : decode cX3_gatherMisses 108 = .ok (.iinc 2 1, 3) := by decide +kernel
theorem dX3_gatherMisses_111 : decode cX3_gatherMisses 111 = .ok (.iinc 3 1, 3) := by decide +kernel
theorem dX3_gatherMisses_114 : decode cX3_gatherMisses 114 = .ok (.goto (-110), 3) := by decide +kernel
theorem dX3_gatherMisses_117 : decode cX3_gatherMisses 117 = .ok (.iload_n 2, 1) := by decide +kernel
theorem dX3_gatherMisses_118 : decode cX3_gatherMisses 118 = .ok (.ireturn, 1) := by decide +kernel
theorem dX3_setAll_0 : decode cX3_setAll 0 = .ok (.iconst 0, 1) := by decide +kernel
theorem dX3_setAll_1 : decode cX3_setAll 1 = .ok (.istore_n 3, 1) := by decide +kernel
theorem dX3_setAll_2 : decode cX3_setAll 2 = .ok (.iconst 0, 1) := by decide +kernel
theorem dX3_setAll_3 : decode cX3_setAll 3 = .ok (.istore 4, 2) := by decide +kernel
theorem dX3_setAll_5 : decode cX3_setAll 5 = .ok (.iload 4, 2) := by decide +kernel
theorem dX3_setAll_7 : decode cX3_setAll 7 = .ok (.aload_n 0, 1) := by decide +kernel
theorem dX3_setAll_8 : decode cX3_setAll 8 = .ok (.getfield 12, 3) := by decide +kernel
theorem dX3_setAll_11 : decode cX3_setAll 11 = .ok (.invokevirtual 44, 3) := by decide +kernel
theorem dX3_setAll_14 : decode cX3_setAll 14 = .ok (.if_icmp .ge 52, 3) := by decide +kernel
theorem dX3_setAll_17 : decode cX3_setAll 17 = .ok (.aload_n 0, 1) := by decide +kernel
theorem dX3_setAll_18 : decode cX3_setAll 18 = .ok (.getfield 12, 3) := by decide +kernel
theorem dX3_setAll_21 : decode cX3_setAll 21 = .ok (.iload 4, 2) := by decide +kernel
theorem dX3_setAll_23 : decode cX3_setAll 23 = .ok (.invokevirtual 73, 3) := by decide +kernel
theorem dX3_setAll_26 : decode cX3_setAll 26 = .ok (.checkcast 51, 3) := by decide +kernel
theorem dX3_setAll_29 : decode cX3_setAll 29 = .ok (.astore 5, 2) := by decide +kernel
theorem dX3_setAll_31 : decode cX3_setAll 31 = .ok (.aload 5, 2) := by decide +kernel
theorem dX3_setAll_33 : decode cX3_setAll 33 = .ok (.iload_n 1, 1) := by decide +kernel
theorem dX3_setAll_34 : decode cX3_setAll 34 = .ok (.iload_n 2, 1) := by decide +kernel
theorem dX3_setAll_35 : decode cX3_setAll 35 = .ok (.invokevirtual 153, 3) := by decide +kernel
theorem dX3_setAll_38 : decode cX3_setAll 38 = .ok (.istore 6, 2) := by decide +kernel
theorem dX3_setAll_40 : decode cX3_setAll 40 = .ok (.iload 6, 2) := by decide +kernel
theorem dX3_setAll_42 : decode cX3_setAll 42 = .ok (.aload 5, 2) := by decide +kernel
theorem dX3_setAll_44 : decode cX3_setAll 44 = .ok (.getfield 91, 3) := by decide +kernel
theorem dX3_setAll_47 : decode cX3_setAll 47 = .ok (.if_icmp .eq 6, 3) := by decide +kernel
theorem dX3_setAll_50 : decode cX3_setAll 50 = .ok (.iinc 3 1, 3) := by decide +kernel
theorem dX3_setAll_53 : decode cX3_setAll 53 = .ok (.aload 5, 2) := by decide +kernel
theorem dX3_setAll_55 : decode cX3_setAll 55 = .ok (.iload 6, 2) := by decide +kernel
theorem dX3_setAll_57 : decode cX3_setAll 57 = .ok (.putfield 91, 3) := by decide +kernel
theorem dX3_setAll_60 : decode cX3_setAll 60 = .ok (.iinc 4 1, 3) := by decide +kernel
theorem dX3_setAll_63 : decode cX3_setAll 63 = .ok (.goto (-58), 3) := by decide +kernel
theorem dX3_setAll_66 : decode cX3_setAll 66 = .ok (.iload_n 3, 1) := by decide +kernel
theorem dX3_setAll_67 : decode cX3_setAll 67 = .ok (.ireturn, 1) := by decide +kernel
theorem dX3_countOf_0 : decode cX3_countOf 0 = .ok (.iload_n 1, 1) := by decide +kernel
theorem dX3_countOf_1 : decode cX3_countOf 1 = .ok (.tableswitch 57 0 3 #[31, 39, 47, 52], 31) := by decide +kernel
theorem dX3_countOf_32 : decode cX3_countOf 32 = .ok (.aload_n 0, 1) := by decide +kernel
theorem dX3_countOf_33 : decode cX3_countOf 33 = .ok (.getfield 12, 3) := by decide +kernel
theorem dX3_countOf_36 : decode cX3_countOf 36 = .ok (.invokevirtual 44, 3) := by decide +kernel
theorem dX3_countOf_39 : decode cX3_countOf 39 = .ok (.ireturn, 1) := by decide +kernel
theorem dX3_countOf_40 : decode cX3_countOf 40 = .ok (.aload_n 0, 1) := by decide +kernel
theorem dX3_countOf_41 : decode cX3_countOf 41 = .ok (.getfield 19, 3) := by decide +kernel
theorem dX3_countOf_44 : decode cX3_countOf 44 = .ok (.invokevirtual 44, 3) := by decide +kernel
theorem dX3_countOf_47 : decode cX3_countOf 47 = .ok (.ireturn, 1) := by decide +kernel
theorem dX3_countOf_48 : decode cX3_countOf 48 = .ok (.aload_n 0, 1) := by decide +kernel
theorem dX3_countOf_49 : decode cX3_countOf 49 = .ok (.invokevirtual 197, 3) := by decide +kernel
theorem dX3_countOf_52 : decode cX3_countOf 52 = .ok (.ireturn, 1) := by decide +kernel
theorem dX3_countOf_53 : decode cX3_countOf 53 = .ok (.aload_n 0, 1) := by decide +kernel
theorem dX3_countOf_54 : decode cX3_countOf 54 = .ok (.invokevirtual 200, 3) := by decide +kernel
theorem dX3_countOf_57 : decode cX3_countOf 57 = .ok (.ireturn, 1) := by decide +kernel
theorem dX3_countOf_58 : decode cX3_countOf 58 = .ok (.aload_n 0, 1) := by decide +kernel
theorem dX3_countOf_59 : decode cX3_countOf 59 = .ok (.invokevirtual 203, 3) := by decide +kernel
theorem dX3_countOf_62 : decode cX3_countOf 62 = .ok (.ireturn, 1) := by decide +kernel
theorem dX3_sightings_0 : decode cX3_sightings 0 = .ok (.iconst 0, 1) := by decide +kernel
theorem dX3_sightings_1 : decode cX3_sightings 1 = .ok (.istore_n 1, 1) := by decide +kernel
theorem dX3_sightings_2 : decode cX3_sightings 2 = .ok (.iconst 0, 1) := by decide +kernel
theorem dX3_sightings_3 : decode cX3_sightings 3 = .ok (.istore_n 2, 1) := by decide +kernel
theorem dX3_sightings_4 : decode cX3_sightings 4 = .ok (.iload_n 2, 1) := by decide +kernel
theorem dX3_sightings_5 : decode cX3_sightings 5 = .ok (.aload_n 0, 1) := by decide +kernel
theorem dX3_sightings_6 : decode cX3_sightings 6 = .ok (.getfield 19, 3) := by decide +kernel
theorem dX3_sightings_9 : decode cX3_sightings 9 = .ok (.invokevirtual 44, 3) := by decide +kernel
theorem dX3_sightings_12 : decode cX3_sightings 12 = .ok (.if_icmp .ge 27, 3) := by decide +kernel
theorem dX3_sightings_15 : decode cX3_sightings 15 = .ok (.iload_n 1, 1) := by decide +kernel
theorem dX3_sightings_16 : decode cX3_sightings 16 = .ok (.aload_n 0, 1) := by decide +kernel
theorem dX3_sightings_17 : decode cX3_sightings 17 = .ok (.aload_n 0, 1) := by decide +kernel
theorem dX3_sightings_18 : decode cX3_sightings 18 = .ok (.getfield 19, 3) := by decide +kernel
theorem dX3_sightings_21 : decode cX3_sightings 21 = .ok (.iload_n 2, 1) := by decide +kernel
theorem dX3_sightings_22 : decode cX3_sightings 22 = .ok (.invokevirtual 73, 3) := by decide +kernel
theorem dX3_sightings_25 : decode cX3_sightings 25 = .ok (.checkcast 102, 3) := by decide +kernel
theorem dX3_sightings_28 : decode cX3_sightings 28 = .ok (.invokevirtual 206, 3) := by decide +kernel
theorem dX3_sightings_31 : decode cX3_sightings 31 = .ok (.iadd, 1) := by decide +kernel
theorem dX3_sightings_32 : decode cX3_sightings 32 = .ok (.istore_n 1, 1) := by decide +kernel
theorem dX3_sightings_33 : decode cX3_sightings 33 = .ok (.iinc 2 1, 3) := by decide +kernel
theorem dX3_sightings_36 : decode cX3_sightings 36 = .ok (.goto (-32), 3) := by decide +kernel
theorem dX3_sightings_39 : decode cX3_sightings 39 = .ok (.iload_n 1, 1) := by decide +kernel
theorem dX3_sightings_40 : decode cX3_sightings 40 = .ok (.ireturn, 1) := by decide +kernel
theorem dX3_unseenHalos_0 : decode cX3_unseenHalos 0 = .ok (.iconst 0, 1) := by decide +kernel
theorem dX3_unseenHalos_1 : decode cX3_unseenHalos 1 = .ok (.istore_n 1, 1) := by decide +kernel
theorem dX3_unseenHalos_2 : decode cX3_unseenHalos 2 = .ok (.iconst 0, 1) := by decide +kernel
theorem dX3_unseenHalos_3 : decode cX3_unseenHalos 3 = .ok (.istore_n 2, 1) := by decide +kernel
theorem dX3_unseenHalos_4 : decode cX3_unseenHalos 4 = .ok (.iload_n 2, 1) := by decide +kernel
theorem dX3_unseenHalos_5 : decode cX3_unseenHalos 5 = .ok (.aload_n 0, 1) := by decide +kernel
theorem dX3_unseenHalos_6 : decode cX3_unseenHalos 6 = .ok (.getfield 19, 3) := by decide +kernel
theorem dX3_unseenHalos_9 : decode cX3_unseenHalos 9 = .ok (.invokevirtual 44, 3) := by decide +kernel
theorem dX3_unseenHalos_12 : decode cX3_unseenHalos 12 = .ok (.if_icmp .ge 30, 3) := by decide +kernel
theorem dX3_unseenHalos_15 : decode cX3_unseenHalos 15 = .ok (.aload_n 0, 1) := by decide +kernel
theorem dX3_unseenHalos_16 : decode cX3_unseenHalos 16 = .ok (.aload_n 0, 1) := by decide +kernel
theorem dX3_unseenHalos_17 : decode cX3_unseenHalos 17 = .ok (.getfield 19, 3) := by decide +kernel
theorem dX3_unseenHalos_20 : decode cX3_unseenHalos 20 = .ok (.iload_n 2, 1) := by decide +kernel
theorem dX3_unseenHalos_21 : decode cX3_unseenHalos 21 = .ok (.invokevirtual 73, 3) := by decide +kernel
theorem dX3_unseenHalos_24 : decode cX3_unseenHalos 24 = .ok (.checkcast 102, 3) := by decide +kernel
theorem dX3_unseenHalos_27 : decode cX3_unseenHalos 27 = .ok (.invokevirtual 206, 3) := by decide +kernel
theorem dX3_unseenHalos_30 : decode cX3_unseenHalos 30 = .ok (.ifCond .ne 6, 3) := by decide +kernel
theorem dX3_unseenHalos_33 : decode cX3_unseenHalos 33 = .ok (.iinc 1 1, 3) := by decide +kernel
theorem dX3_unseenHalos_36 : decode cX3_unseenHalos 36 = .ok (.iinc 2 1, 3) := by decide +kernel
theorem dX3_unseenHalos_39 : decode cX3_unseenHalos 39 = .ok (.goto (-35), 3) := by decide +kernel
theorem dX3_unseenHalos_42 : decode cX3_unseenHalos 42 = .ok (.iload_n 1, 1) := by decide +kernel
theorem dX3_unseenHalos_43 : decode cX3_unseenHalos 43 = .ok (.ireturn, 1) := by decide +kernel
theorem dX3_allClouds_0 : decode cX3_allClouds 0 = .ok (.iconst 0, 1) := by decide +kernel
theorem dX3_allClouds_1 : decode cX3_allClouds 1 = .ok (.istore_n 1, 1) := by decide +kernel
theorem dX3_allClouds_2 : decode cX3_allClouds 2 = .ok (.iconst 0, 1) := by decide +kernel
theorem dX3_allClouds_3 : decode cX3_allClouds 3 = .ok (.istore_n 2, 1) := by decide +kernel
theorem dX3_allClouds_4 : decode cX3_allClouds 4 = .ok (.iload_n 2, 1) := by decide +kernel
theorem dX3_allClouds_5 : decode cX3_allClouds 5 = .ok (.aload_n 0, 1) := by decide +kernel
theorem dX3_allClouds_6 : decode cX3_allClouds 6 = .ok (.getfield 12, 3) := by decide +kernel
theorem dX3_allClouds_9 : decode cX3_allClouds 9 = .ok (.invokevirtual 44, 3) := by decide +kernel
theorem dX3_allClouds_12 : decode cX3_allClouds 12 = .ok (.if_icmp .ge 26, 3) := by decide +kernel
theorem dX3_allClouds_15 : decode cX3_allClouds 15 = .ok (.iload_n 1, 1) := by decide +kernel
theorem dX3_allClouds_16 : decode cX3_allClouds 16 = .ok (.aload_n 0, 1) := by decide +kernel
theorem dX3_allClouds_17 : decode cX3_allClouds 17 = .ok (.getfield 12, 3) := by decide +kernel
theorem dX3_allClouds_20 : decode cX3_allClouds 20 = .ok (.iload_n 2, 1) := by decide +kernel
theorem dX3_allClouds_21 : decode cX3_allClouds 21 = .ok (.invokevirtual 73, 3) := by decide +kernel
theorem dX3_allClouds_24 : decode cX3_allClouds 24 = .ok (.checkcast 51, 3) := by decide +kernel
theorem dX3_allClouds_27 : decode cX3_allClouds 27 = .ok (.getfield 85, 3) := by decide +kernel
theorem dX3_allClouds_30 : decode cX3_allClouds 30 = .ok (.iadd, 1) := by decide +kernel
theorem dX3_allClouds_31 : decode cX3_allClouds 31 = .ok (.istore_n 1, 1) := by decide +kernel
theorem dX3_allClouds_32 : decode cX3_allClouds 32 = .ok (.iinc 2 1, 3) := by decide +kernel
theorem dX3_allClouds_35 : decode cX3_allClouds 35 = .ok (.goto (-31), 3) := by decide +kernel
theorem dX3_allClouds_38 : decode cX3_allClouds 38 = .ok (.iload_n 1, 1) := by decide +kernel
theorem dX3_allClouds_39 : decode cX3_allClouds 39 = .ok (.ireturn, 1) := by decide +kernel
theorem dX3_digestHalo_0 : decode cX3_digestHalo 0 = .ok (.lload_n 1, 1) := by decide +kernel
theorem dX3_digestHalo_1 : decode cX3_digestHalo 1 = .ok (.lstore 4, 2) := by decide +kernel
theorem dX3_digestHalo_3 : decode cX3_digestHalo 3 = .ok (.aload_n 0, 1) := by decide +kernel
theorem dX3_digestHalo_4 : decode cX3_digestHalo 4 = .ok (.getfield 25, 3) := by decide +kernel
theorem dX3_digestHalo_7 : decode cX3_digestHalo 7 = .ok (.aload_n 3, 1) := by decide +kernel
theorem dX3_digestHalo_8 : decode cX3_digestHalo 8 = .ok (.aload_n 0, 1) := by decide +kernel
theorem dX3_digestHalo_9 : decode cX3_digestHalo 9 = .ok (.getfield 16, 3) := by decide +kernel
theorem dX3_digestHalo_12 : decode cX3_digestHalo 12 = .ok (.invokevirtual 125, 3) := by decide +kernel
theorem dX3_digestHalo_15 : decode cX3_digestHalo 15 = .ok (.iconst 0, 1) := by decide +kernel
theorem dX3_digestHalo_16 : decode cX3_digestHalo 16 = .ok (.istore 6, 2) := by decide +kernel
theorem dX3_digestHalo_18 : decode cX3_digestHalo 18 = .ok (.iload 6, 2) := by decide +kernel
theorem dX3_digestHalo_20 : decode cX3_digestHalo 20 = .ok (.bipush 7, 2) := by decide +kernel
theorem dX3_digestHalo_22 : decode cX3_digestHalo 22 = .ok (.if_icmp .ge 28, 3) := by decide +kernel
theorem dX3_digestHalo_25 : decode cX3_digestHalo 25 = .ok (.lload 4, 2) := by decide +kernel
theorem dX3_digestHalo_27 : decode cX3_digestHalo 27 = .ok (.ldc2_w 178, 3) := by decide +kernel
theorem dX3_digestHalo_30 : decode cX3_digestHalo 30 = .ok (.lmul, 1) := by decide +kernel
theorem dX3_digestHalo_31 : decode cX3_digestHalo 31 = .ok (.aload_n 0, 1) := by decide +kernel
theorem dX3_digestHalo_32 : decode cX3_digestHalo 32 = .ok (.getfield 25, 3) := by decide +kernel
theorem dX3_digestHalo_35 : decode cX3_digestHalo 35 = .ok (.iload 6, 2) := by decide +kernel
theorem dX3_digestHalo_37 : decode cX3_digestHalo 37 = .ok (.invokevirtual 128, 3) := by decide +kernel
theorem dX3_digestHalo_40 : decode cX3_digestHalo 40 = .ok (.i2l, 1) := by decide +kernel
theorem dX3_digestHalo_41 : decode cX3_digestHalo 41 = .ok (.ladd, 1) := by decide +kernel
theorem dX3_digestHalo_42 : decode cX3_digestHalo 42 = .ok (.lstore 4, 2) := by decide +kernel
theorem dX3_digestHalo_44 : decode cX3_digestHalo 44 = .ok (.iinc 6 1, 3) := by decide +kernel
theorem dX3_digestHalo_47 : decode cX3_digestHalo 47 = .ok (.goto (-29), 3) := by decide +kernel
theorem dX3_digestHalo_50 : decode cX3_digestHalo 50 = .ok (.iconst 0, 1) := by decide +kernel
theorem dX3_digestHalo_51 : decode cX3_digestHalo 51 = .ok (.istore 6, 2) := by decide +kernel
theorem dX3_digestHalo_53 : decode cX3_digestHalo 53 = .ok (.iload 6, 2) := by decide +kernel
theorem dX3_digestHalo_55 : decode cX3_digestHalo 55 = .ok (.aload_n 0, 1) := by decide +kernel
theorem dX3_digestHalo_56 : decode cX3_digestHalo 56 = .ok (.getfield 12, 3) := by decide +kernel
theorem dX3_digestHalo_59 : decode cX3_digestHalo 59 = .ok (.invokevirtual 44, 3) := by decide +kernel
theorem dX3_digestHalo_62 : decode cX3_digestHalo 62 = .ok (.if_icmp .ge 35, 3) := by decide +kernel
theorem dX3_digestHalo_65 : decode cX3_digestHalo 65 = .ok (.lload 4, 2) := by decide +kernel
theorem dX3_digestHalo_67 : decode cX3_digestHalo 67 = .ok (.ldc2_w 178, 3) := by decide +kernel
theorem dX3_digestHalo_70 : decode cX3_digestHalo 70 = .ok (.lmul, 1) := by decide +kernel
theorem dX3_digestHalo_71 : decode cX3_digestHalo 71 = .ok (.aload_n 0, 1) := by decide +kernel
theorem dX3_digestHalo_72 : decode cX3_digestHalo 72 = .ok (.getfield 12, 3) := by decide +kernel
theorem dX3_digestHalo_75 : decode cX3_digestHalo 75 = .ok (.iload 6, 2) := by decide +kernel
theorem dX3_digestHalo_77 : decode cX3_digestHalo 77 = .ok (.invokevirtual 73, 3) := by decide +kernel
theorem dX3_digestHalo_80 : decode cX3_digestHalo 80 = .ok (.checkcast 51, 3) := by decide +kernel
theorem dX3_digestHalo_83 : decode cX3_digestHalo 83 = .ok (.aload_n 3, 1) := by decide +kernel
theorem dX3_digestHalo_84 : decode cX3_digestHalo 84 = .ok (.invokevirtual 114, 3) := by decide +kernel
theorem dX3_digestHalo_87 : decode cX3_digestHalo 87 = .ok (.i2l, 1) := by decide +kernel
theorem dX3_digestHalo_88 : decode cX3_digestHalo 88 = .ok (.ladd, 1) := by decide +kernel
theorem dX3_digestHalo_89 : decode cX3_digestHalo 89 = .ok (.lstore 4, 2) := by decide +kernel
theorem dX3_digestHalo_91 : decode cX3_digestHalo 91 = .ok (.iinc 6 1, 3) := by decide +kernel
theorem dX3_digestHalo_94 : decode cX3_digestHalo 94 = .ok (.goto (-41), 3) := by decide +kernel
theorem dX3_digestHalo_97 : decode cX3_digestHalo 97 = .ok (.lload 4, 2) := by decide +kernel
theorem dX3_digestHalo_99 : decode cX3_digestHalo 99 = .ok (.lreturn, 1) := by decide +kernel
theorem dX3_middle_0 : decode cX3_middle 0 = .ok (.iload_n 1, 1) := by decide +kernel
theorem dX3_middle_1 : decode cX3_middle 1 = .ok (.iconst 1, 1) := by decide +kernel
theorem dX3_middle_2 : decode cX3_middle 2 = .ok (.if_icmp .lt 9, 3) := by decide +kernel
theorem dX3_middle_5 : decode cX3_middle 5 = .ok (.iload_n 1, 1) := by decide +kernel
theorem dX3_middle_6 : decode cX3_middle 6 = .ok (.aload_n 0, 1) := by decide +kernel
theorem dX3_middle_7 : decode cX3_middle 7 = .ok (.arraylength, 1) := by decide +kernel
theorem dX3_middle_8 : decode cX3_middle 8 = .ok (.if_icmp .le 5, 3) := by decide +kernel
theorem dX3_middle_11 : decode cX3_middle 11 = .ok (.iconst 0, 1) := by decide +kernel
theorem dX3_middle_12 : decode cX3_middle 12 = .ok (.ireturn, 1) := by decide +kernel
theorem dX3_middle_13 : decode cX3_middle 13 = .ok (.iconst 1, 1) := by decide +kernel
theorem dX3_middle_14 : decode cX3_middle 14 = .ok (.istore_n 2, 1) := by decide +kernel
theorem dX3_middle_15 : decode cX3_middle 15 = .ok (.iload_n 2, 1) := by decide +kernel
theorem dX3_middle_16 : decode cX3_middle 16 = .ok (.iload_n 1, 1) := by decide +kernel
theorem dX3_middle_17 : decode cX3_middle 17 = .ok (.if_icmp .ge 52, 3) := by decide +kernel
theorem dX3_middle_20 : decode cX3_middle 20 = .ok (.aload_n 0, 1) := by decide +kernel
theorem dX3_middle_21 : decode cX3_middle 21 = .ok (.iload_n 2, 1) := by decide +kernel
theorem dX3_middle_22 : decode cX3_middle 22 = .ok (.iaload, 1) := by decide +kernel
theorem dX3_middle_23 : decode cX3_middle 23 = .ok (.istore_n 3, 1) := by decide +kernel
theorem dX3_middle_24 : decode cX3_middle 24 = .ok (.iload_n 2, 1) := by decide +kernel
theorem dX3_middle_25 : decode cX3_middle 25 = .ok (.istore 4, 2) := by decide +kernel
theorem dX3_middle_27 : decode cX3_middle 27 = .ok (.iload 4, 2) := by decide +kernel
theorem dX3_middle_29 : decode cX3_middle 29 = .ok (.ifCond .le 29, 3) := by decide +kernel
theorem dX3_middle_32 : decode cX3_middle 32 = .ok (.aload_n 0, 1) := by decide +kernel
theorem dX3_middle_33 : decode cX3_middle 33 = .ok (.iload 4, 2) := by decide +kernel
theorem dX3_middle_35 : decode cX3_middle 35 = .ok (.iconst 1, 1) := by decide +kernel
theorem dX3_middle_36 : decode cX3_middle 36 = .ok (.isub, 1) := by decide +kernel
theorem dX3_middle_37 : decode cX3_middle 37 = .ok (.iaload, 1) := by decide +kernel
theorem dX3_middle_38 : decode cX3_middle 38 = .ok (.iload_n 3, 1) := by decide +kernel
theorem dX3_middle_39 : decode cX3_middle 39 = .ok (.if_icmp .le 19, 3) := by decide +kernel
theorem dX3_middle_42 : decode cX3_middle 42 = .ok (.aload_n 0, 1) := by decide +kernel
theorem dX3_middle_43 : decode cX3_middle 43 = .ok (.iload 4, 2) := by decide +kernel
theorem dX3_middle_45 : decode cX3_middle 45 = .ok (.aload_n 0, 1) := by decide +kernel
theorem dX3_middle_46 : decode cX3_middle 46 = .ok (.iload 4, 2) := by decide +kernel
theorem dX3_middle_48 : decode cX3_middle 48 = .ok (.iconst 1, 1) := by decide +kernel
theorem dX3_middle_49 : decode cX3_middle 49 = .ok (.isub, 1) := by decide +kernel
theorem dX3_middle_50 : decode cX3_middle 50 = .ok (.iaload, 1) := by decide +kernel
theorem dX3_middle_51 : decode cX3_middle 51 = .ok (.iastore, 1) := by decide +kernel
theorem dX3_middle_52 : decode cX3_middle 52 = .ok (.iinc 4 (-1), 3) := by decide +kernel
theorem dX3_middle_55 : decode cX3_middle 55 = .ok (.goto (-28), 3) := by decide +kernel
theorem dX3_middle_58 : decode cX3_middle 58 = .ok (.aload_n 0, 1) := by decide +kernel
theorem dX3_middle_59 : decode cX3_middle 59 = .ok (.iload 4, 2) := by decide +kernel
theorem dX3_middle_61 : decode cX3_middle 61 = .ok (.iload_n 3, 1) := by decide +kernel
theorem dX3_middle_62 : decode cX3_middle 62 = .ok (.iastore, 1) := by decide +kernel
theorem dX3_middle_63 : decode cX3_middle 63 = .ok (.iinc 2 1, 3) := by decide +kernel
theorem dX3_middle_66 : decode cX3_middle 66 = .ok (.goto (-51), 3) := by decide +kernel
theorem dX3_middle_69 : decode cX3_middle 69 = .ok (.aload_n 0, 1) := by decide +kernel
theorem dX3_middle_70 : decode cX3_middle 70 = .ok (.iload_n 1, 1) := by decide +kernel
theorem dX3_middle_71 : decode cX3_middle 71 = .ok (.iconst 1, 1) := by decide +kernel
theorem dX3_middle_72 : decode cX3_middle 72 = .ok (.isub, 1) := by decide +kernel
theorem dX3_middle_73 : decode cX3_middle 73 = .ok (.iconst 2, 1) := by decide +kernel
theorem dX3_middle_74 : decode cX3_middle 74 = .ok (.idiv, 1) := by decide +kernel
theorem dX3_middle_75 : decode cX3_middle 75 = .ok (.iaload, 1) := by decide +kernel
theorem dX3_middle_76 : decode cX3_middle 76 = .ok (.ireturn, 1) := by decide +kernel
theorem dJxa1e45_init_da8c8_0 : decode cJxa1e45_init_da8c8 0 = .ok (.aload_n 0, 1) := by decide +kernel
theorem dJxa1e45_init_da8c8_1 : decode cJxa1e45_init_da8c8 1 = .ok (.invokespecial 1, 3) := by decide +kernel
theorem dJxa1e45_init_da8c8_4 : decode cJxa1e45_init_da8c8 4 = .ok (.return_, 1) := by decide +kernel
theorem dJxc12de_init_da8c8_0 : decode cJxc12de_init_da8c8 0 = .ok (.aload_n 0, 1) := by decide +kernel
theorem dJxc12de_init_da8c8_1 : decode cJxc12de_init_da8c8 1 = .ok (.invokespecial 1, 3) := by decide +kernel
theorem dJxc12de_init_da8c8_4 : decode cJxc12de_init_da8c8 4 = .ok (.aload_n 0, 1) := by decide +kernel
theorem dJxc12de_init_da8c8_5 : decode cJxc12de_init_da8c8 5 = .ok (.iconst 0, 1) := by decide +kernel
theorem dJxc12de_init_da8c8_6 : decode cJxc12de_init_da8c8 6 = .ok (.putfield 7, 3) := by decide +kernel
theorem dJxc12de_init_da8c8_9 : decode cJxc12de_init_da8c8 9 = .ok (.return_, 1) := by decide +kernel
theorem dJx4a65c_init_da8c8_0 : decode cJx4a65c_init_da8c8 0 = .ok (.aload_n 0, 1) := by decide +kernel
theorem dJx4a65c_init_da8c8_1 : decode cJx4a65c_init_da8c8 1 = .ok (.invokespecial 1, 3) := by decide +kernel
theorem dJx4a65c_init_da8c8_4 : decode cJx4a65c_init_da8c8 4 = .ok (.aload_n 0, 1) := by decide +kernel
theorem dJx4a65c_init_da8c8_5 : decode cJx4a65c_init_da8c8 5 = .ok (.getstatic 39, 3) := by decide +kernel
theorem dJx4a65c_init_da8c8_8 : decode cJx4a65c_init_da8c8 8 = .ok (.putfield 9, 3) := by decide +kernel
theorem dJx4a65c_init_da8c8_11 : decode cJx4a65c_init_da8c8 11 = .ok (.return_, 1) := by decide +kernel
theorem dJx4a65c_grow_92f84_0 : decode cJx4a65c_grow_92f84 0 = .ok (.aload_n 0, 1) := by decide +kernel
theorem dJx4a65c_grow_92f84_1 : decode cJx4a65c_grow_92f84 1 = .ok (.getfield 9, 3) := by decide +kernel
theorem dJx4a65c_grow_92f84_4 : decode cJx4a65c_grow_92f84 4 = .ok (.arraylength, 1) := by decide +kernel
theorem dJx4a65c_grow_92f84_5 : decode cJx4a65c_grow_92f84 5 = .ok (.istore_n 2, 1) := by decide +kernel
theorem dJx4a65c_grow_92f84_6 : decode cJx4a65c_grow_92f84 6 = .ok (.iload_n 2, 1) := by decide +kernel
theorem dJx4a65c_grow_92f84_7 : decode cJx4a65c_grow_92f84 7 = .ok (.ifCond .gt 13, 3) := by decide +kernel
theorem dJx4a65c_grow_92f84_10 : decode cJx4a65c_grow_92f84 10 = .ok (.aload_n 0, 1) := by decide +kernel
theorem dJx4a65c_grow_92f84_11 : decode cJx4a65c_grow_92f84 11 = .ok (.getfield 9, 3) := by decide +kernel
theorem dJx4a65c_grow_92f84_14 : decode cJx4a65c_grow_92f84 14 = .ok (.getstatic 39, 3) := by decide +kernel
theorem dJx4a65c_grow_92f84_17 : decode cJx4a65c_grow_92f84 17 = .ok (.if_acmp .eq 28, 3) := by decide +kernel
theorem dJx4a65c_grow_92f84_20 : decode cJx4a65c_grow_92f84 20 = .ok (.iload_n 2, 1) := by decide +kernel
theorem dJx4a65c_grow_92f84_21 : decode cJx4a65c_grow_92f84 21 = .ok (.iload_n 1, 1) := by decide +kernel
theorem dJx4a65c_grow_92f84_22 : decode cJx4a65c_grow_92f84 22 = .ok (.iload_n 2, 1) := by decide +kernel
theorem dJx4a65c_grow_92f84_23 : decode cJx4a65c_grow_92f84 23 = .ok (.isub, 1) := by decide +kernel
theorem dJx4a65c_grow_92f84_24 : decode cJx4a65c_grow_92f84 24 = .ok (.iload_n 2, 1) := by decide +kernel
theorem dJx4a65c_grow_92f84_25 : decode cJx4a65c_grow_92f84 25 = .ok (.iconst 1, 1) := by decide +kernel
theorem dJx4a65c_grow_92f84_26 : decode cJx4a65c_grow_92f84 26 = .ok (.ishr, 1) := by decide +kernel
theorem dJx4a65c_grow_92f84_27 : decode cJx4a65c_grow_92f84 27 = .ok (.invokestatic 73, 3) := by decide +kernel
theorem dJx4a65c_grow_92f84_30 : decode cJx4a65c_grow_92f84 30 = .ok (.istore_n 3, 1) := by decide +kernel
theorem dJx4a65c_grow_92f84_31 : decode cJx4a65c_grow_92f84 31 = .ok (.aload_n 0, 1) := by decide +kernel
theorem dJx4a65c_grow_92f84_32 : decode cJx4a65c_grow_92f84 32 = .ok (.aload_n 0, 1) := by decide +kernel
theorem dJx4a65c_grow_92f84_33 : decode cJx4a65c_grow_92f84 33 = .ok (.getfield 9, 3) := by decide +kernel
theorem dJx4a65c_grow_92f84_36 : decode cJx4a65c_grow_92f84 36 = .ok (.iload_n 3, 1) := by decide +kernel
theorem dJx4a65c_grow_92f84_37 : decode cJx4a65c_grow_92f84 37 = .ok (.invokestatic 66, 3) := by decide +kernel
theorem dJx4a65c_grow_92f84_40 : decode cJx4a65c_grow_92f84 40 = .ok (.dup_x1, 1) := by decide +kernel
theorem dJx4a65c_grow_92f84_41 : decode cJx4a65c_grow_92f84 41 = .ok (.putfield 9, 3) := by decide +kernel
theorem dJx4a65c_grow_92f84_44 : decode cJx4a65c_grow_92f84 44 = .ok (.areturn, 1) := by decide +kernel
theorem dJx4a65c_grow_92f84_45 : decode cJx4a65c_grow_92f84 45 = .ok (.aload_n 0, 1) := by decide +kernel
theorem dJx4a65c_grow_92f84_46 : decode cJx4a65c_grow_92f84 46 = .ok (.bipush 10, 2) := by decide +kernel
theorem dJx4a65c_grow_92f84_48 : decode cJx4a65c_grow_92f84 48 = .ok (.iload_n 1, 1) := by decide +kernel
theorem dJx4a65c_grow_92f84_49 : decode cJx4a65c_grow_92f84 49 = .ok (.invokestatic 79, 3) := by decide +kernel
theorem dJx4a65c_grow_92f84_52 : decode cJx4a65c_grow_92f84 52 = .ok (.anewarray 7, 3) := by decide +kernel
theorem dJx4a65c_grow_92f84_55 : decode cJx4a65c_grow_92f84 55 = .ok (.dup_x1, 1) := by decide +kernel
theorem dJx4a65c_grow_92f84_56 : decode cJx4a65c_grow_92f84 56 = .ok (.putfield 9, 3) := by decide +kernel
theorem dJx4a65c_grow_92f84_59 : decode cJx4a65c_grow_92f84 59 = .ok (.areturn, 1) := by decide +kernel
theorem dJx4a65c_grow_d5877_0 : decode cJx4a65c_grow_d5877 0 = .ok (.aload_n 0, 1) := by decide +kernel
theorem dJx4a65c_grow_d5877_1 : decode cJx4a65c_grow_d5877 1 = .ok (.aload_n 0, 1) := by decide +kernel
theorem dJx4a65c_grow_d5877_2 : decode cJx4a65c_grow_d5877 2 = .ok (.getfield 48, 3) := by decide +kernel
theorem dJx4a65c_grow_d5877_5 : decode cJx4a65c_grow_d5877 5 = .ok (.iconst 1, 1) := by decide +kernel
theorem dJx4a65c_grow_d5877_6 : decode cJx4a65c_grow_d5877 6 = .ok (.iadd, 1) := by decide +kernel
theorem dJx4a65c_grow_d5877_7 : decode cJx4a65c_grow_d5877 7 = .ok (.invokevirtual 69, 3) := by decide +kernel
theorem dJx4a65c_grow_d5877_10 : decode cJx4a65c_grow_d5877 10 = .ok (.areturn, 1) := by decide +kernel
theorem dJx4a65c_size_8abf5_0 : decode cJx4a65c_size_8abf5 0 = .ok (.aload_n 0, 1) := by decide +kernel
theorem dJx4a65c_size_8abf5_1 : decode cJx4a65c_size_8abf5 1 = .ok (.getfield 48, 3) := by decide +kernel
theorem dJx4a65c_size_8abf5_4 : decode cJx4a65c_size_8abf5 4 = .ok (.ireturn, 1) := by decide +kernel
theorem dJx4a65c_isEmpty_aae02_0 : decode cJx4a65c_isEmpty_aae02 0 = .ok (.aload_n 0, 1) := by decide +kernel
theorem dJx4a65c_isEmpty_aae02_1 : decode cJx4a65c_isEmpty_aae02 1 = .ok (.getfield 48, 3) := by decide +kernel
theorem dJx4a65c_isEmpty_aae02_4 : decode cJx4a65c_isEmpty_aae02 4 = .ok (.ifCond .ne 7, 3) := by decide +kernel
theorem dJx4a65c_isEmpty_aae02_7 : decode cJx4a65c_isEmpty_aae02 7 = .ok (.iconst 1, 1) := by decide +kernel
theorem dJx4a65c_isEmpty_aae02_8 : decode cJx4a65c_isEmpty_aae02 8 = .ok (.goto 4, 3) := by decide +kernel
theorem dJx4a65c_isEmpty_aae02_11 : decode cJx4a65c_isEmpty_aae02 11 = .ok (.iconst 0, 1) := by decide +kernel
theorem dJx4a65c_isEmpty_aae02_12 : decode cJx4a65c_isEmpty_aae02 12 = .ok (.ireturn, 1) := by decide +kernel
theorem dJx4a65c_elementData_915e3_0 : decode cJx4a65c_elementData_915e3 0 = .ok (.aload_n 0, 1) := by decide +kernel
theorem dJx4a65c_elementData_915e3_1 : decode cJx4a65c_elementData_915e3 1 = .ok (.getfield 9, 3) := by decide +kernel
theorem dJx4a65c_elementData_915e3_4 : decode cJx4a65c_elementData_915e3 4 = .ok (.iload_n 1, 1) := by decide +kernel
theorem dJx4a65c_elementData_915e3_5 : decode cJx4a65c_elementData_915e3 5 = .ok (.aaload, 1) := by decide +kernel
theorem dJx4a65c_elementData_915e3_6 : decode cJx4a65c_elementData_915e3 6 = .ok (.areturn, 1) := by decide +kernel
theorem dJx4a65c_get_915e3_0 : decode cJx4a65c_get_915e3 0 = .ok (.iload_n 1, 1) := by decide +kernel
theorem dJx4a65c_get_915e3_1 : decode cJx4a65c_get_915e3 1 = .ok (.aload_n 0, 1) := by decide +kernel
theorem dJx4a65c_get_915e3_2 : decode cJx4a65c_get_915e3 2 = .ok (.getfield 48, 3) := by decide +kernel
theorem dJx4a65c_get_915e3_5 : decode cJx4a65c_get_915e3 5 = .ok (.invokestatic 118, 3) := by decide +kernel
theorem dJx4a65c_get_915e3_8 : decode cJx4a65c_get_915e3 8 = .ok (.pop, 1) := by decide +kernel
theorem dJx4a65c_get_915e3_9 : decode cJx4a65c_get_915e3 9 = .ok (.aload_n 0, 1) := by decide +kernel
theorem dJx4a65c_get_915e3_10 : decode cJx4a65c_get_915e3 10 = .ok (.iload_n 1, 1) := by decide +kernel
theorem dJx4a65c_get_915e3_11 : decode cJx4a65c_get_915e3 11 = .ok (.invokevirtual 123, 3) := by decide +kernel
theorem dJx4a65c_get_915e3_14 : decode cJx4a65c_get_915e3 14 = .ok (.areturn, 1) := by decide +kernel
theorem dJx4a65c_add_72be8_0 : decode cJx4a65c_add_72be8 0 = .ok (.iload_n 3, 1) := by decide +kernel
theorem dJx4a65c_add_72be8_1 : decode cJx4a65c_add_72be8 1 = .ok (.aload_n 2, 1) := by decide +kernel
theorem dJx4a65c_add_72be8_2 : decode cJx4a65c_add_72be8 2 = .ok (.arraylength, 1) := by decide +kernel
theorem dJx4a65c_add_72be8_3 : decode cJx4a65c_add_72be8 3 = .ok (.if_icmp .ne 8, 3) := by decide +kernel
theorem dJx4a65c_add_72be8_6 : decode cJx4a65c_add_72be8 6 = .ok (.aload_n 0, 1) := by decide +kernel
theorem dJx4a65c_add_72be8_7 : decode cJx4a65c_add_72be8 7 = .ok (.invokevirtual 129, 3) := by decide +kernel
theorem dJx4a65c_add_72be8_10 : decode cJx4a65c_add_72be8 10 = .ok (.astore_n 2, 1) := by decide +kernel
theorem dJx4a65c_add_72be8_11 : decode cJx4a65c_add_72be8 11 = .ok (.aload_n 2, 1) := by decide +kernel
theorem dJx4a65c_add_72be8_12 : decode cJx4a65c_add_72be8 12 = .ok (.iload_n 3, 1) := by decide +kernel
theorem dJx4a65c_add_72be8_13 : decode cJx4a65c_add_72be8 13 = .ok (.aload_n 1, 1) := by decide +kernel
theorem dJx4a65c_add_72be8_14 : decode cJx4a65c_add_72be8 14 = .ok (.aastore, 1) := by decide +kernel
theorem dJx4a65c_add_72be8_15 : decode cJx4a65c_add_72be8 15 = .ok (.aload_n 0, 1) := by decide +kernel
theorem dJx4a65c_add_72be8_16 : decode cJx4a65c_add_72be8 16 = .ok (.iload_n 3, 1) := by decide +kernel
theorem dJx4a65c_add_72be8_17 : decode cJx4a65c_add_72be8 17 = .ok (.iconst 1, 1) := by decide +kernel
theorem dJx4a65c_add_72be8_18 : decode cJx4a65c_add_72be8 18 = .ok (.iadd, 1) := by decide +kernel
theorem dJx4a65c_add_72be8_19 : decode cJx4a65c_add_72be8 19 = .ok (.putfield 48, 3) := by decide +kernel
theorem dJx4a65c_add_72be8_22 : decode cJx4a65c_add_72be8 22 = .ok (.return_, 1) := by decide +kernel
theorem dJx4a65c_add_9ea2d_0 : decode cJx4a65c_add_9ea2d 0 = .ok (.aload_n 0, 1) := by decide +kernel
theorem dJx4a65c_add_9ea2d_1 : decode cJx4a65c_add_9ea2d 1 = .ok (.dup, 1) := by decide +kernel
theorem dJx4a65c_add_9ea2d_2 : decode cJx4a65c_add_9ea2d 2 = .ok (.getfield 63, 3) := by decide +kernel
theorem dJx4a65c_add_9ea2d_5 : decode cJx4a65c_add_9ea2d 5 = .ok (.iconst 1, 1) := by decide +kernel
theorem dJx4a65c_add_9ea2d_6 : decode cJx4a65c_add_9ea2d 6 = .ok (.iadd, 1) := by decide +kernel
theorem dJx4a65c_add_9ea2d_7 : decode cJx4a65c_add_9ea2d 7 = .ok (.putfield 63, 3) := by decide +kernel
theorem dJx4a65c_add_9ea2d_10 : decode cJx4a65c_add_9ea2d 10 = .ok (.aload_n 0, 1) := by decide +kernel
theorem dJx4a65c_add_9ea2d_11 : decode cJx4a65c_add_9ea2d 11 = .ok (.aload_n 1, 1) := by decide +kernel
theorem dJx4a65c_add_9ea2d_12 : decode cJx4a65c_add_9ea2d 12 = .ok (.aload_n 0, 1) := by decide +kernel
theorem dJx4a65c_add_9ea2d_13 : decode cJx4a65c_add_9ea2d 13 = .ok (.getfield 9, 3) := by decide +kernel
theorem dJx4a65c_add_9ea2d_16 : decode cJx4a65c_add_9ea2d 16 = .ok (.aload_n 0, 1) := by decide +kernel
theorem dJx4a65c_add_9ea2d_17 : decode cJx4a65c_add_9ea2d 17 = .ok (.getfield 48, 3) := by decide +kernel
theorem dJx4a65c_add_9ea2d_20 : decode cJx4a65c_add_9ea2d 20 = .ok (.invokevirtual 131, 3) := by decide +kernel
theorem dJx4a65c_add_9ea2d_23 : decode cJx4a65c_add_9ea2d 23 = .ok (.iconst 1, 1) := by decide +kernel
theorem dJx4a65c_add_9ea2d_24 : decode cJx4a65c_add_9ea2d 24 = .ok (.ireturn, 1) := by decide +kernel
theorem dJx4a65c_add_7a177_0 : decode cJx4a65c_add_7a177 0 = .ok (.aload_n 0, 1) := by decide +kernel
theorem dJx4a65c_add_7a177_1 : decode cJx4a65c_add_7a177 1 = .ok (.iload_n 1, 1) := by decide +kernel
theorem dJx4a65c_add_7a177_2 : decode cJx4a65c_add_7a177 2 = .ok (.invokevirtual 135, 3) := by decide +kernel
theorem dJx4a65c_add_7a177_5 : decode cJx4a65c_add_7a177 5 = .ok (.aload_n 0, 1) := by decide +kernel
theorem dJx4a65c_add_7a177_6 : decode cJx4a65c_add_7a177 6 = .ok (.dup, 1) := by decide +kernel
theorem dJx4a65c_add_7a177_7 : decode cJx4a65c_add_7a177 7 = .ok (.getfield 63, 3) := by decide +kernel
theorem dJx4a65c_add_7a177_10 : decode cJx4a65c_add_7a177 10 = .ok (.iconst 1, 1) := by decide +kernel
theorem dJx4a65c_add_7a177_11 : decode cJx4a65c_add_7a177 11 = .ok (.iadd, 1) := by decide +kernel
theorem dJx4a65c_add_7a177_12 : decode cJx4a65c_add_7a177 12 = .ok (.putfield 63, 3) := by decide +kernel
theorem dJx4a65c_add_7a177_15 : decode cJx4a65c_add_7a177 15 = .ok (.aload_n 0, 1) := by decide +kernel
theorem dJx4a65c_add_7a177_16 : decode cJx4a65c_add_7a177 16 = .ok (.getfield 48, 3) := by decide +kernel
theorem dJx4a65c_add_7a177_19 : decode cJx4a65c_add_7a177 19 = .ok (.dup, 1) := by decide +kernel
theorem dJx4a65c_add_7a177_20 : decode cJx4a65c_add_7a177 20 = .ok (.istore_n 3, 1) := by decide +kernel
theorem dJx4a65c_add_7a177_21 : decode cJx4a65c_add_7a177 21 = .ok (.aload_n 0, 1) := by decide +kernel
theorem dJx4a65c_add_7a177_22 : decode cJx4a65c_add_7a177 22 = .ok (.getfield 9, 3) := by decide +kernel
theorem dJx4a65c_add_7a177_25 : decode cJx4a65c_add_7a177 25 = .ok (.dup, 1) := by decide +kernel
theorem dJx4a65c_add_7a177_26 : decode cJx4a65c_add_7a177 26 = .ok (.astore 4, 2) := by decide +kernel
theorem dJx4a65c_add_7a177_28 : decode cJx4a65c_add_7a177 28 = .ok (.arraylength, 1) := by decide +kernel
theorem dJx4a65c_add_7a177_29 : decode cJx4a65c_add_7a177 29 = .ok (.if_icmp .ne 9, 3) := by decide +kernel
theorem dJx4a65c_add_7a177_32 : decode cJx4a65c_add_7a177 32 = .ok (.aload_n 0, 1) := by decide +kernel
theorem dJx4a65c_add_7a177_33 : decode cJx4a65c_add_7a177 33 = .ok (.invokevirtual 129, 3) := by decide +kernel
theorem dJx4a65c_add_7a177_36 : decode cJx4a65c_add_7a177 36 = .ok (.astore 4, 2) := by decide +kernel
theorem dJx4a65c_add_7a177_38 : decode cJx4a65c_add_7a177 38 = .ok (.aload 4, 2) := by decide +kernel
theorem dJx4a65c_add_7a177_40 : decode cJx4a65c_add_7a177 40 = .ok (.iload_n 1, 1) := by decide +kernel
theorem dJx4a65c_add_7a177_41 : decode cJx4a65c_add_7a177 41 = .ok (.aload 4, 2) := by decide +kernel
theorem dJx4a65c_add_7a177_43 : decode cJx4a65c_add_7a177 43 = .ok (.iload_n 1, 1) := by decide +kernel
theorem dJx4a65c_add_7a177_44 : decode cJx4a65c_add_7a177 44 = .ok (.iconst 1, 1) := by decide +kernel
theorem dJx4a65c_add_7a177_45 : decode cJx4a65c_add_7a177 45 = .ok (.iadd, 1) := by decide +kernel
theorem dJx4a65c_add_7a177_46 : decode cJx4a65c_add_7a177 46 = .ok (.iload_n 3, 1) := by decide +kernel
theorem dJx4a65c_add_7a177_47 : decode cJx4a65c_add_7a177 47 = .ok (.iload_n 1, 1) := by decide +kernel
theorem dJx4a65c_add_7a177_48 : decode cJx4a65c_add_7a177 48 = .ok (.isub, 1) := by decide +kernel
theorem dJx4a65c_add_7a177_49 : decode cJx4a65c_add_7a177 49 = .ok (.invokestatic 112, 3) := by decide +kernel
theorem dJx4a65c_add_7a177_52 : decode cJx4a65c_add_7a177 52 = .ok (.aload 4, 2) := by decide +kernel
theorem dJx4a65c_add_7a177_54 : decode cJx4a65c_add_7a177 54 = .ok (.iload_n 1, 1) := by decide +kernel
theorem dJx4a65c_add_7a177_55 : decode cJx4a65c_add_7a177 55 = .ok (.aload_n 2, 1) := by decide +kernel
theorem dJx4a65c_add_7a177_56 : decode cJx4a65c_add_7a177 56 = .ok (.aastore, 1) := by decide +kernel
theorem dJx4a65c_add_7a177_57 : decode cJx4a65c_add_7a177 57 = .ok (.aload_n 0, 1) := by decide +kernel
theorem dJx4a65c_add_7a177_58 : decode cJx4a65c_add_7a177 58 = .ok (.iload_n 3, 1) := by decide +kernel
theorem dJx4a65c_add_7a177_59 : decode cJx4a65c_add_7a177 59 = .ok (.iconst 1, 1) := by decide +kernel
theorem dJx4a65c_add_7a177_60 : decode cJx4a65c_add_7a177 60 = .ok (.iadd, 1) := by decide +kernel
theorem dJx4a65c_add_7a177_61 : decode cJx4a65c_add_7a177 61 = .ok (.putfield 48, 3) := by decide +kernel
theorem dJx4a65c_add_7a177_64 : decode cJx4a65c_add_7a177 64 = .ok (.return_, 1) := by decide +kernel
theorem dJx4a65c_rangeCheckForAdd_d00df_0 : decode cJx4a65c_rangeCheckForAdd_d00df 0 = .ok (.iload_n 1, 1) := by decide +kernel
theorem dJx4a65c_rangeCheckForAdd_d00df_1 : decode cJx4a65c_rangeCheckForAdd_d00df 1 = .ok (.aload_n 0, 1) := by decide +kernel
theorem dJx4a65c_rangeCheckForAdd_d00df_2 : decode cJx4a65c_rangeCheckForAdd_d00df 2 = .ok (.getfield 48, 3) := by decide +kernel
theorem dJx4a65c_rangeCheckForAdd_d00df_5 : decode cJx4a65c_rangeCheckForAdd_d00df 5 = .ok (.if_icmp .gt 7, 3) := by decide +kernel
theorem dJx4a65c_rangeCheckForAdd_d00df_8 : decode cJx4a65c_rangeCheckForAdd_d00df 8 = .ok (.iload_n 1, 1) := by decide +kernel
theorem dJx4a65c_rangeCheckForAdd_d00df_9 : decode cJx4a65c_rangeCheckForAdd_d00df 9 = .ok (.ifCond .ge 16, 3) := by decide +kernel
theorem dJx4a65c_rangeCheckForAdd_d00df_12 : decode cJx4a65c_rangeCheckForAdd_d00df 12 = .ok (.new 187, 3) := by decide +kernel
theorem dJx4a65c_rangeCheckForAdd_d00df_15 : decode cJx4a65c_rangeCheckForAdd_d00df 15 = .ok (.dup, 1) := by decide +kernel
theorem dJx4a65c_rangeCheckForAdd_d00df_16 : decode cJx4a65c_rangeCheckForAdd_d00df 16 = .ok (.aload_n 0, 1) := by decide +kernel
theorem dJx4a65c_rangeCheckForAdd_d00df_17 : decode cJx4a65c_rangeCheckForAdd_d00df 17 = .ok (.iload_n 1, 1) := by decide +kernel
theorem dJx4a65c_rangeCheckForAdd_d00df_18 : decode cJx4a65c_rangeCheckForAdd_d00df 18 = .ok (.invokevirtual 198, 3) := by decide +kernel
theorem dJx4a65c_rangeCheckForAdd_d00df_21 : decode cJx4a65c_rangeCheckForAdd_d00df 21 = .ok (.invokespecial 193, 3) := by decide +kernel
theorem dJx4a65c_rangeCheckForAdd_d00df_24 : decode cJx4a65c_rangeCheckForAdd_d00df 24 = .ok (.athrow, 1) := by decide +kernel
theorem dJx4a65c_rangeCheckForAdd_d00df_25 : decode cJx4a65c_rangeCheckForAdd_d00df 25 = .ok (.return_, 1) := by decide +kernel
theorem dJx4a65c_outOfBoundsMsg_b52d3_0 : decode cJx4a65c_outOfBoundsMsg_b52d3 0 = .ok (.new 20, 3) := by decide +kernel
theorem dJx4a65c_outOfBoundsMsg_b52d3_3 : decode cJx4a65c_outOfBoundsMsg_b52d3 3 = .ok (.dup, 1) := by decide +kernel
theorem dJx4a65c_outOfBoundsMsg_b52d3_4 : decode cJx4a65c_outOfBoundsMsg_b52d3 4 = .ok (.invokespecial 22, 3) := by decide +kernel
theorem dJx4a65c_outOfBoundsMsg_b52d3_7 : decode cJx4a65c_outOfBoundsMsg_b52d3 7 = .ok (.ldc 201, 2) := by decide +kernel
theorem dJx4a65c_outOfBoundsMsg_b52d3_9 : decode cJx4a65c_outOfBoundsMsg_b52d3 9 = .ok (.invokevirtual 25, 3) := by decide +kernel
theorem dJx4a65c_outOfBoundsMsg_b52d3_12 : decode cJx4a65c_outOfBoundsMsg_b52d3 12 = .ok (.iload_n 1, 1) := by decide +kernel
theorem dJx4a65c_outOfBoundsMsg_b52d3_13 : decode cJx4a65c_outOfBoundsMsg_b52d3 13 = .ok (.invokevirtual 29, 3) := by decide +kernel
theorem dJx4a65c_outOfBoundsMsg_b52d3_16 : decode cJx4a65c_outOfBoundsMsg_b52d3 16 = .ok (.ldc 203, 2) := by decide +kernel
theorem dJx4a65c_outOfBoundsMsg_b52d3_18 : decode cJx4a65c_outOfBoundsMsg_b52d3 18 = .ok (.invokevirtual 25, 3) := by decide +kernel
theorem dJx4a65c_outOfBoundsMsg_b52d3_21 : decode cJx4a65c_outOfBoundsMsg_b52d3 21 = .ok (.aload_n 0, 1) := by decide +kernel
theorem dJx4a65c_outOfBoundsMsg_b52d3_22 : decode cJx4a65c_outOfBoundsMsg_b52d3 22 = .ok (.getfield 48, 3) := by decide +kernel
theorem dJx4a65c_outOfBoundsMsg_b52d3_25 : decode cJx4a65c_outOfBoundsMsg_b52d3 25 = .ok (.invokevirtual 29, 3) := by decide +kernel
theorem dJx4a65c_outOfBoundsMsg_b52d3_28 : decode cJx4a65c_outOfBoundsMsg_b52d3 28 = .ok (.invokevirtual 32, 3) := by decide +kernel
theorem dJx4a65c_outOfBoundsMsg_b52d3_31 : decode cJx4a65c_outOfBoundsMsg_b52d3 31 = .ok (.areturn, 1) := by decide +kernel
theorem dJ7_copyOf_1904c_0 : decode cJ7_copyOf_1904c 0 = .ok (.aload_n 0, 1) := by decide +kernel
theorem dJ7_copyOf_1904c_1 : decode cJ7_copyOf_1904c 1 = .ok (.iload_n 1, 1) := by decide +kernel
theorem dJ7_copyOf_1904c_2 : decode cJ7_copyOf_1904c 2 = .ok (.aload_n 0, 1) := by decide +kernel
theorem dJ7_copyOf_1904c_3 : decode cJ7_copyOf_1904c 3 = .ok (.invokevirtual 86, 3) := by decide +kernel
theorem dJ7_copyOf_1904c_6 : decode cJ7_copyOf_1904c 6 = .ok (.invokestatic 300, 3) := by decide +kernel
theorem dJ7_copyOf_1904c_9 : decode cJ7_copyOf_1904c 9 = .ok (.areturn, 1) := by decide +kernel
theorem dJ7_copyOf_6403c_0 : decode cJ7_copyOf_6403c 0 = .ok (.aload_n 2, 1) := by decide +kernel
theorem dJ7_copyOf_6403c_1 : decode cJ7_copyOf_6403c 1 = .ok (.ldc 110, 2) := by decide +kernel
theorem dJ7_copyOf_6403c_3 : decode cJ7_copyOf_6403c 3 = .ok (.if_acmp .ne 10, 3) := by decide +kernel
theorem dJ7_copyOf_6403c_6 : decode cJ7_copyOf_6403c 6 = .ok (.iload_n 1, 1) := by decide +kernel
theorem dJ7_copyOf_6403c_7 : decode cJ7_copyOf_6403c 7 = .ok (.anewarray 2, 3) := by decide +kernel
theorem dJ7_copyOf_6403c_10 : decode cJ7_copyOf_6403c 10 = .ok (.goto 14, 3) := by decide +kernel
theorem dJ7_copyOf_6403c_13 : decode cJ7_copyOf_6403c 13 = .ok (.aload_n 2, 1) := by decide +kernel
theorem dJ7_copyOf_6403c_14 : decode cJ7_copyOf_6403c 14 = .ok (.invokevirtual 90, 3) := by decide +kernel
theorem dJ7_copyOf_6403c_17 : decode cJ7_copyOf_6403c 17 = .ok (.iload_n 1, 1) := by decide +kernel
theorem dJ7_copyOf_6403c_18 : decode cJ7_copyOf_6403c 18 = .ok (.invokestatic 95, 3) := by decide +kernel
theorem dJ7_copyOf_6403c_21 : decode cJ7_copyOf_6403c 21 = .ok (.checkcast 110, 3) := by decide +kernel
theorem dJ7_copyOf_6403c_24 : decode cJ7_copyOf_6403c 24 = .ok (.astore_n 3, 1) := by decide +kernel
theorem dJ7_copyOf_6403c_25 : decode cJ7_copyOf_6403c 25 = .ok (.aload_n 0, 1) := by decide +kernel
theorem dJ7_copyOf_6403c_26 : decode cJ7_copyOf_6403c 26 = .ok (.iconst 0, 1) := by decide +kernel
theorem dJ7_copyOf_6403c_27 : decode cJ7_copyOf_6403c 27 = .ok (.aload_n 3, 1) := by decide +kernel
theorem dJ7_copyOf_6403c_28 : decode cJ7_copyOf_6403c 28 = .ok (.iconst 0, 1) := by decide +kernel
theorem dJ7_copyOf_6403c_29 : decode cJ7_copyOf_6403c 29 = .ok (.aload_n 0, 1) := by decide +kernel
theorem dJ7_copyOf_6403c_30 : decode cJ7_copyOf_6403c 30 = .ok (.arraylength, 1) := by decide +kernel
theorem dJ7_copyOf_6403c_31 : decode cJ7_copyOf_6403c 31 = .ok (.iload_n 1, 1) := by decide +kernel
theorem dJ7_copyOf_6403c_32 : decode cJ7_copyOf_6403c 32 = .ok (.invokestatic 304, 3) := by decide +kernel
theorem dJ7_copyOf_6403c_35 : decode cJ7_copyOf_6403c 35 = .ok (.invokestatic 150, 3) := by decide +kernel
theorem dJ7_copyOf_6403c_38 : decode cJ7_copyOf_6403c 38 = .ok (.aload_n 3, 1) := by decide +kernel
theorem dJ7_copyOf_6403c_39 : decode cJ7_copyOf_6403c 39 = .ok (.areturn, 1) := by decide +kernel
theorem dJ7_copyOf_9075b_0 : decode cJ7_copyOf_9075b 0 = .ok (.iload_n 1, 1) := by decide +kernel
theorem dJ7_copyOf_9075b_1 : decode cJ7_copyOf_9075b 1 = .ok (.aload_n 0, 1) := by decide +kernel
theorem dJ7_copyOf_9075b_2 : decode cJ7_copyOf_9075b 2 = .ok (.arraylength, 1) := by decide +kernel
theorem dJ7_copyOf_9075b_3 : decode cJ7_copyOf_9075b 3 = .ok (.if_icmp .ne 11, 3) := by decide +kernel
theorem dJ7_copyOf_9075b_6 : decode cJ7_copyOf_9075b 6 = .ok (.aload_n 0, 1) := by decide +kernel
theorem dJ7_copyOf_9075b_7 : decode cJ7_copyOf_9075b 7 = .ok (.invokevirtual 310, 3) := by decide +kernel
theorem dJ7_copyOf_9075b_10 : decode cJ7_copyOf_9075b 10 = .ok (.checkcast 311, 3) := by decide +kernel
theorem dJ7_copyOf_9075b_13 : decode cJ7_copyOf_9075b 13 = .ok (.areturn, 1) := by decide +kernel
theorem dJ7_copyOf_9075b_14 : decode cJ7_copyOf_9075b 14 = .ok (.iload_n 1, 1) := by decide +kernel
theorem dJ7_copyOf_9075b_15 : decode cJ7_copyOf_9075b 15 = .ok (.newarray .byte, 2) := by decide +kernel
theorem dJ7_copyOf_9075b_17 : decode cJ7_copyOf_9075b 17 = .ok (.astore_n 2, 1) := by decide +kernel
theorem dJ7_copyOf_9075b_18 : decode cJ7_copyOf_9075b 18 = .ok (.aload_n 0, 1) := by decide +kernel
theorem dJ7_copyOf_9075b_19 : decode cJ7_copyOf_9075b 19 = .ok (.iconst 0, 1) := by decide +kernel
theorem dJ7_copyOf_9075b_20 : decode cJ7_copyOf_9075b 20 = .ok (.aload_n 2, 1) := by decide +kernel
theorem dJ7_copyOf_9075b_21 : decode cJ7_copyOf_9075b 21 = .ok (.iconst 0, 1) := by decide +kernel
theorem dJ7_copyOf_9075b_22 : decode cJ7_copyOf_9075b 22 = .ok (.aload_n 0, 1) := by decide +kernel
theorem dJ7_copyOf_9075b_23 : decode cJ7_copyOf_9075b 23 = .ok (.arraylength, 1) := by decide +kernel
theorem dJ7_copyOf_9075b_24 : decode cJ7_copyOf_9075b 24 = .ok (.iload_n 1, 1) := by decide +kernel
theorem dJ7_copyOf_9075b_25 : decode cJ7_copyOf_9075b 25 = .ok (.invokestatic 304, 3) := by decide +kernel
theorem dJ7_copyOf_9075b_28 : decode cJ7_copyOf_9075b 28 = .ok (.invokestatic 150, 3) := by decide +kernel
theorem dJ7_copyOf_9075b_31 : decode cJ7_copyOf_9075b 31 = .ok (.aload_n 2, 1) := by decide +kernel
theorem dJ7_copyOf_9075b_32 : decode cJ7_copyOf_9075b 32 = .ok (.areturn, 1) := by decide +kernel
theorem dJ7_checkLength_df160_0 : decode cJ7_checkLength_df160 0 = .ok (.iload_n 1, 1) := by decide +kernel
theorem dJ7_checkLength_df160_1 : decode cJ7_checkLength_df160 1 = .ok (.iload_n 0, 1) := by decide +kernel
theorem dJ7_checkLength_df160_2 : decode cJ7_checkLength_df160 2 = .ok (.if_icmp .ge 35, 3) := by decide +kernel
theorem dJ7_checkLength_df160_5 : decode cJ7_checkLength_df160 5 = .ok (.new 43, 3) := by decide +kernel
theorem dJ7_checkLength_df160_8 : decode cJ7_checkLength_df160 8 = .ok (.dup, 1) := by decide +kernel
theorem dJ7_checkLength_df160_9 : decode cJ7_checkLength_df160 9 = .ok (.new 45, 3) := by decide +kernel
theorem dJ7_checkLength_df160_12 : decode cJ7_checkLength_df160 12 = .ok (.dup, 1) := by decide +kernel
theorem dJ7_checkLength_df160_13 : decode cJ7_checkLength_df160 13 = .ok (.invokespecial 47, 3) := by decide +kernel
theorem dJ7_checkLength_df160_16 : decode cJ7_checkLength_df160 16 = .ok (.iload_n 0, 1) := by decide +kernel
theorem dJ7_checkLength_df160_17 : decode cJ7_checkLength_df160 17 = .ok (.invokevirtual 54, 3) := by decide +kernel
theorem dJ7_checkLength_df160_20 : decode cJ7_checkLength_df160 20 = .ok (.ldc_w 337, 3) := by decide +kernel
theorem dJ7_checkLength_df160_23 : decode cJ7_checkLength_df160 23 = .ok (.invokevirtual 50, 3) := by decide +kernel
theorem dJ7_checkLength_df160_26 : decode cJ7_checkLength_df160 26 = .ok (.iload_n 1, 1) := by decide +kernel
theorem dJ7_checkLength_df160_27 : decode cJ7_checkLength_df160 27 = .ok (.invokevirtual 54, 3) := by decide +kernel
theorem dJ7_checkLength_df160_30 : decode cJ7_checkLength_df160 30 = .ok (.invokevirtual 61, 3) := by decide +kernel
theorem dJ7_checkLength_df160_33 : decode cJ7_checkLength_df160 33 = .ok (.invokespecial 65, 3) := by decide +kernel
theorem dJ7_checkLength_df160_36 : decode cJ7_checkLength_df160 36 = .ok (.athrow, 1) := by decide +kernel
theorem dJ7_checkLength_df160_37 : decode cJ7_checkLength_df160 37 = .ok (.return_, 1) := by decide +kernel
theorem dJ7_copyOfRange_39247_0 : decode cJ7_copyOfRange_39247 0 = .ok (.iload_n 1, 1) := by decide +kernel
theorem dJ7_copyOfRange_39247_1 : decode cJ7_copyOfRange_39247 1 = .ok (.ifCond .ne 9, 3) := by decide +kernel
theorem dJ7_copyOfRange_39247_4 : decode cJ7_copyOfRange_39247 4 = .ok (.iload_n 2, 1) := by decide +kernel
theorem dJ7_copyOfRange_39247_5 : decode cJ7_copyOfRange_39247 5 = .ok (.aload_n 0, 1) := by decide +kernel
theorem dJ7_copyOfRange_39247_6 : decode cJ7_copyOfRange_39247 6 = .ok (.arraylength, 1) := by decide +kernel
theorem dJ7_copyOfRange_39247_7 : decode cJ7_copyOfRange_39247 7 = .ok (.if_icmp .eq 10, 3) := by decide +kernel
theorem dJ7_copyOfRange_39247_10 : decode cJ7_copyOfRange_39247 10 = .ok (.aload_n 0, 1) := by decide +kernel
theorem dJ7_copyOfRange_39247_11 : decode cJ7_copyOfRange_39247 11 = .ok (.iload_n 1, 1) := by decide +kernel
theorem dJ7_copyOfRange_39247_12 : decode cJ7_copyOfRange_39247 12 = .ok (.iload_n 2, 1) := by decide +kernel
theorem dJ7_copyOfRange_39247_13 : decode cJ7_copyOfRange_39247 13 = .ok (.invokestatic 339, 3) := by decide +kernel
theorem dJ7_copyOfRange_39247_16 : decode cJ7_copyOfRange_39247 16 = .ok (.areturn, 1) := by decide +kernel
theorem dJ7_copyOfRange_39247_17 : decode cJ7_copyOfRange_39247 17 = .ok (.aload_n 0, 1) := by decide +kernel
theorem dJ7_copyOfRange_39247_18 : decode cJ7_copyOfRange_39247 18 = .ok (.invokevirtual 310, 3) := by decide +kernel
theorem dJ7_copyOfRange_39247_21 : decode cJ7_copyOfRange_39247 21 = .ok (.checkcast 311, 3) := by decide +kernel
theorem dJ7_copyOfRange_39247_24 : decode cJ7_copyOfRange_39247 24 = .ok (.areturn, 1) := by decide +kernel
theorem dJ7_copyOfRangeByte_39247_0 : decode cJ7_copyOfRangeByte_39247 0 = .ok (.iload_n 1, 1) := by decide +kernel
theorem dJ7_copyOfRangeByte_39247_1 : decode cJ7_copyOfRangeByte_39247 1 = .ok (.iload_n 2, 1) := by decide +kernel
theorem dJ7_copyOfRangeByte_39247_2 : decode cJ7_copyOfRangeByte_39247 2 = .ok (.invokestatic 343, 3) := by decide +kernel
theorem dJ7_copyOfRangeByte_39247_5 : decode cJ7_copyOfRangeByte_39247 5 = .ok (.iload_n 2, 1) := by decide +kernel
theorem dJ7_copyOfRangeByte_39247_6 : decode cJ7_copyOfRangeByte_39247 6 = .ok (.iload_n 1, 1) := by decide +kernel
theorem dJ7_copyOfRangeByte_39247_7 : decode cJ7_copyOfRangeByte_39247 7 = .ok (.isub, 1) := by decide +kernel
theorem dJ7_copyOfRangeByte_39247_8 : decode cJ7_copyOfRangeByte_39247 8 = .ok (.istore_n 3, 1) := by decide +kernel
theorem dJ7_copyOfRangeByte_39247_9 : decode cJ7_copyOfRangeByte_39247 9 = .ok (.iload_n 3, 1) := by decide +kernel
theorem dJ7_copyOfRangeByte_39247_10 : decode cJ7_copyOfRangeByte_39247 10 = .ok (.newarray .byte, 2) := by decide +kernel
theorem dJ7_copyOfRangeByte_39247_12 : decode cJ7_copyOfRangeByte_39247 12 = .ok (.astore 4, 2) := by decide +kernel
theorem dJ7_copyOfRangeByte_39247_14 : decode cJ7_copyOfRangeByte_39247 14 = .ok (.aload_n 0, 1) := by decide +kernel
theorem dJ7_copyOfRangeByte_39247_15 : decode cJ7_copyOfRangeByte_39247 15 = .ok (.iload_n 1, 1) := by decide +kernel
theorem dJ7_copyOfRangeByte_39247_16 : decode cJ7_copyOfRangeByte_39247 16 = .ok (.aload 4, 2) := by decide +kernel
theorem dJ7_copyOfRangeByte_39247_18 : decode cJ7_copyOfRangeByte_39247 18 = .ok (.iconst 0, 1) := by decide +kernel
theorem dJ7_copyOfRangeByte_39247_19 : decode cJ7_copyOfRangeByte_39247 19 = .ok (.aload_n 0, 1) := by decide +kernel
theorem dJ7_copyOfRangeByte_39247_20 : decode cJ7_copyOfRangeByte_39247 20 = .ok (.arraylength, 1) := by decide +kernel
theorem dJ7_copyOfRangeByte_39247_21 : decode cJ7_copyOfRangeByte_39247 21 = .ok (.iload_n 1, 1) := by decide +kernel
theorem dJ7_copyOfRangeByte_39247_22 : decode cJ7_copyOfRangeByte_39247 22 = .ok (.isub, 1) := by decide +kernel
theorem dJ7_copyOfRangeByte_39247_23 : decode cJ7_copyOfRangeByte_39247 23 = .ok (.iload_n 3, 1) := by decide +kernel
theorem dJ7_copyOfRangeByte_39247_24 : decode cJ7_copyOfRangeByte_39247 24 = .ok (.invokestatic 304, 3) := by decide +kernel
theorem dJ7_copyOfRangeByte_39247_27 : decode cJ7_copyOfRangeByte_39247 27 = .ok (.invokestatic 150, 3) := by decide +kernel
theorem dJ7_copyOfRangeByte_39247_30 : decode cJ7_copyOfRangeByte_39247 30 = .ok (.aload 4, 2) := by decide +kernel
theorem dJ7_copyOfRangeByte_39247_32 : decode cJ7_copyOfRangeByte_39247 32 = .ok (.areturn, 1) := by decide +kernel
theorem dJ15_checkIndex_7cf53_0 : decode cJ15_checkIndex_7cf53 0 = .ok (.iload_n 0, 1) := by decide +kernel
theorem dJ15_checkIndex_7cf53_1 : decode cJ15_checkIndex_7cf53 1 = .ok (.iload_n 1, 1) := by decide +kernel
theorem dJ15_checkIndex_7cf53_2 : decode cJ15_checkIndex_7cf53 2 = .ok (.aconst_null, 1) := by decide +kernel
theorem dJ15_checkIndex_7cf53_3 : decode cJ15_checkIndex_7cf53 3 = .ok (.invokestatic 105, 3) := by decide +kernel
theorem dJ15_checkIndex_7cf53_6 : decode cJ15_checkIndex_7cf53 6 = .ok (.ireturn, 1) := by decide +kernel
theorem dJ8_newLength_cabcc_0 : decode cJ8_newLength_cabcc 0 = .ok (.iload_n 0, 1) := by decide +kernel
theorem dJ8_newLength_cabcc_1 : decode cJ8_newLength_cabcc 1 = .ok (.iload_n 1, 1) := by decide +kernel
theorem dJ8_newLength_cabcc_2 : decode cJ8_newLength_cabcc 2 = .ok (.iload_n 2, 1) := by decide +kernel
theorem dJ8_newLength_cabcc_3 : decode cJ8_newLength_cabcc 3 = .ok (.invokestatic 194, 3) := by decide +kernel
theorem dJ8_newLength_cabcc_6 : decode cJ8_newLength_cabcc 6 = .ok (.iadd, 1) := by decide +kernel
theorem dJ8_newLength_cabcc_7 : decode cJ8_newLength_cabcc 7 = .ok (.istore_n 3, 1) := by decide +kernel
theorem dJ8_newLength_cabcc_8 : decode cJ8_newLength_cabcc 8 = .ok (.iconst 0, 1) := by decide +kernel
theorem dJ8_newLength_cabcc_9 : decode cJ8_newLength_cabcc 9 = .ok (.iload_n 3, 1) := by decide +kernel
theorem dJ8_newLength_cabcc_10 : decode cJ8_newLength_cabcc 10 = .ok (.if_icmp .ge 11, 3) := by decide +kernel
theorem dJ8_newLength_cabcc_13 : decode cJ8_newLength_cabcc 13 = .ok (.iload_n 3, 1) := by decide +kernel
theorem dJ8_newLength_cabcc_14 : decode cJ8_newLength_cabcc 14 = .ok (.ldc 200, 2) := by decide +kernel
theorem dJ8_newLength_cabcc_16 : decode cJ8_newLength_cabcc 16 = .ok (.if_icmp .gt 5, 3) := by decide +kernel
theorem dJ8_newLength_cabcc_19 : decode cJ8_newLength_cabcc 19 = .ok (.iload_n 3, 1) := by decide +kernel
theorem dJ8_newLength_cabcc_20 : decode cJ8_newLength_cabcc 20 = .ok (.ireturn, 1) := by decide +kernel
theorem dJ8_newLength_cabcc_21 : decode cJ8_newLength_cabcc 21 = .ok (.iload_n 0, 1) := by decide +kernel
theorem dJ8_newLength_cabcc_22 : decode cJ8_newLength_cabcc 22 = .ok (.iload_n 1, 1) := by decide +kernel
theorem dJ8_newLength_cabcc_23 : decode cJ8_newLength_cabcc 23 = .ok (.invokestatic 201, 3) := by decide +kernel
theorem dJ8_newLength_cabcc_26 : decode cJ8_newLength_cabcc 26 = .ok (.ireturn, 1) := by decide +kernel
theorem dJ8_hugeLength_7cf53_0 : decode cJ8_hugeLength_7cf53 0 = .ok (.iload_n 0, 1) := by decide +kernel
theorem dJ8_hugeLength_7cf53_1 : decode cJ8_hugeLength_7cf53 1 = .ok (.iload_n 1, 1) := by decide +kernel
theorem dJ8_hugeLength_7cf53_2 : decode cJ8_hugeLength_7cf53 2 = .ok (.iadd, 1) := by decide +kernel
theorem dJ8_hugeLength_7cf53_3 : decode cJ8_hugeLength_7cf53 3 = .ok (.istore_n 2, 1) := by decide +kernel
theorem dJ8_hugeLength_7cf53_4 : decode cJ8_hugeLength_7cf53 4 = .ok (.iload_n 2, 1) := by decide +kernel
theorem dJ8_hugeLength_7cf53_5 : decode cJ8_hugeLength_7cf53 5 = .ok (.ifCond .ge 44, 3) := by decide +kernel
theorem dJ8_hugeLength_7cf53_8 : decode cJ8_hugeLength_7cf53 8 = .ok (.new 204, 3) := by decide +kernel
theorem dJ8_hugeLength_7cf53_11 : decode cJ8_hugeLength_7cf53 11 = .ok (.dup, 1) := by decide +kernel
theorem dJ8_hugeLength_7cf53_12 : decode cJ8_hugeLength_7cf53 12 = .ok (.new 89, 3) := by decide +kernel
theorem dJ8_hugeLength_7cf53_15 : decode cJ8_hugeLength_7cf53 15 = .ok (.dup, 1) := by decide +kernel
theorem dJ8_hugeLength_7cf53_16 : decode cJ8_hugeLength_7cf53 16 = .ok (.invokespecial 91, 3) := by decide +kernel
theorem dJ8_hugeLength_7cf53_19 : decode cJ8_hugeLength_7cf53 19 = .ok (.ldc 206, 2) := by decide +kernel
theorem dJ8_hugeLength_7cf53_21 : decode cJ8_hugeLength_7cf53 21 = .ok (.invokevirtual 94, 3) := by decide +kernel
theorem dJ8_hugeLength_7cf53_24 : decode cJ8_hugeLength_7cf53 24 = .ok (.iload_n 0, 1) := by decide +kernel
theorem dJ8_hugeLength_7cf53_25 : decode cJ8_hugeLength_7cf53 25 = .ok (.invokevirtual 98, 3) := by decide +kernel
theorem dJ8_hugeLength_7cf53_28 : decode cJ8_hugeLength_7cf53 28 = .ok (.ldc 208, 2) := by decide +kernel
theorem dJ8_hugeLength_7cf53_30 : decode cJ8_hugeLength_7cf53 30 = .ok (.invokevirtual 94, 3) := by decide +kernel
theorem dJ8_hugeLength_7cf53_33 : decode cJ8_hugeLength_7cf53 33 = .ok (.iload_n 1, 1) := by decide +kernel
theorem dJ8_hugeLength_7cf53_34 : decode cJ8_hugeLength_7cf53 34 = .ok (.invokevirtual 98, 3) := by decide +kernel
theorem dJ8_hugeLength_7cf53_37 : decode cJ8_hugeLength_7cf53 37 = .ok (.ldc 210, 2) := by decide +kernel
theorem dJ8_hugeLength_7cf53_39 : decode cJ8_hugeLength_7cf53 39 = .ok (.invokevirtual 94, 3) := by decide +kernel
theorem dJ8_hugeLength_7cf53_42 : decode cJ8_hugeLength_7cf53 42 = .ok (.invokevirtual 101, 3) := by decide +kernel
theorem dJ8_hugeLength_7cf53_45 : decode cJ8_hugeLength_7cf53 45 = .ok (.invokespecial 212, 3) := by decide +kernel
theorem dJ8_hugeLength_7cf53_48 : decode cJ8_hugeLength_7cf53 48 = .ok (.athrow, 1) := by decide +kernel
theorem dJ8_hugeLength_7cf53_49 : decode cJ8_hugeLength_7cf53 49 = .ok (.iload_n 2, 1) := by decide +kernel
theorem dJ8_hugeLength_7cf53_50 : decode cJ8_hugeLength_7cf53 50 = .ok (.ldc 200, 2) := by decide +kernel
theorem dJ8_hugeLength_7cf53_52 : decode cJ8_hugeLength_7cf53 52 = .ok (.if_icmp .gt 6, 3) := by decide +kernel
theorem dJ8_hugeLength_7cf53_55 : decode cJ8_hugeLength_7cf53 55 = .ok (.ldc 200, 2) := by decide +kernel
theorem dJ8_hugeLength_7cf53_57 : decode cJ8_hugeLength_7cf53 57 = .ok (.ireturn, 1) := by decide +kernel
theorem dJ8_hugeLength_7cf53_58 : decode cJ8_hugeLength_7cf53 58 = .ok (.iload_n 2, 1) := by decide +kernel
theorem dJ8_hugeLength_7cf53_59 : decode cJ8_hugeLength_7cf53 59 = .ok (.ireturn, 1) := by decide +kernel
theorem dJ3_checkIndex_8e157_0 : decode cJ3_checkIndex_8e157 0 = .ok (.iload_n 0, 1) := by decide +kernel
theorem dJ3_checkIndex_8e157_1 : decode cJ3_checkIndex_8e157 1 = .ok (.ifCond .lt 8, 3) := by decide +kernel
theorem dJ3_checkIndex_8e157_4 : decode cJ3_checkIndex_8e157 4 = .ok (.iload_n 0, 1) := by decide +kernel
theorem dJ3_checkIndex_8e157_5 : decode cJ3_checkIndex_8e157 5 = .ok (.iload_n 1, 1) := by decide +kernel
theorem dJ3_checkIndex_8e157_6 : decode cJ3_checkIndex_8e157 6 = .ok (.if_icmp .lt 10, 3) := by decide +kernel
theorem dJ3_checkIndex_8e157_9 : decode cJ3_checkIndex_8e157 9 = .ok (.aload_n 2, 1) := by decide +kernel
theorem dJ3_checkIndex_8e157_10 : decode cJ3_checkIndex_8e157 10 = .ok (.iload_n 0, 1) := by decide +kernel
theorem dJ3_checkIndex_8e157_11 : decode cJ3_checkIndex_8e157 11 = .ok (.iload_n 1, 1) := by decide +kernel
theorem dJ3_checkIndex_8e157_12 : decode cJ3_checkIndex_8e157 12 = .ok (.invokestatic 95, 3) := by decide +kernel
theorem dJ3_checkIndex_8e157_15 : decode cJ3_checkIndex_8e157 15 = .ok (.athrow, 1) := by decide +kernel
theorem dJ3_checkIndex_8e157_16 : decode cJ3_checkIndex_8e157 16 = .ok (.iload_n 0, 1) := by decide +kernel
theorem dJ3_checkIndex_8e157_17 : decode cJ3_checkIndex_8e157 17 = .ok (.ireturn, 1) := by decide +kernel
theorem dJ3_checkFromToIndex_8c36e_0 : decode cJ3_checkFromToIndex_8c36e 0 = .ok (.iload_n 0, 1) := by decide +kernel
theorem dJ3_checkFromToIndex_8c36e_1 : decode cJ3_checkFromToIndex_8c36e 1 = .ok (.ifCond .lt 13, 3) := by decide +kernel
theorem dJ3_checkFromToIndex_8c36e_4 : decode cJ3_checkFromToIndex_8c36e 4 = .ok (.iload_n 0, 1) := by decide +kernel
theorem dJ3_checkFromToIndex_8c36e_5 : decode cJ3_checkFromToIndex_8c36e 5 = .ok (.iload_n 1, 1) := by decide +kernel
theorem dJ3_checkFromToIndex_8c36e_6 : decode cJ3_checkFromToIndex_8c36e 6 = .ok (.if_icmp .gt 8, 3) := by decide +kernel
theorem dJ3_checkFromToIndex_8c36e_9 : decode cJ3_checkFromToIndex_8c36e 9 = .ok (.iload_n 1, 1) := by decide +kernel
theorem dJ3_checkFromToIndex_8c36e_10 : decode cJ3_checkFromToIndex_8c36e 10 = .ok (.iload_n 2, 1) := by decide +kernel
theorem dJ3_checkFromToIndex_8c36e_11 : decode cJ3_checkFromToIndex_8c36e 11 = .ok (.if_icmp .le 11, 3) := by decide +kernel
theorem dJ3_checkFromToIndex_8c36e_14 : decode cJ3_checkFromToIndex_8c36e 14 = .ok (.aload_n 3, 1) := by decide +kernel
theorem dJ3_checkFromToIndex_8c36e_15 : decode cJ3_checkFromToIndex_8c36e 15 = .ok (.iload_n 0, 1) := by decide +kernel
theorem dJ3_checkFromToIndex_8c36e_16 : decode cJ3_checkFromToIndex_8c36e 16 = .ok (.iload_n 1, 1) := by decide +kernel
theorem dJ3_checkFromToIndex_8c36e_17 : decode cJ3_checkFromToIndex_8c36e 17 = .ok (.iload_n 2, 1) := by decide +kernel
theorem dJ3_checkFromToIndex_8c36e_18 : decode cJ3_checkFromToIndex_8c36e 18 = .ok (.invokestatic 99, 3) := by decide +kernel
theorem dJ3_checkFromToIndex_8c36e_21 : decode cJ3_checkFromToIndex_8c36e 21 = .ok (.athrow, 1) := by decide +kernel
theorem dJ3_checkFromToIndex_8c36e_22 : decode cJ3_checkFromToIndex_8c36e 22 = .ok (.iload_n 0, 1) := by decide +kernel
theorem dJ3_checkFromToIndex_8c36e_23 : decode cJ3_checkFromToIndex_8c36e 23 = .ok (.ireturn, 1) := by decide +kernel
theorem dJ3_checkFromIndexSize_8c36e_0 : decode cJ3_checkFromIndexSize_8c36e 0 = .ok (.iload_n 2, 1) := by decide +kernel
theorem dJ3_checkFromIndexSize_8c36e_1 : decode cJ3_checkFromIndexSize_8c36e 1 = .ok (.iload_n 0, 1) := by decide +kernel
theorem dJ3_checkFromIndexSize_8c36e_2 : decode cJ3_checkFromIndexSize_8c36e 2 = .ok (.ior, 1) := by decide +kernel
theorem dJ3_checkFromIndexSize_8c36e_3 : decode cJ3_checkFromIndexSize_8c36e 3 = .ok (.iload_n 1, 1) := by decide +kernel
theorem dJ3_checkFromIndexSize_8c36e_4 : decode cJ3_checkFromIndexSize_8c36e 4 = .ok (.ior, 1) := by decide +kernel
theorem dJ3_checkFromIndexSize_8c36e_5 : decode cJ3_checkFromIndexSize_8c36e 5 = .ok (.ifCond .lt 10, 3) := by decide +kernel
theorem dJ3_checkFromIndexSize_8c36e_8 : decode cJ3_checkFromIndexSize_8c36e 8 = .ok (.iload_n 1, 1) := by decide +kernel
theorem dJ3_checkFromIndexSize_8c36e_9 : decode cJ3_checkFromIndexSize_8c36e 9 = .ok (.iload_n 2, 1) := by decide +kernel
theorem dJ3_checkFromIndexSize_8c36e_10 : decode cJ3_checkFromIndexSize_8c36e 10 = .ok (.iload_n 0, 1) := by decide +kernel
theorem dJ3_checkFromIndexSize_8c36e_11 : decode cJ3_checkFromIndexSize_8c36e 11 = .ok (.isub, 1) := by decide +kernel
theorem dJ3_checkFromIndexSize_8c36e_12 : decode cJ3_checkFromIndexSize_8c36e 12 = .ok (.if_icmp .le 11, 3) := by decide +kernel
theorem dJ3_checkFromIndexSize_8c36e_15 : decode cJ3_checkFromIndexSize_8c36e 15 = .ok (.aload_n 3, 1) := by decide +kernel
theorem dJ3_checkFromIndexSize_8c36e_16 : decode cJ3_checkFromIndexSize_8c36e 16 = .ok (.iload_n 0, 1) := by decide +kernel
theorem dJ3_checkFromIndexSize_8c36e_17 : decode cJ3_checkFromIndexSize_8c36e 17 = .ok (.iload_n 1, 1) := by decide +kernel
theorem dJ3_checkFromIndexSize_8c36e_18 : decode cJ3_checkFromIndexSize_8c36e 18 = .ok (.iload_n 2, 1) := by decide +kernel
theorem dJ3_checkFromIndexSize_8c36e_19 : decode cJ3_checkFromIndexSize_8c36e 19 = .ok (.invokestatic 103, 3) := by decide +kernel
theorem dJ3_checkFromIndexSize_8c36e_22 : decode cJ3_checkFromIndexSize_8c36e 22 = .ok (.athrow, 1) := by decide +kernel
theorem dJ3_checkFromIndexSize_8c36e_23 : decode cJ3_checkFromIndexSize_8c36e 23 = .ok (.iload_n 0, 1) := by decide +kernel
theorem dJ3_checkFromIndexSize_8c36e_24 : decode cJ3_checkFromIndexSize_8c36e 24 = .ok (.ireturn, 1) := by decide +kernel
