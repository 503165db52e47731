theorem dX4_init_0 : decode cX4_init 0 = .ok (.aload_n 0, 1) := by decide +kernel
theorem dX4_init_1 : decode cX4_init 1 = .ok (.invokespecial 3, 3) := by decide +kernel
theorem dX4_init_4 : decode cX4_init 4 = .ok (.aload_n 0, 1) := by decide +kernel
theorem dX4_init_5 : decode cX4_init 5 = .ok (.sipush 156, 3) := by decide +kernel
theorem dX4_init_8 : decode cX4_init 8 = .ok (.newarray .int, 2) := by decide +kernel
theorem dX4_init_10 : decode cX4_init 10 = .ok (.putfield 9, 3) := by decide +kernel
theorem dX4_init_13 : decode cX4_init 13 = .ok (.aload_n 0, 1) := by decide +kernel
theorem dX4_init_14 : decode cX4_init 14 = .ok (.bipush 64, 2) := by decide +kernel
theorem dX4_init_16 : decode cX4_init 16 = .ok (.newarray .int, 2) := by decide +kernel
theorem dX4_init_18 : decode cX4_init 18 = .ok (.putfield 13, 3) := by decide +kernel
theorem dX4_init_21 : decode cX4_init 21 = .ok (.aload_n 0, 1) := by decide +kernel
theorem dX4_init_22 : decode cX4_init 22 = .ok (.bipush 12, 2) := by decide +kernel
theorem dX4_init_24 : decode cX4_init 24 = .ok (.newarray .int, 2) := by decide +kernel
theorem dX4_init_26 : decode cX4_init 26 = .ok (.putfield 16, 3) := by decide +kernel
theorem dX4_init_29 : decode cX4_init 29 = .ok (.aload_n 0, 1) := by decide +kernel
theorem dX4_init_30 : decode cX4_init 30 = .ok (.bipush 12, 2) := by decide +kernel
theorem dX4_init_32 : decode cX4_init 32 = .ok (.newarray .int, 2) := by decide +kernel
theorem dX4_init_34 : decode cX4_init 34 = .ok (.putfield 19, 3) := by decide +kernel
theorem dX4_init_37 : decode cX4_init 37 = .ok (.aload_n 0, 1) := by decide +kernel
theorem dX4_init_38 : decode cX4_init 38 = .ok (.sipush 144, 3) := by decide +kernel
theorem dX4_init_41 : decode cX4_init 41 = .ok (.newarray .int, 2) := by decide +kernel
theorem dX4_init_43 : decode cX4_init 43 = .ok (.putfield 22, 3) := by decide +kernel
theorem dX4_init_46 : decode cX4_init 46 = .ok (.return_, 1) := by decide +kernel
theorem dX4_thrown_0 : decode cX4_thrown 0 = .ok (.aload_n 0, 1) := by decide +kernel
theorem dX4_thrown_1 : decode cX4_thrown 1 = .ok (.getfield 25, 3) := by decide +kernel
theorem dX4_thrown_4 : decode cX4_thrown 4 = .ok (.ireturn, 1) := by decide +kernel
theorem dX4_fail_0 : decode cX4_fail 0 = .ok (.aload_n 0, 1) := by decide +kernel
theorem dX4_fail_1 : decode cX4_fail 1 = .ok (.iload_n 1, 1) := by decide +kernel
theorem dX4_fail_2 : decode cX4_fail 2 = .ok (.putfield 25, 3) := by decide +kernel
theorem dX4_fail_5 : decode cX4_fail 5 = .ok (.iconst 0, 1) := by decide +kernel
theorem dX4_fail_6 : decode cX4_fail 6 = .ok (.ireturn, 1) := by decide +kernel
theorem dX4_isIn_0 : decode cX4_isIn 0 = .ok (.iload_n 0, 1) := by decide +kernel
theorem dX4_isIn_1 : decode cX4_isIn 1 = .ok (.iload_n 1, 1) := by decide +kernel
theorem dX4_isIn_2 : decode cX4_isIn 2 = .ok (.if_icmp .lt 12, 3) := by decide +kernel
theorem dX4_isIn_5 : decode cX4_isIn 5 = .ok (.iload_n 0, 1) := by decide +kernel
theorem dX4_isIn_6 : decode cX4_isIn 6 = .ok (.iload_n 2, 1) := by decide +kernel
theorem dX4_isIn_7 : decode cX4_isIn 7 = .ok (.if_icmp .gt 7, 3) := by decide +kernel
theorem dX4_isIn_10 : decode cX4_isIn 10 = .ok (.iconst 1, 1) := by decide +kernel
theorem dX4_isIn_11 : decode cX4_isIn 11 = .ok (.goto 4, 3) := by decide +kernel
theorem dX4_isIn_14 : decode cX4_isIn 14 = .ok (.iconst 0, 1) := by decide +kernel
theorem dX4_isIn_15 : decode cX4_isIn 15 = .ok (.ireturn, 1) := by decide +kernel
theorem dX4_isTime_0 : decode cX4_isTime 0 = .ok (.iload_n 0, 1) := by decide +kernel
theorem dX4_isTime_1 : decode cX4_isTime 1 = .ok (.iconst 0, 1) := by decide +kernel
theorem dX4_isTime_2 : decode cX4_isTime 2 = .ok (.ldc 29, 2) := by decide +kernel
theorem dX4_isTime_4 : decode cX4_isTime 4 = .ok (.invokestatic 30, 3) := by decide +kernel
theorem dX4_isTime_7 : decode cX4_isTime 7 = .ok (.ireturn, 1) := by decide +kernel
theorem dX4_isStation_0 : decode cX4_isStation 0 = .ok (.iload_n 1, 1) := by decide +kernel
theorem dX4_isStation_1 : decode cX4_isStation 1 = .ok (.iconst 0, 1) := by decide +kernel
theorem dX4_isStation_2 : decode cX4_isStation 2 = .ok (.aload_n 0, 1) := by decide +kernel
theorem dX4_isStation_3 : decode cX4_isStation 3 = .ok (.getfield 34, 3) := by decide +kernel
theorem dX4_isStation_6 : decode cX4_isStation 6 = .ok (.iconst 1, 1) := by decide +kernel
theorem dX4_isStation_7 : decode cX4_isStation 7 = .ok (.isub, 1) := by decide +kernel
theorem dX4_isStation_8 : decode cX4_isStation 8 = .ok (.invokestatic 30, 3) := by decide +kernel
theorem dX4_isStation_11 : decode cX4_isStation 11 = .ok (.ireturn, 1) := by decide +kernel
theorem dX4_isHalo_0 : decode cX4_isHalo 0 = .ok (.iload_n 1, 1) := by decide +kernel
theorem dX4_isHalo_1 : decode cX4_isHalo 1 = .ok (.iconst 0, 1) := by decide +kernel
theorem dX4_isHalo_2 : decode cX4_isHalo 2 = .ok (.aload_n 0, 1) := by decide +kernel
theorem dX4_isHalo_3 : decode cX4_isHalo 3 = .ok (.getfield 37, 3) := by decide +kernel
theorem dX4_isHalo_6 : decode cX4_isHalo 6 = .ok (.iconst 1, 1) := by decide +kernel
theorem dX4_isHalo_7 : decode cX4_isHalo 7 = .ok (.isub, 1) := by decide +kernel
theorem dX4_isHalo_8 : decode cX4_isHalo 8 = .ok (.invokestatic 30, 3) := by decide +kernel
theorem dX4_isHalo_11 : decode cX4_isHalo 11 = .ok (.ireturn, 1) := by decide +kernel
theorem dX4_get_0 : decode cX4_get 0 = .ok (.aload_n 0, 1) := by decide +kernel
theorem dX4_get_1 : decode cX4_get 1 = .ok (.getfield 9, 3) := by decide +kernel
theorem dX4_get_4 : decode cX4_get 4 = .ok (.bipush 13, 2) := by decide +kernel
theorem dX4_get_6 : decode cX4_get 6 = .ok (.iload_n 1, 1) := by decide +kernel
theorem dX4_get_7 : decode cX4_get 7 = .ok (.imul, 1) := by decide +kernel
theorem dX4_get_8 : decode cX4_get 8 = .ok (.iload_n 2, 1) := by decide +kernel
theorem dX4_get_9 : decode cX4_get 9 = .ok (.iadd, 1) := by decide +kernel
theorem dX4_get_10 : decode cX4_get 10 = .ok (.iaload, 1) := by decide +kernel
theorem dX4_get_11 : decode cX4_get 11 = .ok (.ireturn, 1) := by decide +kernel
theorem dX4_set_0 : decode cX4_set 0 = .ok (.aload_n 0, 1) := by decide +kernel
theorem dX4_set_1 : decode cX4_set 1 = .ok (.getfield 9, 3) := by decide +kernel
theorem dX4_set_4 : decode cX4_set 4 = .ok (.bipush 13, 2) := by decide +kernel
theorem dX4_set_6 : decode cX4_set 6 = .ok (.iload_n 1, 1) := by decide +kernel
theorem dX4_set_7 : decode cX4_set 7 = .ok (.imul, 1) := by decide +kernel
theorem dX4_set_8 : decode cX4_set 8 = .ok (.iload_n 2, 1) := by decide +kernel
theorem dX4_set_9 : decode cX4_set 9 = .ok (.iadd, 1) := by decide +kernel
theorem dX4_set_10 : decode cX4_set 10 = .ok (.iload_n 3, 1) := by decide +kernel
theorem dX4_set_11 : decode cX4_set 11 = .ok (.iastore, 1) := by decide +kernel
theorem dX4_set_12 : decode cX4_set 12 = .ok (.return_, 1) := by decide +kernel
theorem dX4_ha_0 : decode cX4_ha 0 = .ok (.aload_n 0, 1) := by decide +kernel
theorem dX4_ha_1 : decode cX4_ha 1 = .ok (.getfield 13, 3) := by decide +kernel
theorem dX4_ha_4 : decode cX4_ha 4 = .ok (.iconst 4, 1) := by decide +kernel
theorem dX4_ha_5 : decode cX4_ha 5 = .ok (.iload_n 1, 1) := by decide +kernel
theorem dX4_ha_6 : decode cX4_ha 6 = .ok (.imul, 1) := by decide +kernel
theorem dX4_ha_7 : decode cX4_ha 7 = .ok (.iload_n 2, 1) := by decide +kernel
theorem dX4_ha_8 : decode cX4_ha 8 = .ok (.iadd, 1) := by decide +kernel
theorem dX4_ha_9 : decode cX4_ha 9 = .ok (.iaload, 1) := by decide +kernel
theorem dX4_ha_10 : decode cX4_ha 10 = .ok (.ireturn, 1) := by decide +kernel
theorem dX4_build_0 : decode cX4_build 0 = .ok (.aload_n 0, 1) := by decide +kernel
theorem dX4_build_1 : decode cX4_build 1 = .ok (.iconst 0, 1) := by decide +kernel
theorem dX4_build_2 : decode cX4_build 2 = .ok (.putfield 25, 3) := by decide +kernel
theorem dX4_build_5 : decode cX4_build 5 = .ok (.iload_n 1, 1) := by decide +kernel
theorem dX4_build_6 : decode cX4_build 6 = .ok (.iconst 0, 1) := by decide +kernel
theorem dX4_build_7 : decode cX4_build 7 = .ok (.sipush 999, 3) := by decide +kernel
theorem dX4_build_10 : decode cX4_build 10 = .ok (.invokestatic 30, 3) := by decide +kernel
theorem dX4_build_13 : decode cX4_build 13 = .ok (.ifCond .eq 27, 3) := by decide +kernel
theorem dX4_build_16 : decode cX4_build 16 = .ok (.iload_n 2, 1) := by decide +kernel
theorem dX4_build_17 : decode cX4_build 17 = .ok (.sipush (-600), 3) := by decide +kernel
theorem dX4_build_20 : decode cX4_build 20 = .ok (.sipush 600, 3) := by decide +kernel
theorem dX4_build_23 : decode cX4_build 23 = .ok (.invokestatic 30, 3) := by decide +kernel
theorem dX4_build_26 : decode cX4_build 26 = .ok (.ifCond .eq 14, 3) := by decide +kernel
theorem dX4_build_29 : decode cX4_build 29 = .ok (.iload_n 3, 1) := by decide +kernel
theorem dX4_build_30 : decode cX4_build 30 = .ok (.bipush (-99), 2) := by decide +kernel
theorem dX4_build_32 : decode cX4_build 32 = .ok (.bipush 99, 2) := by decide +kernel
theorem dX4_build_34 : decode cX4_build 34 = .ok (.invokestatic 30, 3) := by decide +kernel
theorem dX4_build_37 : decode cX4_build 37 = .ok (.ifCond .ne 9, 3) := by decide +kernel
theorem dX4_build_40 : decode cX4_build 40 = .ok (.aload_n 0, 1) := by decide +kernel
theorem dX4_build_41 : decode cX4_build 41 = .ok (.iconst 1, 1) := by decide +kernel
theorem dX4_build_42 : decode cX4_build 42 = .ok (.invokevirtual 40, 3) := by decide +kernel
theorem dX4_build_45 : decode cX4_build 45 = .ok (.ireturn, 1) := by decide +kernel
theorem dX4_build_46 : decode cX4_build 46 = .ok (.aload_n 0, 1) := by decide +kernel
theorem dX4_build_47 : decode cX4_build 47 = .ok (.getfield 34, 3) := by decide +kernel
theorem dX4_build_50 : decode cX4_build 50 = .ok (.bipush 12, 2) := by decide +kernel
theorem dX4_build_52 : decode cX4_build 52 = .ok (.if_icmp .ge 7, 3) := by decide +kernel
theorem dX4_build_55 : decode cX4_build 55 = .ok (.iconst 1, 1) := by decide +kernel
theorem dX4_build_56 : decode cX4_build 56 = .ok (.goto 4, 3) := by decide +kernel
theorem dX4_build_59 : decode cX4_build 59 = .ok (.iconst 0, 1) := by decide +kernel
theorem dX4_build_60 : decode cX4_build 60 = .ok (.istore 4, 2) := by decide +kernel
theorem dX4_build_62 : decode cX4_build 62 = .ok (.iconst 0, 1) := by decide +kernel
theorem dX4_build_63 : decode cX4_build 63 = .ok (.istore 5, 2) := by decide +kernel
theorem dX4_build_65 : decode cX4_build 65 = .ok (.iload 5, 2) := by decide +kernel
theorem dX4_build_67 : decode cX4_build 67 = .ok (.aload_n 0, 1) := by decide +kernel
theorem dX4_build_68 : decode cX4_build 68 = .ok (.getfield 34, 3) := by decide +kernel
theorem dX4_build_71 : decode cX4_build 71 = .ok (.if_icmp .ge 32, 3) := by decide +kernel
theorem dX4_build_74 : decode cX4_build 74 = .ok (.iload 4, 2) := by decide +kernel
theorem dX4_build_76 : decode cX4_build 76 = .ok (.ifCond .eq 18, 3) := by decide +kernel
theorem dX4_build_79 : decode cX4_build 79 = .ok (.aload_n 0, 1) := by decide +kernel
theorem dX4_build_80 : decode cX4_build 80 = .ok (.iload 5, 2) := by decide +kernel
theorem dX4_build_82 : decode cX4_build 82 = .ok (.iconst 0, 1) := by decide +kernel
theorem dX4_build_83 : decode cX4_build 83 = .ok (.invokevirtual 44, 3) := by decide +kernel
theorem dX4_build_86 : decode cX4_build 86 = .ok (.iload_n 1, 1) := by decide +kernel
theorem dX4_build_87 : decode cX4_build 87 = .ok (.if_icmp .eq 7, 3) := by decide +kernel
theorem dX4_build_90 : decode cX4_build 90 = .ok (.iconst 1, 1) := by decide +kernel
theorem dX4_build_91 : decode cX4_build 91 = .ok (.goto 4, 3) := by decide +kernel
theorem dX4_build_94 : decode cX4_build 94 = .ok (.iconst 0, 1) := by decide +kernel
theorem dX4_build_95 : decode cX4_build 95 = .ok (.istore 4, 2) := by decide +kernel
theorem dX4_build_97 : decode cX4_build 97 = .ok (.iinc 5 1, 3) := by decide +kernel
theorem dX4_build_100 : decode cX4_build 100 = .ok (.goto (-35), 3) := by decide +kernel
theorem dX4_build_103 : decode cX4_build 103 = .ok (.iload 4, 2) := by decide +kernel
theorem dX4_build_105 : decode cX4_build 105 = .ok (.ifCond .ne 9, 3) := by decide +kernel
theorem dX4_build_108 : decode cX4_build 108 = .ok (.aload_n 0, 1) := by decide +kernel
theorem dX4_build_109 : decode cX4_build 109 = .ok (.iconst 2, 1) := by decide +kernel
theorem dX4_build_110 : decode cX4_build 110 = .ok (.invokevirtual 40, 3) := by decide +kernel
theorem dX4_build_113 : decode cX4_build 113 = .ok (.ireturn, 1) := by decide +kernel
theorem dX4_build_114 : decode cX4_build 114 = .ok (.aload_n 0, 1) := by decide +kernel
theorem dX4_build_115 : decode cX4_build 115 = .ok (.aload_n 0, 1) := by decide +kernel
theorem dX4_build_116 : decode cX4_build 116 = .ok (.getfield 34, 3) := by decide +kernel
theorem dX4_build_119 : decode cX4_build 119 = .ok (.iconst 0, 1) := by decide +kernel
theorem dX4_build_120 : decode cX4_build 120 = .ok (.iload_n 1, 1) := by decide +kernel
theorem dX4_build_121 : decode cX4_build 121 = .ok (.invokevirtual 48, 3) := by decide +kernel
theorem dX4_build_124 : decode cX4_build 124 = .ok (.aload_n 0, 1) := by decide +kernel
theorem dX4_build_125 : decode cX4_build 125 = .ok (.aload_n 0, 1) := by decide +kernel
theorem dX4_build_126 : decode cX4_build 126 = .ok (.getfield 34, 3) := by decide +kernel
theorem dX4_build_129 : decode cX4_build 129 = .ok (.iconst 1, 1) := by decide +kernel
theorem dX4_build_130 : decode cX4_build 130 = .ok (.iload_n 2, 1) := by decide +kernel
theorem dX4_build_131 : decode cX4_build 131 = .ok (.invokevirtual 48, 3) := by decide +kernel
theorem dX4_build_134 : decode cX4_build 134 = .ok (.aload_n 0, 1) := by decide +kernel
theorem dX4_build_135 : decode cX4_build 135 = .ok (.aload_n 0, 1) := by decide +kernel
theorem dX4_build_136 : decode cX4_build 136 = .ok (.getfield 34, 3) := by decide +kernel
theorem dX4_build_139 : decode cX4_build 139 = .ok (.iconst 2, 1) := by decide +kernel
theorem dX4_build_140 : decode cX4_build 140 = .ok (.iload_n 3, 1) := by decide +kernel
theorem dX4_build_141 : decode cX4_build 141 = .ok (.invokevirtual 48, 3) := by decide +kernel
theorem dX4_build_144 : decode cX4_build 144 = .ok (.aload_n 0, 1) := by decide +kernel
theorem dX4_build_145 : decode cX4_build 145 = .ok (.dup, 1) := by decide +kernel
theorem dX4_build_146 : decode cX4_build 146 = .ok (.getfield 34, 3) := by decide +kernel
theorem dX4_build_149 : decode cX4_build 149 = .ok (.iconst 1, 1) := by decide +kernel
theorem dX4_build_150 : decode cX4_build 150 = .ok (.iadd, 1) := by decide +kernel
theorem dX4_build_151 : decode cX4_build 151 = .ok (.putfield 34, 3) := by decide +kernel
theorem dX4_build_154 : decode cX4_build 154 = .ok (.aload_n 0, 1) := by decide +kernel
theorem dX4_build_155 : decode cX4_build 155 = .ok (.getfield 34, 3) := by decide +kernel
theorem dX4_build_158 : decode cX4_build 158 = .ok (.iconst 1, 1) := by decide +kernel
theorem dX4_build_159 : decode cX4_build 159 = .ok (.isub, 1) := by decide +kernel
theorem dX4_build_160 : decode cX4_build 160 = .ok (.ireturn, 1) := by decide +kernel
theorem dX4_cloud_0 : decode cX4_cloud 0 = .ok (.aload_n 0, 1) := by decide +kernel
theorem dX4_cloud_1 : decode cX4_cloud 1 = .ok (.iconst 0, 1) := by decide +kernel
theorem dX4_cloud_2 : decode cX4_cloud 2 = .ok (.putfield 25, 3) := by decide +kernel
theorem dX4_cloud_5 : decode cX4_cloud 5 = .ok (.aload_n 0, 1) := by decide +kernel
theorem dX4_cloud_6 : decode cX4_cloud 6 = .ok (.iload_n 1, 1) := by decide +kernel
theorem dX4_cloud_7 : decode cX4_cloud 7 = .ok (.invokevirtual 52, 3) := by decide +kernel
theorem dX4_cloud_10 : decode cX4_cloud 10 = .ok (.ifCond .ne 9, 3) := by decide +kernel
theorem dX4_cloud_13 : decode cX4_cloud 13 = .ok (.aload_n 0, 1) := by decide +kernel
theorem dX4_cloud_14 : decode cX4_cloud 14 = .ok (.iconst 1, 1) := by decide +kernel
theorem dX4_cloud_15 : decode cX4_cloud 15 = .ok (.invokevirtual 40, 3) := by decide +kernel
theorem dX4_cloud_18 : decode cX4_cloud 18 = .ok (.ireturn, 1) := by decide +kernel
theorem dX4_cloud_19 : decode cX4_cloud 19 = .ok (.iload_n 2, 1) := by decide +kernel
theorem dX4_cloud_20 : decode cX4_cloud 20 = .ok (.ifCond .lt 8, 3) := by decide +kernel
theorem dX4_cloud_23 : decode cX4_cloud 23 = .ok (.iload_n 3, 1) := by decide +kernel
theorem dX4_cloud_24 : decode cX4_cloud 24 = .ok (.iload_n 2, 1) := by decide +kernel
theorem dX4_cloud_25 : decode cX4_cloud 25 = .ok (.if_icmp .gt 9, 3) := by decide +kernel
theorem dX4_cloud_28 : decode cX4_cloud 28 = .ok (.aload_n 0, 1) := by decide +kernel
theorem dX4_cloud_29 : decode cX4_cloud 29 = .ok (.iconst 2, 1) := by decide +kernel
theorem dX4_cloud_30 : decode cX4_cloud 30 = .ok (.invokevirtual 40, 3) := by decide +kernel
theorem dX4_cloud_33 : decode cX4_cloud 33 = .ok (.ireturn, 1) := by decide +kernel
theorem dX4_cloud_34 : decode cX4_cloud 34 = .ok (.aload_n 0, 1) := by decide +kernel
theorem dX4_cloud_35 : decode cX4_cloud 35 = .ok (.iload_n 1, 1) := by decide +kernel
theorem dX4_cloud_36 : decode cX4_cloud 36 = .ok (.iconst 4, 1) := by decide +kernel
theorem dX4_cloud_37 : decode cX4_cloud 37 = .ok (.invokevirtual 44, 3) := by decide +kernel
theorem dX4_cloud_40 : decode cX4_cloud 40 = .ok (.istore 4, 2) := by decide +kernel
theorem dX4_cloud_42 : decode cX4_cloud 42 = .ok (.iload 4, 2) := by decide +kernel
theorem dX4_cloud_44 : decode cX4_cloud 44 = .ok (.iconst 4, 1) := by decide +kernel
theorem dX4_cloud_45 : decode cX4_cloud 45 = .ok (.if_icmp .ne 9, 3) := by decide +kernel
theorem dX4_cloud_48 : decode cX4_cloud 48 = .ok (.aload_n 0, 1) := by decide +kernel
theorem dX4_cloud_49 : decode cX4_cloud 49 = .ok (.iconst 3, 1) := by decide +kernel
theorem dX4_cloud_50 : decode cX4_cloud 50 = .ok (.invokevirtual 40, 3) := by decide +kernel
theorem dX4_cloud_53 : decode cX4_cloud 53 = .ok (.ireturn, 1) := by decide +kernel
theorem dX4_cloud_54 : decode cX4_cloud 54 = .ok (.aload_n 0, 1) := by decide +kernel
theorem dX4_cloud_55 : decode cX4_cloud 55 = .ok (.iload_n 1, 1) := by decide +kernel
theorem dX4_cloud_56 : decode cX4_cloud 56 = .ok (.iconst 5, 1) := by decide +kernel
theorem dX4_cloud_57 : decode cX4_cloud 57 = .ok (.iconst 2, 1) := by decide +kernel
theorem dX4_cloud_58 : decode cX4_cloud 58 = .ok (.iload 4, 2) := by decide +kernel
theorem dX4_cloud_60 : decode cX4_cloud 60 = .ok (.imul, 1) := by decide +kernel
theorem dX4_cloud_61 : decode cX4_cloud 61 = .ok (.iadd, 1) := by decide +kernel
theorem dX4_cloud_62 : decode cX4_cloud 62 = .ok (.iload_n 2, 1) := by decide +kernel
theorem dX4_cloud_63 : decode cX4_cloud 63 = .ok (.invokevirtual 48, 3) := by decide +kernel
theorem dX4_cloud_66 : decode cX4_cloud 66 = .ok (.aload_n 0, 1) := by decide +kernel
theorem dX4_cloud_67 : decode cX4_cloud 67 = .ok (.iload_n 1, 1) := by decide +kernel
theorem dX4_cloud_68 : decode cX4_cloud 68 = .ok (.iconst 5, 1) := by decide +kernel
theorem dX4_cloud_69 : decode cX4_cloud 69 = .ok (.iconst 2, 1) := by decide +kernel
theorem dX4_cloud_70 : decode cX4_cloud 70 = .ok (.iload 4, 2) := by decide +kernel
theorem dX4_cloud_72 : decode cX4_cloud 72 = .ok (.imul, 1) := by decide +kernel
theorem dX4_cloud_73 : decode cX4_cloud 73 = .ok (.iadd, 1) := by decide +kernel
theorem dX4_cloud_74 : decode cX4_cloud 74 = .ok (.iconst 1, 1) := by decide +kernel
theorem dX4_cloud_75 : decode cX4_cloud 75 = .ok (.iadd, 1) := by decide +kernel
theorem dX4_cloud_76 : decode cX4_cloud 76 = .ok (.iload_n 3, 1) := by decide +kernel
theorem dX4_cloud_77 : decode cX4_cloud 77 = .ok (.invokevirtual 48, 3) := by decide +kernel
theorem dX4_cloud_80 : decode cX4_cloud 80 = .ok (.aload_n 0, 1) := by decide +kernel
theorem dX4_cloud_81 : decode cX4_cloud 81 = .ok (.iload_n 1, 1) := by decide +kernel
theorem dX4_cloud_82 : decode cX4_cloud 82 = .ok (.iconst 4, 1) := by decide +kernel
theorem dX4_cloud_83 : decode cX4_cloud 83 = .ok (.iload 4, 2) := by decide +kernel
theorem dX4_cloud_85 : decode cX4_cloud 85 = .ok (.iconst 1, 1) := by decide +kernel
theorem dX4_cloud_86 : decode cX4_cloud 86 = .ok (.iadd, 1) := by decide +kernel
theorem dX4_cloud_87 : decode cX4_cloud 87 = .ok (.invokevirtual 48, 3) := by decide +kernel
theorem dX4_cloud_90 : decode cX4_cloud 90 = .ok (.iload 4, 2) := by decide +kernel
theorem dX4_cloud_92 : decode cX4_cloud 92 = .ok (.iconst 1, 1) := by decide +kernel
theorem dX4_cloud_93 : decode cX4_cloud 93 = .ok (.iadd, 1) := by decide +kernel
theorem dX4_cloud_94 : decode cX4_cloud 94 = .ok (.ireturn, 1) := by decide +kernel
theorem dX4_clear_0 : decode cX4_clear 0 = .ok (.aload_n 0, 1) := by decide +kernel
theorem dX4_clear_1 : decode cX4_clear 1 = .ok (.iconst 0, 1) := by decide +kernel
theorem dX4_clear_2 : decode cX4_clear 2 = .ok (.putfield 25, 3) := by decide +kernel
theorem dX4_clear_5 : decode cX4_clear 5 = .ok (.aload_n 0, 1) := by decide +kernel
theorem dX4_clear_6 : decode cX4_clear 6 = .ok (.iload_n 1, 1) := by decide +kernel
theorem dX4_clear_7 : decode cX4_clear 7 = .ok (.invokevirtual 52, 3) := by decide +kernel
theorem dX4_clear_10 : decode cX4_clear 10 = .ok (.ifCond .ne 9, 3) := by decide +kernel
theorem dX4_clear_13 : decode cX4_clear 13 = .ok (.aload_n 0, 1) := by decide +kernel
theorem dX4_clear_14 : decode cX4_clear 14 = .ok (.iconst 1, 1) := by decide +kernel
theorem dX4_clear_15 : decode cX4_clear 15 = .ok (.invokevirtual 40, 3) := by decide +kernel
theorem dX4_clear_18 : decode cX4_clear 18 = .ok (.ireturn, 1) := by decide +kernel
theorem dX4_clear_19 : decode cX4_clear 19 = .ok (.aload_n 0, 1) := by decide +kernel
theorem dX4_clear_20 : decode cX4_clear 20 = .ok (.iload_n 1, 1) := by decide +kernel
theorem dX4_clear_21 : decode cX4_clear 21 = .ok (.iconst 4, 1) := by decide +kernel
theorem dX4_clear_22 : decode cX4_clear 22 = .ok (.invokevirtual 44, 3) := by decide +kernel
theorem dX4_clear_25 : decode cX4_clear 25 = .ok (.istore_n 2, 1) := by decide +kernel
theorem dX4_clear_26 : decode cX4_clear 26 = .ok (.aload_n 0, 1) := by decide +kernel
theorem dX4_clear_27 : decode cX4_clear 27 = .ok (.iload_n 1, 1) := by decide +kernel
theorem dX4_clear_28 : decode cX4_clear 28 = .ok (.iconst 4, 1) := by decide +kernel
theorem dX4_clear_29 : decode cX4_clear 29 = .ok (.iconst 0, 1) := by decide +kernel
theorem dX4_clear_30 : decode cX4_clear 30 = .ok (.invokevirtual 48, 3) := by decide +kernel
theorem dX4_clear_33 : decode cX4_clear 33 = .ok (.iload_n 2, 1) := by decide +kernel
theorem dX4_clear_34 : decode cX4_clear 34 = .ok (.ireturn, 1) := by decide +kernel
theorem dX4_correct_0 : decode cX4_correct 0 = .ok (.aload_n 0, 1) := by decide +kernel
theorem dX4_correct_1 : decode cX4_correct 1 = .ok (.iconst 0, 1) := by decide +kernel
theorem dX4_correct_2 : decode cX4_correct 2 = .ok (.putfield 25, 3) := by decide +kernel
theorem dX4_correct_5 : decode cX4_correct 5 = .ok (.aload_n 0, 1) := by decide +kernel
theorem dX4_correct_6 : decode cX4_correct 6 = .ok (.iload_n 1, 1) := by decide +kernel
theorem dX4_correct_7 : decode cX4_correct 7 = .ok (.invokevirtual 52, 3) := by decide +kernel
theorem dX4_correct_10 : decode cX4_correct 10 = .ok (.ifCond .ne 9, 3) := by decide +kernel
theorem dX4_correct_13 : decode cX4_correct 13 = .ok (.aload_n 0, 1) := by decide +kernel
theorem dX4_correct_14 : decode cX4_correct 14 = .ok (.iconst 1, 1) := by decide +kernel
theorem dX4_correct_15 : decode cX4_correct 15 = .ok (.invokevirtual 40, 3) := by decide +kernel
theorem dX4_correct_18 : decode cX4_correct 18 = .ok (.ireturn, 1) := by decide +kernel
theorem dX4_correct_19 : decode cX4_correct 19 = .ok (.iload_n 2, 1) := by decide +kernel
theorem dX4_correct_20 : decode cX4_correct 20 = .ok (.ldc 56, 2) := by decide +kernel
theorem dX4_correct_22 : decode cX4_correct 22 = .ok (.ldc 57, 2) := by decide +kernel
theorem dX4_correct_24 : decode cX4_correct 24 = .ok (.invokestatic 30, 3) := by decide +kernel
theorem dX4_correct_27 : decode cX4_correct 27 = .ok (.ifCond .ne 9, 3) := by decide +kernel
theorem dX4_correct_30 : decode cX4_correct 30 = .ok (.aload_n 0, 1) := by decide +kernel
theorem dX4_correct_31 : decode cX4_correct 31 = .ok (.iconst 2, 1) := by decide +kernel
theorem dX4_correct_32 : decode cX4_correct 32 = .ok (.invokevirtual 40, 3) := by decide +kernel
theorem dX4_correct_35 : decode cX4_correct 35 = .ok (.ireturn, 1) := by decide +kernel
theorem dX4_correct_36 : decode cX4_correct 36 = .ok (.aload_n 0, 1) := by decide +kernel
theorem dX4_correct_37 : decode cX4_correct 37 = .ok (.iload_n 1, 1) := by decide +kernel
theorem dX4_correct_38 : decode cX4_correct 38 = .ok (.iconst 3, 1) := by decide +kernel
theorem dX4_correct_39 : decode cX4_correct 39 = .ok (.invokevirtual 44, 3) := by decide +kernel
theorem dX4_correct_42 : decode cX4_correct 42 = .ok (.istore_n 3, 1) := by decide +kernel
theorem dX4_correct_43 : decode cX4_correct 43 = .ok (.aload_n 0, 1) := by decide +kernel
theorem dX4_correct_44 : decode cX4_correct 44 = .ok (.iload_n 1, 1) := by decide +kernel
theorem dX4_correct_45 : decode cX4_correct 45 = .ok (.iconst 3, 1) := by decide +kernel
theorem dX4_correct_46 : decode cX4_correct 46 = .ok (.iload_n 2, 1) := by decide +kernel
theorem dX4_correct_47 : decode cX4_correct 47 = .ok (.invokevirtual 48, 3) := by decide +kernel
theorem dX4_correct_50 : decode cX4_correct 50 = .ok (.iload_n 3, 1) := by decide +kernel
theorem dX4_correct_51 : decode cX4_correct 51 = .ok (.ireturn, 1) := by decide +kernel
theorem dX4_sightings_0 : decode cX4_sightings 0 = .ok (.iconst 0, 1) := by decide +kernel
theorem dX4_sightings_1 : decode cX4_sightings 1 = .ok (.istore_n 2, 1) := by decide +kernel
theorem dX4_sightings_2 : decode cX4_sightings 2 = .ok (.iconst 0, 1) := by decide +kernel
theorem dX4_sightings_3 : decode cX4_sightings 3 = .ok (.istore_n 3, 1) := by decide +kernel
theorem dX4_sightings_4 : decode cX4_sightings 4 = .ok (.iload_n 3, 1) := by decide +kernel
theorem dX4_sightings_5 : decode cX4_sightings 5 = .ok (.aload_n 0, 1) := by decide +kernel
theorem dX4_sightings_6 : decode cX4_sightings 6 = .ok (.getfield 37, 3) := by decide +kernel
theorem dX4_sightings_9 : decode cX4_sightings 9 = .ok (.if_icmp .ge 26, 3) := by decide +kernel
theorem dX4_sightings_12 : decode cX4_sightings 12 = .ok (.iload_n 2, 1) := by decide +kernel
theorem dX4_sightings_13 : decode cX4_sightings 13 = .ok (.aload_n 0, 1) := by decide +kernel
theorem dX4_sightings_14 : decode cX4_sightings 14 = .ok (.iload_n 3, 1) := by decide +kernel
theorem dX4_sightings_15 : decode cX4_sightings 15 = .ok (.iload_n 1, 1) := by decide +kernel
theorem dX4_sightings_16 : decode cX4_sightings 16 = .ok (.invokevirtual 58, 3) := by decide +kernel
theorem dX4_sightings_19 : decode cX4_sightings 19 = .ok (.ifCond .eq 7, 3) := by decide +kernel
theorem dX4_sightings_22 : decode cX4_sightings 22 = .ok (.iconst 1, 1) := by decide +kernel
theorem dX4_sightings_23 : decode cX4_sightings 23 = .ok (.goto 4, 3) := by decide +kernel
theorem dX4_sightings_26 : decode cX4_sightings 26 = .ok (.iconst 0, 1) := by decide +kernel
theorem dX4_sightings_27 : decode cX4_sightings 27 = .ok (.iadd, 1) := by decide +kernel
theorem dX4_sightings_28 : decode cX4_sightings 28 = .ok (.istore_n 2, 1) := by decide +kernel
theorem dX4_sightings_29 : decode cX4_sightings 29 = .ok (.iinc 3 1, 3) := by decide +kernel
theorem dX4_sightings_32 : decode cX4_sightings 32 = .ok (.goto (-28), 3) := by decide +kernel
theorem dX4_sightings_35 : decode cX4_sightings 35 = .ok (.iload_n 2, 1) := by decide +kernel
theorem dX4_sightings_36 : decode cX4_sightings 36 = .ok (.ireturn, 1) := by decide +kernel
theorem dX4_stationTold_0 : decode cX4_stationTold 0 = .ok (.iload_n 2, 1) := by decide +kernel
theorem dX4_stationTold_1 : decode cX4_stationTold 1 = .ok (.iconst 5, 1) := by decide +kernel
theorem dX4_stationTold_2 : decode cX4_stationTold 2 = .ok (.if_icmp .ge 12, 3) := by decide +kernel
theorem dX4_stationTold_5 : decode cX4_stationTold 5 = .ok (.aload_n 0, 1) := by decide +kernel
theorem dX4_stationTold_6 : decode cX4_stationTold 6 = .ok (.iload_n 1, 1) := by decide +kernel
theorem dX4_stationTold_7 : decode cX4_stationTold 7 = .ok (.iload_n 2, 1) := by decide +kernel
theorem dX4_stationTold_8 : decode cX4_stationTold 8 = .ok (.invokevirtual 44, 3) := by decide +kernel
theorem dX4_stationTold_11 : decode cX4_stationTold 11 = .ok (.goto 8, 3) := by decide +kernel
theorem dX4_stationTold_14 : decode cX4_stationTold 14 = .ok (.aload_n 0, 1) := by decide +kernel
theorem dX4_stationTold_15 : decode cX4_stationTold 15 = .ok (.iload_n 1, 1) := by decide +kernel
theorem dX4_stationTold_16 : decode cX4_stationTold 16 = .ok (.invokevirtual 62, 3) := by decide +kernel
theorem dX4_stationTold_19 : decode cX4_stationTold 19 = .ok (.ireturn, 1) := by decide +kernel
theorem dX4_station_0 : decode cX4_station 0 = .ok (.aload_n 0, 1) := by decide +kernel
theorem dX4_station_1 : decode cX4_station 1 = .ok (.iconst 0, 1) := by decide +kernel
theorem dX4_station_2 : decode cX4_station 2 = .ok (.putfield 25, 3) := by decide +kernel
theorem dX4_station_5 : decode cX4_station 5 = .ok (.aload_n 0, 1) := by decide +kernel
theorem dX4_station_6 : decode cX4_station 6 = .ok (.iload_n 1, 1) := by decide +kernel
theorem dX4_station_7 : decode cX4_station 7 = .ok (.invokevirtual 52, 3) := by decide +kernel
theorem dX4_station_10 : decode cX4_station 10 = .ok (.ifCond .eq 21, 3) := by decide +kernel
theorem dX4_station_13 : decode cX4_station 13 = .ok (.iload_n 2, 1) := by decide +kernel
theorem dX4_station_14 : decode cX4_station 14 = .ok (.iconst 0, 1) := by decide +kernel
theorem dX4_station_15 : decode cX4_station 15 = .ok (.iconst 5, 1) := by decide +kernel
theorem dX4_station_16 : decode cX4_station 16 = .ok (.invokestatic 30, 3) := by decide +kernel
theorem dX4_station_19 : decode cX4_station 19 = .ok (.ifCond .eq 12, 3) := by decide +kernel
theorem dX4_station_22 : decode cX4_station 22 = .ok (.aload_n 0, 1) := by decide +kernel
theorem dX4_station_23 : decode cX4_station 23 = .ok (.iload_n 1, 1) := by decide +kernel
theorem dX4_station_24 : decode cX4_station 24 = .ok (.iload_n 2, 1) := by decide +kernel
theorem dX4_station_25 : decode cX4_station 25 = .ok (.invokevirtual 65, 3) := by decide +kernel
theorem dX4_station_28 : decode cX4_station 28 = .ok (.goto 8, 3) := by decide +kernel
theorem dX4_station_31 : decode cX4_station 31 = .ok (.aload_n 0, 1) := by decide +kernel
theorem dX4_station_32 : decode cX4_station 32 = .ok (.iconst 1, 1) := by decide +kernel
theorem dX4_station_33 : decode cX4_station 33 = .ok (.invokevirtual 40, 3) := by decide +kernel
theorem dX4_station_36 : decode cX4_station 36 = .ok (.ireturn, 1) := by decide +kernel
theorem dX4_clockOf_0 : decode cX4_clockOf 0 = .ok (.iload_n 2, 1) := by decide +kernel
theorem dX4_clockOf_1 : decode cX4_clockOf 1 = .ok (.aload_n 0, 1) := by decide +kernel
theorem dX4_clockOf_2 : decode cX4_clockOf 2 = .ok (.iload_n 1, 1) := by decide +kernel
theorem dX4_clockOf_3 : decode cX4_clockOf 3 = .ok (.iconst 1, 1) := by decide +kernel
theorem dX4_clockOf_4 : decode cX4_clockOf 4 = .ok (.invokevirtual 44, 3) := by decide +kernel
theorem dX4_clockOf_7 : decode cX4_clockOf 7 = .ok (.iadd, 1) := by decide +kernel
theorem dX4_clockOf_8 : decode cX4_clockOf 8 = .ok (.aload_n 0, 1) := by decide +kernel
theorem dX4_clockOf_9 : decode cX4_clockOf 9 = .ok (.iload_n 1, 1) := by decide +kernel
theorem dX4_clockOf_10 : decode cX4_clockOf 10 = .ok (.iconst 2, 1) := by decide +kernel
theorem dX4_clockOf_11 : decode cX4_clockOf 11 = .ok (.invokevirtual 44, 3) := by decide +kernel
theorem dX4_clockOf_14 : decode cX4_clockOf 14 = .ok (.iload_n 2, 1) := by decide +kernel
theorem dX4_clockOf_15 : decode cX4_clockOf 15 = .ok (.imul, 1) := by decide +kernel
theorem dX4_clockOf_16 : decode cX4_clockOf 16 = .ok (.sipush 1000, 3) := by decide +kernel
theorem dX4_clockOf_19 : decode cX4_clockOf 19 = .ok (.idiv, 1) := by decide +kernel
theorem dX4_clockOf_20 : decode cX4_clockOf 20 = .ok (.iadd, 1) := by decide +kernel
theorem dX4_clockOf_21 : decode cX4_clockOf 21 = .ok (.aload_n 0, 1) := by decide +kernel
theorem dX4_clockOf_22 : decode cX4_clockOf 22 = .ok (.iload_n 1, 1) := by decide +kernel
theorem dX4_clockOf_23 : decode cX4_clockOf 23 = .ok (.iconst 3, 1) := by decide +kernel
theorem dX4_clockOf_24 : decode cX4_clockOf 24 = .ok (.invokevirtual 44, 3) := by decide +kernel
theorem dX4_clockOf_27 : decode cX4_clockOf 27 = .ok (.isub, 1) := by decide +kernel
theorem dX4_clockOf_28 : decode cX4_clockOf 28 = .ok (.ireturn, 1) := by decide +kernel
theorem dX4_clock_0 : decode cX4_clock 0 = .ok (.aload_n 0, 1) := by decide +kernel
theorem dX4_clock_1 : decode cX4_clock 1 = .ok (.iconst 0, 1) := by decide +kernel
theorem dX4_clock_2 : decode cX4_clock 2 = .ok (.putfield 25, 3) := by decide +kernel
theorem dX4_clock_5 : decode cX4_clock 5 = .ok (.aload_n 0, 1) := by decide +kernel
theorem dX4_clock_6 : decode cX4_clock 6 = .ok (.iload_n 1, 1) := by decide +kernel
theorem dX4_clock_7 : decode cX4_clock 7 = .ok (.invokevirtual 52, 3) := by decide +kernel
theorem dX4_clock_10 : decode cX4_clock 10 = .ok (.ifCond .ne 9, 3) := by decide +kernel
theorem dX4_clock_13 : decode cX4_clock 13 = .ok (.aload_n 0, 1) := by decide +kernel
theorem dX4_clock_14 : decode cX4_clock 14 = .ok (.iconst 1, 1) := by decide +kernel
theorem dX4_clock_15 : decode cX4_clock 15 = .ok (.invokevirtual 40, 3) := by decide +kernel
theorem dX4_clock_18 : decode cX4_clock 18 = .ok (.ireturn, 1) := by decide +kernel
theorem dX4_clock_19 : decode cX4_clock 19 = .ok (.iload_n 2, 1) := by decide +kernel
theorem dX4_clock_20 : decode cX4_clock 20 = .ok (.invokestatic 68, 3) := by decide +kernel
theorem dX4_clock_23 : decode cX4_clock 23 = .ok (.ifCond .eq 12, 3) := by decide +kernel
theorem dX4_clock_26 : decode cX4_clock 26 = .ok (.aload_n 0, 1) := by decide +kernel
theorem dX4_clock_27 : decode cX4_clock 27 = .ok (.iload_n 1, 1) := by decide +kernel
theorem dX4_clock_28 : decode cX4_clock 28 = .ok (.iload_n 2, 1) := by decide +kernel
theorem dX4_clock_29 : decode cX4_clock 29 = .ok (.invokevirtual 71, 3) := by decide +kernel
theorem dX4_clock_32 : decode cX4_clock 32 = .ok (.goto 8, 3) := by decide +kernel
theorem dX4_clock_35 : decode cX4_clock 35 = .ok (.aload_n 0, 1) := by decide +kernel
theorem dX4_clock_36 : decode cX4_clock 36 = .ok (.iconst 2, 1) := by decide +kernel
theorem dX4_clock_37 : decode cX4_clock 37 = .ok (.invokevirtual 40, 3) := by decide +kernel
theorem dX4_clock_40 : decode cX4_clock 40 = .ok (.ireturn, 1) := by decide +kernel
theorem dX4_addHalo_0 : decode cX4_addHalo 0 = .ok (.aload_n 0, 1) := by decide +kernel
theorem dX4_addHalo_1 : decode cX4_addHalo 1 = .ok (.iconst 0, 1) := by decide +kernel
theorem dX4_addHalo_2 : decode cX4_addHalo 2 = .ok (.putfield 25, 3) := by decide +kernel
theorem dX4_addHalo_5 : decode cX4_addHalo 5 = .ok (.iload_n 1, 1) := by decide +kernel
theorem dX4_addHalo_6 : decode cX4_addHalo 6 = .ok (.iconst 0, 1) := by decide +kernel
theorem dX4_addHalo_7 : decode cX4_addHalo 7 = .ok (.ldc 57, 2) := by decide +kernel
theorem dX4_addHalo_9 : decode cX4_addHalo 9 = .ok (.invokestatic 30, 3) := by decide +kernel
theorem dX4_addHalo_12 : decode cX4_addHalo 12 = .ok (.ifCond .eq 34, 3) := by decide +kernel
theorem dX4_addHalo_15 : decode cX4_addHalo 15 = .ok (.iload_n 2, 1) := by decide +kernel
theorem dX4_addHalo_16 : decode cX4_addHalo 16 = .ok (.iconst 0, 1) := by decide +kernel
theorem dX4_addHalo_17 : decode cX4_addHalo 17 = .ok (.sipush 999, 3) := by decide +kernel
theorem dX4_addHalo_20 : decode cX4_addHalo 20 = .ok (.invokestatic 30, 3) := by decide +kernel
theorem dX4_addHalo_23 : decode cX4_addHalo 23 = .ok (.ifCond .eq 23, 3) := by decide +kernel
theorem dX4_addHalo_26 : decode cX4_addHalo 26 = .ok (.iload_n 3, 1) := by decide +kernel
theorem dX4_addHalo_27 : decode cX4_addHalo 27 = .ok (.iconst 1, 1) := by decide +kernel
theorem dX4_addHalo_28 : decode cX4_addHalo 28 = .ok (.bipush 99, 2) := by decide +kernel
theorem dX4_addHalo_30 : decode cX4_addHalo 30 = .ok (.invokestatic 30, 3) := by decide +kernel
theorem dX4_addHalo_33 : decode cX4_addHalo 33 = .ok (.ifCond .eq 13, 3) := by decide +kernel
theorem dX4_addHalo_36 : decode cX4_addHalo 36 = .ok (.iload 4, 2) := by decide +kernel
theorem dX4_addHalo_38 : decode cX4_addHalo 38 = .ok (.iconst (-1), 1) := by decide +kernel
theorem dX4_addHalo_39 : decode cX4_addHalo 39 = .ok (.iconst 1, 1) := by decide +kernel
theorem dX4_addHalo_40 : decode cX4_addHalo 40 = .ok (.invokestatic 30, 3) := by decide +kernel
theorem dX4_addHalo_43 : decode cX4_addHalo 43 = .ok (.ifCond .ne 9, 3) := by decide +kernel
theorem dX4_addHalo_46 : decode cX4_addHalo 46 = .ok (.aload_n 0, 1) := by decide +kernel
theorem dX4_addHalo_47 : decode cX4_addHalo 47 = .ok (.iconst 1, 1) := by decide +kernel
theorem dX4_addHalo_48 : decode cX4_addHalo 48 = .ok (.invokevirtual 40, 3) := by decide +kernel
theorem dX4_addHalo_51 : decode cX4_addHalo 51 = .ok (.ireturn, 1) := by decide +kernel
theorem dX4_addHalo_52 : decode cX4_addHalo 52 = .ok (.aload_n 0, 1) := by decide +kernel
theorem dX4_addHalo_53 : decode cX4_addHalo 53 = .ok (.getfield 37, 3) := by decide +kernel
theorem dX4_addHalo_56 : decode cX4_addHalo 56 = .ok (.bipush 16, 2) := by decide +kernel
theorem dX4_addHalo_58 : decode cX4_addHalo 58 = .ok (.if_icmp .ne 9, 3) := by decide +kernel
theorem dX4_addHalo_61 : decode cX4_addHalo 61 = .ok (.aload_n 0, 1) := by decide +kernel
theorem dX4_addHalo_62 : decode cX4_addHalo 62 = .ok (.iconst 2, 1) := by decide +kernel
theorem dX4_addHalo_63 : decode cX4_addHalo 63 = .ok (.invokevirtual 40, 3) := by decide +kernel
theorem dX4_addHalo_66 : decode cX4_addHalo 66 = .ok (.ireturn, 1) := by decide +kernel
theorem dX4_addHalo_67 : decode cX4_addHalo 67 = .ok (.iconst 4, 1) := by decide +kernel
theorem dX4_addHalo_68 : decode cX4_addHalo 68 = .ok (.newarray .int, 2) := by decide +kernel
theorem dX4_addHalo_70 : decode cX4_addHalo 70 = .ok (.dup, 1) := by decide +kernel
theorem dX4_addHalo_71 : decode cX4_addHalo 71 = .ok (.iconst 0, 1) := by decide +kernel
theorem dX4_addHalo_72 : decode cX4_addHalo 72 = .ok (.iload_n 1, 1) := by decide +kernel
theorem dX4_addHalo_73 : decode cX4_addHalo 73 = .ok (.iastore, 1) := by decide +kernel
theorem dX4_addHalo_74 : decode cX4_addHalo 74 = .ok (.dup, 1) := by decide +kernel
theorem dX4_addHalo_75 : decode cX4_addHalo 75 = .ok (.iconst 1, 1) := by decide +kernel
theorem dX4_addHalo_76 : decode cX4_addHalo 76 = .ok (.iload_n 2, 1) := by decide +kernel
theorem dX4_addHalo_77 : decode cX4_addHalo 77 = .ok (.iastore, 1) := by decide +kernel
theorem dX4_addHalo_78 : decode cX4_addHalo 78 = .ok (.dup, 1) := by decide +kernel
theorem dX4_addHalo_79 : decode cX4_addHalo 79 = .ok (.iconst 2, 1) := by decide +kernel
theorem dX4_addHalo_80 : decode cX4_addHalo 80 = .ok (.iload_n 3, 1) := by decide +kernel
theorem dX4_addHalo_81 : decode cX4_addHalo 81 = .ok (.iastore, 1) := by decide +kernel
theorem dX4_addHalo_82 : decode cX4_addHalo 82 = .ok (.dup, 1) := by decide +kernel
theorem dX4_addHalo_83 : decode cX4_addHalo 83 = .ok (.iconst 3, 1) := by decide +kernel
theorem dX4_addHalo_84 : decode cX4_addHalo 84 = .ok (.iload 4, 2) := by decide +kernel
theorem dX4_addHalo_86 : decode cX4_addHalo 86 = .ok (.iastore, 1) := by decide +kernel
theorem dX4_addHalo_87 : decode cX4_addHalo 87 = .ok (.astore 5, 2) := by decide +kernel
theorem dX4_addHalo_89 : decode cX4_addHalo 89 = .ok (.aload 5, 2) := by decide +kernel
theorem dX4_addHalo_91 : decode cX4_addHalo 91 = .ok (.iconst 0, 1) := by decide +kernel
theorem dX4_addHalo_92 : decode cX4_addHalo 92 = .ok (.aload_n 0, 1) := by decide +kernel
theorem dX4_addHalo_93 : decode cX4_addHalo 93 = .ok (.getfield 13, 3) := by decide +kernel
theorem dX4_addHalo_96 : decode cX4_addHalo 96 = .ok (.iconst 4, 1) := by decide +kernel
theorem dX4_addHalo_97 : decode cX4_addHalo 97 = .ok (.aload_n 0, 1) := by decide +kernel
theorem dX4_addHalo_98 : decode cX4_addHalo 98 = .ok (.getfield 37, 3) := by decide +kernel
theorem dX4_addHalo_101 : decode cX4_addHalo 101 = .ok (.imul, 1) := by decide +kernel
theorem dX4_addHalo_102 : decode cX4_addHalo 102 = .ok (.iconst 4, 1) := by decide +kernel
theorem dX4_addHalo_103 : decode cX4_addHalo 103 = .ok (.invokestatic 74, 3) := by decide +kernel
theorem dX4_addHalo_106 : decode cX4_addHalo 106 = .ok (.aload_n 0, 1) := by decide +kernel
theorem dX4_addHalo_107 : decode cX4_addHalo 107 = .ok (.dup, 1) := by decide +kernel
theorem dX4_addHalo_108 : decode cX4_addHalo 108 = .ok (.getfield 37, 3) := by decide +kernel
theorem dX4_addHalo_111 : decode cX4_addHalo 111 = .ok (.iconst 1, 1) := by decide +kernel
theorem dX4_addHalo_112 : decode cX4_addHalo 112 = .ok (.iadd, 1) := by decide +kernel
theorem dX4_addHalo_113 : decode cX4_addHalo 113 = .ok (.putfield 37, 3) := by decide +kernel
theorem dX4_addHalo_116 : decode cX4_addHalo 116 = .ok (.aload_n 0, 1) := by decide +kernel
theorem dX4_addHalo_117 : decode cX4_addHalo 117 = .ok (.getfield 37, 3) := by decide +kernel
theorem dX4_addHalo_120 : decode cX4_addHalo 120 = .ok (.iconst 1, 1) := by decide +kernel
theorem dX4_addHalo_121 : decode cX4_addHalo 121 = .ok (.isub, 1) := by decide +kernel
theorem dX4_addHalo_122 : decode cX4_addHalo 122 = .ok (.ireturn, 1) := by decide +kernel
theorem dX4_comesTo_0 : decode cX4_comesTo 0 = .ok (.aload_n 0, 1) := by decide +kernel
theorem dX4_comesTo_1 : decode cX4_comesTo 1 = .ok (.iload_n 2, 1) := by decide +kernel
theorem dX4_comesTo_2 : decode cX4_comesTo 2 = .ok (.iconst 0, 1) := by decide +kernel
theorem dX4_comesTo_3 : decode cX4_comesTo 3 = .ok (.invokevirtual 44, 3) := by decide +kernel
theorem dX4_comesTo_6 : decode cX4_comesTo 6 = .ok (.aload_n 0, 1) := by decide +kernel
theorem dX4_comesTo_7 : decode cX4_comesTo 7 = .ok (.iload_n 1, 1) := by decide +kernel
theorem dX4_comesTo_8 : decode cX4_comesTo 8 = .ok (.iconst 1, 1) := by decide +kernel
theorem dX4_comesTo_9 : decode cX4_comesTo 9 = .ok (.invokevirtual 80, 3) := by decide +kernel
theorem dX4_comesTo_12 : decode cX4_comesTo 12 = .ok (.isub, 1) := by decide +kernel
theorem dX4_comesTo_13 : decode cX4_comesTo 13 = .ok (.istore_n 3, 1) := by decide +kernel
theorem dX4_comesTo_14 : decode cX4_comesTo 14 = .ok (.iload_n 3, 1) := by decide +kernel
theorem dX4_comesTo_15 : decode cX4_comesTo 15 = .ok (.aload_n 0, 1) := by decide +kernel
theorem dX4_comesTo_16 : decode cX4_comesTo 16 = .ok (.iload_n 1, 1) := by decide +kernel
theorem dX4_comesTo_17 : decode cX4_comesTo 17 = .ok (.iconst 3, 1) := by decide +kernel
theorem dX4_comesTo_18 : decode cX4_comesTo 18 = .ok (.invokevirtual 80, 3) := by decide +kernel
theorem dX4_comesTo_21 : decode cX4_comesTo 21 = .ok (.imul, 1) := by decide +kernel
theorem dX4_comesTo_22 : decode cX4_comesTo 22 = .ok (.ifCond .ge 5, 3) := by decide +kernel
theorem dX4_comesTo_25 : decode cX4_comesTo 25 = .ok (.iconst (-1), 1) := by decide +kernel
theorem dX4_comesTo_26 : decode cX4_comesTo 26 = .ok (.ireturn, 1) := by decide +kernel
theorem dX4_comesTo_27 : decode cX4_comesTo 27 = .ok (.aload_n 0, 1) := by decide +kernel
theorem dX4_comesTo_28 : decode cX4_comesTo 28 = .ok (.iload_n 1, 1) := by decide +kernel
theorem dX4_comesTo_29 : decode cX4_comesTo 29 = .ok (.iconst 0, 1) := by decide +kernel
theorem dX4_comesTo_30 : decode cX4_comesTo 30 = .ok (.invokevirtual 80, 3) := by decide +kernel
theorem dX4_comesTo_33 : decode cX4_comesTo 33 = .ok (.bipush 100, 2) := by decide +kernel
theorem dX4_comesTo_35 : decode cX4_comesTo 35 = .ok (.iload_n 3, 1) := by decide +kernel
theorem dX4_comesTo_36 : decode cX4_comesTo 36 = .ok (.invokestatic 83, 3) := by decide +kernel
theorem dX4_comesTo_39 : decode cX4_comesTo 39 = .ok (.imul, 1) := by decide +kernel
theorem dX4_comesTo_40 : decode cX4_comesTo 40 = .ok (.aload_n 0, 1) := by decide +kernel
theorem dX4_comesTo_41 : decode cX4_comesTo 41 = .ok (.iload_n 1, 1) := by decide +kernel
theorem dX4_comesTo_42 : decode cX4_comesTo 42 = .ok (.iconst 2, 1) := by decide +kernel
theorem dX4_comesTo_43 : decode cX4_comesTo 43 = .ok (.invokevirtual 80, 3) := by decide +kernel
theorem dX4_comesTo_46 : decode cX4_comesTo 46 = .ok (.iadd, 1) := by decide +kernel
theorem dX4_comesTo_47 : decode cX4_comesTo 47 = .ok (.iconst 1, 1) := by decide +kernel
theorem dX4_comesTo_48 : decode cX4_comesTo 48 = .ok (.isub, 1) := by decide +kernel
theorem dX4_comesTo_49 : decode cX4_comesTo 49 = .ok (.aload_n 0, 1) := by decide +kernel
theorem dX4_comesTo_50 : decode cX4_comesTo 50 = .ok (.iload_n 1, 1) := by decide +kernel
theorem dX4_comesTo_51 : decode cX4_comesTo 51 = .ok (.iconst 2, 1) := by decide +kernel
theorem dX4_comesTo_52 : decode cX4_comesTo 52 = .ok (.invokevirtual 80, 3) := by decide +kernel
theorem dX4_comesTo_55 : decode cX4_comesTo 55 = .ok (.idiv, 1) := by decide +kernel
theorem dX4_comesTo_56 : decode cX4_comesTo 56 = .ok (.iadd, 1) := by decide +kernel
theorem dX4_comesTo_57 : decode cX4_comesTo 57 = .ok (.ireturn, 1) := by decide +kernel
theorem dX4_sees_0 : decode cX4_sees 0 = .ok (.aload_n 0, 1) := by decide +kernel
theorem dX4_sees_1 : decode cX4_sees 1 = .ok (.iload_n 1, 1) := by decide +kernel
theorem dX4_sees_2 : decode cX4_sees 2 = .ok (.iload_n 2, 1) := by decide +kernel
theorem dX4_sees_3 : decode cX4_sees 3 = .ok (.invokevirtual 88, 3) := by decide +kernel
theorem dX4_sees_6 : decode cX4_sees 6 = .ok (.istore_n 3, 1) := by decide +kernel
theorem dX4_sees_7 : decode cX4_sees 7 = .ok (.iload_n 3, 1) := by decide +kernel
theorem dX4_sees_8 : decode cX4_sees 8 = .ok (.iconst (-1), 1) := by decide +kernel
theorem dX4_sees_9 : decode cX4_sees 9 = .ok (.if_icmp .eq 7, 3) := by decide +kernel
theorem dX4_sees_12 : decode cX4_sees 12 = .ok (.iconst 1, 1) := by decide +kernel
theorem dX4_sees_13 : decode cX4_sees 13 = .ok (.goto 4, 3) := by decide +kernel
theorem dX4_sees_16 : decode cX4_sees 16 = .ok (.iconst 0, 1) := by decide +kernel
theorem dX4_sees_17 : decode cX4_sees 17 = .ok (.istore 4, 2) := by decide +kernel
theorem dX4_sees_19 : decode cX4_sees 19 = .ok (.iconst 0, 1) := by decide +kernel
theorem dX4_sees_20 : decode cX4_sees 20 = .ok (.istore 5, 2) := by decide +kernel
theorem dX4_sees_22 : decode cX4_sees 22 = .ok (.iload 5, 2) := by decide +kernel
theorem dX4_sees_24 : decode cX4_sees 24 = .ok (.aload_n 0, 1) := by decide +kernel
theorem dX4_sees_25 : decode cX4_sees 25 = .ok (.iload_n 2, 1) := by decide +kernel
theorem dX4_sees_26 : decode cX4_sees 26 = .ok (.iconst 4, 1) := by decide +kernel
theorem dX4_sees_27 : decode cX4_sees 27 = .ok (.invokevirtual 44, 3) := by decide +kernel
theorem dX4_sees_30 : decode cX4_sees 30 = .ok (.if_icmp .ge 54, 3) := by decide +kernel
theorem dX4_sees_33 : decode cX4_sees 33 = .ok (.iload 4, 2) := by decide +kernel
theorem dX4_sees_35 : decode cX4_sees 35 = .ok (.ifCond .eq 40, 3) := by decide +kernel
theorem dX4_sees_38 : decode cX4_sees 38 = .ok (.iload_n 3, 1) := by decide +kernel
theorem dX4_sees_39 : decode cX4_sees 39 = .ok (.aload_n 0, 1) := by decide +kernel
theorem dX4_sees_40 : decode cX4_sees 40 = .ok (.iload_n 2, 1) := by decide +kernel
theorem dX4_sees_41 : decode cX4_sees 41 = .ok (.iconst 5, 1) := by decide +kernel
theorem dX4_sees_42 : decode cX4_sees 42 = .ok (.iconst 2, 1) := by decide +kernel
theorem dX4_sees_43 : decode cX4_sees 43 = .ok (.iload 5, 2) := by decide +kernel
theorem dX4_sees_45 : decode cX4_sees 45 = .ok (.imul, 1) := by decide +kernel
theorem dX4_sees_46 : decode cX4_sees 46 = .ok (.iadd, 1) := by decide +kernel
theorem dX4_sees_47 : decode cX4_sees 47 = .ok (.invokevirtual 44, 3) := by decide +kernel
theorem dX4_sees_50 : decode cX4_sees 50 = .ok (.aload_n 0, 1) := by decide +kernel
theorem dX4_sees_51 : decode cX4_sees 51 = .ok (.iload_n 2, 1) := by decide +kernel
theorem dX4_sees_52 : decode cX4_sees 52 = .ok (.iconst 5, 1) := by decide +kernel
theorem dX4_sees_53 : decode cX4_sees 53 = .ok (.iconst 2, 1) := by decide +kernel
theorem dX4_sees_54 : decode cX4_sees 54 = .ok (.iload 5, 2) := by decide +kernel
theorem dX4_sees_56 : decode cX4_sees 56 = .ok (.imul, 1) := by decide +kernel
theorem dX4_sees_57 : decode cX4_sees 57 = .ok (.iadd, 1) := by decide +kernel
theorem dX4_sees_58 : decode cX4_sees 58 = .ok (.iconst 1, 1) := by decide +kernel
theorem dX4_sees_59 : decode cX4_sees 59 = .ok (.iadd, 1) := by decide +kernel
theorem dX4_sees_60 : decode cX4_sees 60 = .ok (.invokevirtual 44, 3) := by decide +kernel
theorem dX4_sees_63 : decode cX4_sees 63 = .ok (.iconst 1, 1) := by decide +kernel
theorem dX4_sees_64 : decode cX4_sees 64 = .ok (.isub, 1) := by decide +kernel
theorem dX4_sees_65 : decode cX4_sees 65 = .ok (.invokestatic 30, 3) := by decide +kernel
theorem dX4_sees_68 : decode cX4_sees 68 = .ok (.ifCond .ne 7, 3) := by decide +kernel
theorem dX4_sees_71 : decode cX4_sees 71 = .ok (.iconst 1, 1) := by decide +kernel
theorem dX4_sees_72 : decode cX4_sees 72 = .ok (.goto 4, 3) := by decide +kernel
theorem dX4_sees_75 : decode cX4_sees 75 = .ok (.iconst 0, 1) := by decide +kernel
theorem dX4_sees_76 : decode cX4_sees 76 = .ok (.istore 4, 2) := by decide +kernel
theorem dX4_sees_78 : decode cX4_sees 78 = .ok (.iinc 5 1, 3) := by decide +kernel
theorem dX4_sees_81 : decode cX4_sees 81 = .ok (.goto (-59), 3) := by decide +kernel
theorem dX4_sees_84 : decode cX4_sees 84 = .ok (.iload 4, 2) := by decide +kernel
theorem dX4_sees_86 : decode cX4_sees 86 = .ok (.ireturn, 1) := by decide +kernel
theorem dX4_readingOf_0 : decode cX4_readingOf 0 = .ok (.aload_n 0, 1) := by decide +kernel
theorem dX4_readingOf_1 : decode cX4_readingOf 1 = .ok (.iload_n 1, 1) := by decide +kernel
theorem dX4_readingOf_2 : decode cX4_readingOf 2 = .ok (.iload_n 2, 1) := by decide +kernel
theorem dX4_readingOf_3 : decode cX4_readingOf 3 = .ok (.invokevirtual 58, 3) := by decide +kernel
theorem dX4_readingOf_6 : decode cX4_readingOf 6 = .ok (.ifCond .eq 17, 3) := by decide +kernel
theorem dX4_readingOf_9 : decode cX4_readingOf 9 = .ok (.aload_n 0, 1) := by decide +kernel
theorem dX4_readingOf_10 : decode cX4_readingOf 10 = .ok (.iload_n 2, 1) := by decide +kernel
theorem dX4_readingOf_11 : decode cX4_readingOf 11 = .ok (.aload_n 0, 1) := by decide +kernel
theorem dX4_readingOf_12 : decode cX4_readingOf 12 = .ok (.iload_n 1, 1) := by decide +kernel
theorem dX4_readingOf_13 : decode cX4_readingOf 13 = .ok (.iload_n 2, 1) := by decide +kernel
theorem dX4_readingOf_14 : decode cX4_readingOf 14 = .ok (.invokevirtual 88, 3) := by decide +kernel
theorem dX4_readingOf_17 : decode cX4_readingOf 17 = .ok (.invokevirtual 71, 3) := by decide +kernel
theorem dX4_readingOf_20 : decode cX4_readingOf 20 = .ok (.goto 5, 3) := by decide +kernel
theorem dX4_readingOf_23 : decode cX4_readingOf 23 = .ok (.ldc 91, 2) := by decide +kernel
theorem dX4_readingOf_25 : decode cX4_readingOf 25 = .ok (.ireturn, 1) := by decide +kernel
theorem dX4_comes_0 : decode cX4_comes 0 = .ok (.aload_n 0, 1) := by decide +kernel
theorem dX4_comes_1 : decode cX4_comes 1 = .ok (.iconst 0, 1) := by decide +kernel
theorem dX4_comes_2 : decode cX4_comes 2 = .ok (.putfield 25, 3) := by decide +kernel
theorem dX4_comes_5 : decode cX4_comes 5 = .ok (.aload_n 0, 1) := by decide +kernel
theorem dX4_comes_6 : decode cX4_comes 6 = .ok (.iload_n 1, 1) := by decide +kernel
theorem dX4_comes_7 : decode cX4_comes 7 = .ok (.invokevirtual 92, 3) := by decide +kernel
theorem dX4_comes_10 : decode cX4_comes 10 = .ok (.ifCond .eq 20, 3) := by decide +kernel
theorem dX4_comes_13 : decode cX4_comes 13 = .ok (.aload_n 0, 1) := by decide +kernel
theorem dX4_comes_14 : decode cX4_comes 14 = .ok (.iload_n 2, 1) := by decide +kernel
theorem dX4_comes_15 : decode cX4_comes 15 = .ok (.invokevirtual 52, 3) := by decide +kernel
theorem dX4_comes_18 : decode cX4_comes 18 = .ok (.ifCond .eq 12, 3) := by decide +kernel
theorem dX4_comes_21 : decode cX4_comes 21 = .ok (.aload_n 0, 1) := by decide +kernel
theorem dX4_comes_22 : decode cX4_comes 22 = .ok (.iload_n 1, 1) := by decide +kernel
theorem dX4_comes_23 : decode cX4_comes 23 = .ok (.iload_n 2, 1) := by decide +kernel
theorem dX4_comes_24 : decode cX4_comes 24 = .ok (.invokevirtual 88, 3) := by decide +kernel
theorem dX4_comes_27 : decode cX4_comes 27 = .ok (.goto 8, 3) := by decide +kernel
theorem dX4_comes_30 : decode cX4_comes 30 = .ok (.aload_n 0, 1) := by decide +kernel
theorem dX4_comes_31 : decode cX4_comes 31 = .ok (.iconst 1, 1) := by decide +kernel
theorem dX4_comes_32 : decode cX4_comes 32 = .ok (.invokevirtual 40, 3) := by decide +kernel
theorem dX4_comes_35 : decode cX4_comes 35 = .ok (.ireturn, 1) := by decide +kernel
theorem dX4_reading_0 : decode cX4_reading 0 = .ok (.aload_n 0, 1) := by decide +kernel
theorem dX4_reading_1 : decode cX4_reading 1 = .ok (.iconst 0, 1) := by decide +kernel
theorem dX4_reading_2 : decode cX4_reading 2 = .ok (.putfield 25, 3) := by decide +kernel
theorem dX4_reading_5 : decode cX4_reading 5 = .ok (.aload_n 0, 1) := by decide +kernel
theorem dX4_reading_6 : decode cX4_reading 6 = .ok (.iload_n 1, 1) := by decide +kernel
theorem dX4_reading_7 : decode cX4_reading 7 = .ok (.invokevirtual 92, 3) := by decide +kernel
theorem dX4_reading_10 : decode cX4_reading 10 = .ok (.ifCond .eq 20, 3) := by decide +kernel
theorem dX4_reading_13 : decode cX4_reading 13 = .ok (.aload_n 0, 1) := by decide +kernel
theorem dX4_reading_14 : decode cX4_reading 14 = .ok (.iload_n 2, 1) := by decide +kernel
theorem dX4_reading_15 : decode cX4_reading 15 = .ok (.invokevirtual 52, 3) := by decide +kernel
theorem dX4_reading_18 : decode cX4_reading 18 = .ok (.ifCond .eq 12, 3) := by decide +kernel
theorem dX4_reading_21 : decode cX4_reading 21 = .ok (.aload_n 0, 1) := by decide +kernel
theorem dX4_reading_22 : decode cX4_reading 22 = .ok (.iload_n 1, 1) := by decide +kernel
theorem dX4_reading_23 : decode cX4_reading 23 = .ok (.iload_n 2, 1) := by decide +kernel
theorem dX4_reading_24 : decode cX4_reading 24 = .ok (.invokevirtual 95, 3) := by decide +kernel
theorem dX4_reading_27 : decode cX4_reading 27 = .ok (.goto 8, 3) := by decide +kernel
theorem dX4_reading_30 : decode cX4_reading 30 = .ok (.aload_n 0, 1) := by decide +kernel
theorem dX4_reading_31 : decode cX4_reading 31 = .ok (.iconst 1, 1) := by decide +kernel
theorem dX4_reading_32 : decode cX4_reading 32 = .ok (.invokevirtual 40, 3) := by decide +kernel
theorem dX4_reading_35 : decode cX4_reading 35 = .ok (.ireturn, 1) := by decide +kernel
theorem dX4_order_0 : decode cX4_order 0 = .ok (.aload_n 0, 1) := by decide +kernel
theorem dX4_order_1 : decode cX4_order 1 = .ok (.iconst 0, 1) := by decide +kernel
theorem dX4_order_2 : decode cX4_order 2 = .ok (.putfield 25, 3) := by decide +kernel
theorem dX4_order_5 : decode cX4_order 5 = .ok (.aload_n 0, 1) := by decide +kernel
theorem dX4_order_6 : decode cX4_order 6 = .ok (.iload_n 1, 1) := by decide +kernel
theorem dX4_order_7 : decode cX4_order 7 = .ok (.invokevirtual 92, 3) := by decide +kernel
theorem dX4_order_10 : decode cX4_order 10 = .ok (.ifCond .eq 7, 3) := by decide +kernel
theorem dX4_order_13 : decode cX4_order 13 = .ok (.iload_n 2, 1) := by decide +kernel
theorem dX4_order_14 : decode cX4_order 14 = .ok (.ifCond .ge 9, 3) := by decide +kernel
theorem dX4_order_17 : decode cX4_order 17 = .ok (.aload_n 0, 1) := by decide +kernel
theorem dX4_order_18 : decode cX4_order 18 = .ok (.iconst 1, 1) := by decide +kernel
theorem dX4_order_19 : decode cX4_order 19 = .ok (.invokevirtual 40, 3) := by decide +kernel
theorem dX4_order_22 : decode cX4_order 22 = .ok (.ireturn, 1) := by decide +kernel
theorem dX4_order_23 : decode cX4_order 23 = .ok (.iconst 0, 1) := by decide +kernel
theorem dX4_order_24 : decode cX4_order 24 = .ok (.istore_n 3, 1) := by decide +kernel
theorem dX4_order_25 : decode cX4_order 25 = .ok (.iload_n 3, 1) := by decide +kernel
theorem dX4_order_26 : decode cX4_order 26 = .ok (.aload_n 0, 1) := by decide +kernel
theorem dX4_order_27 : decode cX4_order 27 = .ok (.getfield 34, 3) := by decide +kernel
theorem dX4_order_30 : decode cX4_order 30 = .ok (.if_icmp .ge 108, 3) := by decide +kernel
theorem dX4_order_33 : decode cX4_order 33 = .ok (.aload_n 0, 1) := by decide +kernel
theorem dX4_order_34 : decode cX4_order 34 = .ok (.iload_n 1, 1) := by decide +kernel
theorem dX4_order_35 : decode cX4_order 35 = .ok (.iload_n 3, 1) := by decide +kernel
theorem dX4_order_36 : decode cX4_order 36 = .ok (.invokevirtual 58, 3) := by decide +kernel
theorem dX4_order_39 : decode cX4_order 39 = .ok (.ifCond .ne 6, 3) := by decide +kernel
theorem dX4_order_42 : decode cX4_order 42 = .ok (.goto 90, 3) := by decide +kernel
theorem dX4_order_45 : decode cX4_order 45 = .ok (.iconst 0, 1) := by decide +kernel
theorem dX4_order_46 : decode cX4_order 46 = .ok (.istore 4, 2) := by decide +kernel
theorem dX4_order_48 : decode cX4_order 48 = .ok (.iconst 0, 1) := by decide +kernel
theorem dX4_order_49 : decode cX4_order 49 = .ok (.istore 5, 2) := by decide +kernel
theorem dX4_order_51 : decode cX4_order 51 = .ok (.iload 5, 2) := by decide +kernel
theorem dX4_order_53 : decode cX4_order 53 = .ok (.aload_n 0, 1) := by decide +kernel
theorem dX4_order_54 : decode cX4_order 54 = .ok (.getfield 34, 3) := by decide +kernel
theorem dX4_order_57 : decode cX4_order 57 = .ok (.if_icmp .ge 67, 3) := by decide +kernel
theorem dX4_order_60 : decode cX4_order 60 = .ok (.iload 4, 2) := by decide +kernel
theorem dX4_order_62 : decode cX4_order 62 = .ok (.aload_n 0, 1) := by decide +kernel
theorem dX4_order_63 : decode cX4_order 63 = .ok (.iload_n 1, 1) := by decide +kernel
theorem dX4_order_64 : decode cX4_order 64 = .ok (.iload 5, 2) := by decide +kernel
theorem dX4_order_66 : decode cX4_order 66 = .ok (.invokevirtual 58, 3) := by decide +kernel
theorem dX4_order_69 : decode cX4_order 69 = .ok (.ifCond .eq 45, 3) := by decide +kernel
theorem dX4_order_72 : decode cX4_order 72 = .ok (.aload_n 0, 1) := by decide +kernel
theorem dX4_order_73 : decode cX4_order 73 = .ok (.iload_n 1, 1) := by decide +kernel
theorem dX4_order_74 : decode cX4_order 74 = .ok (.iload 5, 2) := by decide +kernel
theorem dX4_order_76 : decode cX4_order 76 = .ok (.invokevirtual 95, 3) := by decide +kernel
theorem dX4_order_79 : decode cX4_order 79 = .ok (.aload_n 0, 1) := by decide +kernel
theorem dX4_order_80 : decode cX4_order 80 = .ok (.iload_n 1, 1) := by decide +kernel
theorem dX4_order_81 : decode cX4_order 81 = .ok (.iload_n 3, 1) := by decide +kernel
theorem dX4_order_82 : decode cX4_order 82 = .ok (.invokevirtual 95, 3) := by decide +kernel
theorem dX4_order_85 : decode cX4_order 85 = .ok (.if_icmp .lt 25, 3) := by decide +kernel
theorem dX4_order_88 : decode cX4_order 88 = .ok (.aload_n 0, 1) := by decide +kernel
theorem dX4_order_89 : decode cX4_order 89 = .ok (.iload_n 1, 1) := by decide +kernel
theorem dX4_order_90 : decode cX4_order 90 = .ok (.iload 5, 2) := by decide +kernel
theorem dX4_order_92 : decode cX4_order 92 = .ok (.invokevirtual 95, 3) := by decide +kernel
theorem dX4_order_95 : decode cX4_order 95 = .ok (.aload_n 0, 1) := by decide +kernel
theorem dX4_order_96 : decode cX4_order 96 = .ok (.iload_n 1, 1) := by decide +kernel
theorem dX4_order_97 : decode cX4_order 97 = .ok (.iload_n 3, 1) := by decide +kernel
theorem dX4_order_98 : decode cX4_order 98 = .ok (.invokevirtual 95, 3) := by decide +kernel
theorem dX4_order_101 : decode cX4_order 101 = .ok (.if_icmp .ne 13, 3) := by decide +kernel
theorem dX4_order_104 : decode cX4_order 104 = .ok (.iload 5, 2) := by decide +kernel
theorem dX4_order_106 : decode cX4_order 106 = .ok (.iload_n 3, 1) := by decide +kernel
theorem dX4_order_107 : decode cX4_order 107 = .ok (.if_icmp .ge 7, 3) := by decide +kernel
theorem dX4_order_110 : decode cX4_order 110 = .ok (.iconst 1, 1) := by decide +kernel
theorem dX4_order_111 : decode cX4_order 111 = .ok (.goto 4, 3) := by decide +kernel
theorem dX4_order_114 : decode cX4_order 114 = .ok (.iconst 0, 1) := by decide +kernel
theorem dX4_order_115 : decode cX4_order 115 = .ok (.iadd, 1) := by decide +kernel
theorem dX4_order_116 : decode cX4_order 116 = .ok (.istore 4, 2) := by decide +kernel
theorem dX4_order_118 : decode cX4_order 118 = .ok (.iinc 5 1, 3) := by decide +kernel
theorem dX4_order_121 : decode cX4_order 121 = .ok (.goto (-70), 3) := by decide +kernel
theorem dX4_order_124 : decode cX4_order 124 = .ok (.iload 4, 2) := by decide +kernel
theorem dX4_order_126 : decode cX4_order 126 = .ok (.iload_n 2, 1) := by decide +kernel
theorem dX4_order_127 : decode cX4_order 127 = .ok (.if_icmp .ne 5, 3) := by decide +kernel
theorem dX4_order_130 : decode cX4_order 130 = .ok (.iload_n 3, 1) := by decide +kernel
theorem dX4_order_131 : decode cX4_order 131 = .ok (.ireturn, 1) := by decide +kernel
theorem dX4_order_132 : decode cX4_order 132 = .ok (.iinc 3 1, 3) := by decide +kernel
theorem dX4_order_135 : decode cX4_order 135 = .ok (.goto (-110), 3) := by decide +kernel
theorem dX4_order_138 : decode cX4_order 138 = .ok (.iconst (-1), 1) := by decide +kernel
theorem dX4_order_139 : decode cX4_order 139 = .ok (.ireturn, 1) := by decide +kernel
theorem dX4_middle_0 : decode cX4_middle 0 = .ok (.iconst 1, 1) := by decide +kernel
theorem dX4_middle_1 : decode cX4_middle 1 = .ok (.istore_n 2, 1) := by decide +kernel
theorem dX4_middle_2 : decode cX4_middle 2 = .ok (.iload_n 2, 1) := by decide +kernel
theorem dX4_middle_3 : decode cX4_middle 3 = .ok (.iload_n 1, 1) := by decide +kernel
theorem dX4_middle_4 : decode cX4_middle 4 = .ok (.if_icmp .ge 67, 3) := by decide +kernel
theorem dX4_middle_7 : decode cX4_middle 7 = .ok (.aload_n 0, 1) := by decide +kernel
theorem dX4_middle_8 : decode cX4_middle 8 = .ok (.getfield 22, 3) := by decide +kernel
theorem dX4_middle_11 : decode cX4_middle 11 = .ok (.iload_n 2, 1) := by decide +kernel
theorem dX4_middle_12 : decode cX4_middle 12 = .ok (.iaload, 1) := by decide +kernel
theorem dX4_middle_13 : decode cX4_middle 13 = .ok (.istore_n 3, 1) := by decide +kernel
theorem dX4_middle_14 : decode cX4_middle 14 = .ok (.iload_n 2, 1) := by decide +kernel
theorem dX4_middle_15 : decode cX4_middle 15 = .ok (.istore 4, 2) := by decide +kernel
theorem dX4_middle_17 : decode cX4_middle 17 = .ok (.iload 4, 2) := by decide +kernel
theorem dX4_middle_19 : decode cX4_middle 19 = .ok (.ifCond .le 38, 3) := by decide +kernel
theorem dX4_middle_22 : decode cX4_middle 22 = .ok (.aload_n 0, 1) := by decide +kernel
theorem dX4_middle_23 : decode cX4_middle 23 = .ok (.getfield 22, 3) := by decide +kernel
theorem dX4_middle_26 : decode cX4_middle 26 = .ok (.iload 4, 2) := by decide +kernel
theorem dX4_middle_28 : decode cX4_middle 28 = .ok (.iconst 1, 1) := by decide +kernel
theorem dX4_middle_29 : decode cX4_middle 29 = .ok (.isub, 1) := by decide +kernel
theorem dX4_middle_30 : decode cX4_middle 30 = .ok (.iaload, 1) := by decide +kernel
theorem dX4_middle_31 : decode cX4_middle 31 = .ok (.iload_n 3, 1) := by decide +kernel
theorem dX4_middle_32 : decode cX4_middle 32 = .ok (.if_icmp .le 25, 3) := by decide +kernel
theorem dX4_middle_35 : decode cX4_middle 35 = .ok (.aload_n 0, 1) := by decide +kernel
theorem dX4_middle_36 : decode cX4_middle 36 = .ok (.getfield 22, 3) := by decide +kernel
theorem dX4_middle_39 : decode cX4_middle 39 = .ok (.iload 4, 2) := by decide +kernel
theorem dX4_middle_41 : decode cX4_middle 41 = .ok (.aload_n 0, 1) := by decide +kernel
theorem dX4_middle_42 : decode cX4_middle 42 = .ok (.getfield 22, 3) := by decide +kernel
theorem dX4_middle_45 : decode cX4_middle 45 = .ok (.iload 4, 2) := by decide +kernel
theorem dX4_middle_47 : decode cX4_middle 47 = .ok (.iconst 1, 1) := by decide +kernel
theorem dX4_middle_48 : decode cX4_middle 48 = .ok (.isub, 1) := by decide +kernel
theorem dX4_middle_49 : decode cX4_middle 49 = .ok (.iaload, 1) := by decide +kernel
theorem dX4_middle_50 : decode cX4_middle 50 = .ok (.iastore, 1) := by decide +kernel
theorem dX4_middle_51 : decode cX4_middle 51 = .ok (.iinc 4 (-1), 3) := by decide +kernel
theorem dX4_middle_54 : decode cX4_middle 54 = .ok (.goto (-37), 3) := by decide +kernel
theorem dX4_middle_57 : decode cX4_middle 57 = .ok (.aload_n 0, 1) := by decide +kernel
theorem dX4_middle_58 : decode cX4_middle 58 = .ok (.getfield 22, 3) := by decide +kernel
theorem dX4_middle_61 : decode cX4_middle 61 = .ok (.iload 4, 2) := by decide +kernel
theorem dX4_middle_63 : decode cX4_middle 63 = .ok (.iload_n 3, 1) := by decide +kernel
theorem dX4_middle_64 : decode cX4_middle 64 = .ok (.iastore, 1) := by decide +kernel
theorem dX4_middle_65 : decode cX4_middle 65 = .ok (.iinc 2 1, 3) := by decide +kernel
theorem dX4_middle_68 : decode cX4_middle 68 = .ok (.goto (-66), 3) := by decide +kernel
theorem dX4_middle_71 : decode cX4_middle 71 = .ok (.aload_n 0, 1) := by decide +kernel
theorem dX4_middle_72 : decode cX4_middle 72 = .ok (.getfield 22, 3) := by decide +kernel
theorem dX4_middle_75 : decode cX4_middle 75 = .ok (.iload_n 1, 1) := by decide +kernel
theorem dX4_middle_76 : decode cX4_middle 76 = .ok (.iconst 1, 1) := by decide +kernel
theorem dX4_middle_77 : decode cX4_middle 77 = .ok (.isub, 1) := by decide +kernel
theorem dX4_middle_78 : decode cX4_middle 78 = .ok (.iconst 2, 1) := by decide +kernel
theorem dX4_middle_79 : decode cX4_middle 79 = .ok (.idiv, 1) := by decide +kernel
theorem dX4_middle_80 : decode cX4_middle 80 = .ok (.iaload, 1) := by decide +kernel
theorem dX4_middle_81 : decode cX4_middle 81 = .ok (.ireturn, 1) := by decide +kernel
theorem dX4_along_0 : decode cX4_along 0 = .ok (.aload_n 0, 1) := by decide +kernel
theorem dX4_along_1 : decode cX4_along 1 = .ok (.getfield 98, 3) := by decide +kernel
theorem dX4_along_4 : decode cX4_along 4 = .ok (.i2l, 1) := by decide +kernel
theorem dX4_along_5 : decode cX4_along 5 = .ok (.aload_n 0, 1) := by decide +kernel
theorem dX4_along_6 : decode cX4_along 6 = .ok (.iload_n 1, 1) := by decide +kernel
theorem dX4_along_7 : decode cX4_along 7 = .ok (.iconst 0, 1) := by decide +kernel
theorem dX4_along_8 : decode cX4_along 8 = .ok (.invokevirtual 44, 3) := by decide +kernel
theorem dX4_along_11 : decode cX4_along 11 = .ok (.i2l, 1) := by decide +kernel
theorem dX4_along_12 : decode cX4_along 12 = .ok (.lmul, 1) := by decide +kernel
theorem dX4_along_13 : decode cX4_along 13 = .ok (.ldc2_w 101, 3) := by decide +kernel
theorem dX4_along_16 : decode cX4_along 16 = .ok (.ldiv, 1) := by decide +kernel
theorem dX4_along_17 : decode cX4_along 17 = .ok (.l2i, 1) := by decide +kernel
theorem dX4_along_18 : decode cX4_along 18 = .ok (.ireturn, 1) := by decide +kernel
theorem dX4_reckon_0 : decode cX4_reckon 0 = .ok (.aload_n 0, 1) := by decide +kernel
theorem dX4_reckon_1 : decode cX4_reckon 1 = .ok (.iconst 0, 1) := by decide +kernel
theorem dX4_reckon_2 : decode cX4_reckon 2 = .ok (.putfield 103, 3) := by decide +kernel
theorem dX4_reckon_5 : decode cX4_reckon 5 = .ok (.aload_n 0, 1) := by decide +kernel
theorem dX4_reckon_6 : decode cX4_reckon 6 = .ok (.iconst (-1), 1) := by decide +kernel
theorem dX4_reckon_7 : decode cX4_reckon 7 = .ok (.invokevirtual 106, 3) := by decide +kernel
theorem dX4_reckon_10 : decode cX4_reckon 10 = .ok (.istore_n 2, 1) := by decide +kernel
theorem dX4_reckon_11 : decode cX4_reckon 11 = .ok (.iload_n 2, 1) := by decide +kernel
theorem dX4_reckon_12 : decode cX4_reckon 12 = .ok (.iconst (-1), 1) := by decide +kernel
theorem dX4_reckon_13 : decode cX4_reckon 13 = .ok (.if_icmp .eq 64, 3) := by decide +kernel
theorem dX4_reckon_16 : decode cX4_reckon 16 = .ok (.aload_n 0, 1) := by decide +kernel
theorem dX4_reckon_17 : decode cX4_reckon 17 = .ok (.iload_n 1, 1) := by decide +kernel
theorem dX4_reckon_18 : decode cX4_reckon 18 = .ok (.iload_n 2, 1) := by decide +kernel
theorem dX4_reckon_19 : decode cX4_reckon 19 = .ok (.invokevirtual 58, 3) := by decide +kernel
theorem dX4_reckon_22 : decode cX4_reckon 22 = .ok (.ifCond .ne 6, 3) := by decide +kernel
theorem dX4_reckon_25 : decode cX4_reckon 25 = .ok (.goto 38, 3) := by decide +kernel
theorem dX4_reckon_28 : decode cX4_reckon 28 = .ok (.aload_n 0, 1) := by decide +kernel
theorem dX4_reckon_29 : decode cX4_reckon 29 = .ok (.getfield 16, 3) := by decide +kernel
theorem dX4_reckon_32 : decode cX4_reckon 32 = .ok (.aload_n 0, 1) := by decide +kernel
theorem dX4_reckon_33 : decode cX4_reckon 33 = .ok (.getfield 103, 3) := by decide +kernel
theorem dX4_reckon_36 : decode cX4_reckon 36 = .ok (.iload_n 2, 1) := by decide +kernel
theorem dX4_reckon_37 : decode cX4_reckon 37 = .ok (.iastore, 1) := by decide +kernel
theorem dX4_reckon_38 : decode cX4_reckon 38 = .ok (.aload_n 0, 1) := by decide +kernel
theorem dX4_reckon_39 : decode cX4_reckon 39 = .ok (.getfield 19, 3) := by decide +kernel
theorem dX4_reckon_42 : decode cX4_reckon 42 = .ok (.aload_n 0, 1) := by decide +kernel
theorem dX4_reckon_43 : decode cX4_reckon 43 = .ok (.getfield 103, 3) := by decide +kernel
theorem dX4_reckon_46 : decode cX4_reckon 46 = .ok (.aload_n 0, 1) := by decide +kernel
theorem dX4_reckon_47 : decode cX4_reckon 47 = .ok (.iload_n 1, 1) := by decide +kernel
theorem dX4_reckon_48 : decode cX4_reckon 48 = .ok (.iload_n 2, 1) := by decide +kernel
theorem dX4_reckon_49 : decode cX4_reckon 49 = .ok (.invokevirtual 95, 3) := by decide +kernel
theorem dX4_reckon_52 : decode cX4_reckon 52 = .ok (.iastore, 1) := by decide +kernel
theorem dX4_reckon_53 : decode cX4_reckon 53 = .ok (.aload_n 0, 1) := by decide +kernel
theorem dX4_reckon_54 : decode cX4_reckon 54 = .ok (.dup, 1) := by decide +kernel
theorem dX4_reckon_55 : decode cX4_reckon 55 = .ok (.getfield 103, 3) := by decide +kernel
theorem dX4_reckon_58 : decode cX4_reckon 58 = .ok (.iconst 1, 1) := by decide +kernel
theorem dX4_reckon_59 : decode cX4_reckon 59 = .ok (.iadd, 1) := by decide +kernel
theorem dX4_reckon_60 : decode cX4_reckon 60 = .ok (.putfield 103, 3) := by decide +kernel
theorem dX4_reckon_63 : decode cX4_reckon 63 = .ok (.aload_n 0, 1) := by decide +kernel
theorem dX4_reckon_64 : decode cX4_reckon 64 = .ok (.aload_n 0, 1) := by decide +kernel
theorem dX4_reckon_65 : decode cX4_reckon 65 = .ok (.iload_n 2, 1) := by decide +kernel
theorem dX4_reckon_66 : decode cX4_reckon 66 = .ok (.iconst 0, 1) := by decide +kernel
theorem dX4_reckon_67 : decode cX4_reckon 67 = .ok (.invokevirtual 44, 3) := by decide +kernel
theorem dX4_reckon_70 : decode cX4_reckon 70 = .ok (.invokevirtual 106, 3) := by decide +kernel
theorem dX4_reckon_73 : decode cX4_reckon 73 = .ok (.istore_n 2, 1) := by decide +kernel
theorem dX4_reckon_74 : decode cX4_reckon 74 = .ok (.goto (-63), 3) := by decide +kernel
theorem dX4_reckon_77 : decode cX4_reckon 77 = .ok (.aload_n 0, 1) := by decide +kernel
theorem dX4_reckon_78 : decode cX4_reckon 78 = .ok (.ldc 91, 2) := by decide +kernel
theorem dX4_reckon_80 : decode cX4_reckon 80 = .ok (.putfield 98, 3) := by decide +kernel
theorem dX4_reckon_83 : decode cX4_reckon 83 = .ok (.aload_n 0, 1) := by decide +kernel
theorem dX4_reckon_84 : decode cX4_reckon 84 = .ok (.ldc 91, 2) := by decide +kernel
theorem dX4_reckon_86 : decode cX4_reckon 86 = .ok (.putfield 109, 3) := by decide +kernel
theorem dX4_reckon_89 : decode cX4_reckon 89 = .ok (.aload_n 0, 1) := by decide +kernel
theorem dX4_reckon_90 : decode cX4_reckon 90 = .ok (.getfield 103, 3) := by decide +kernel
theorem dX4_reckon_93 : decode cX4_reckon 93 = .ok (.iconst 2, 1) := by decide +kernel
theorem dX4_reckon_94 : decode cX4_reckon 94 = .ok (.if_icmp .ge 4, 3) := by decide +kernel
theorem dX4_reckon_97 : decode cX4_reckon 97 = .ok (.return_, 1) := by decide +kernel
theorem dX4_reckon_98 : decode cX4_reckon 98 = .ok (.iconst 0, 1) := by decide +kernel
theorem dX4_reckon_99 : decode cX4_reckon 99 = .ok (.istore_n 2, 1) := by decide +kernel
theorem dX4_reckon_100 : decode cX4_reckon 100 = .ok (.iconst 0, 1) := by decide +kernel
theorem dX4_reckon_101 : decode cX4_reckon 101 = .ok (.istore_n 3, 1) := by decide +kernel
theorem dX4_reckon_102 : decode cX4_reckon 102 = .ok (.iload_n 3, 1) := by decide +kernel
theorem dX4_reckon_103 : decode cX4_reckon 103 = .ok (.aload_n 0, 1) := by decide +kernel
theorem dX4_reckon_104 : decode cX4_reckon 104 = .ok (.getfield 103, 3) := by decide +kernel
theorem dX4_reckon_107 : decode cX4_reckon 107 = .ok (.if_icmp .ge 80, 3) := by decide +kernel
theorem dX4_reckon_110 : decode cX4_reckon 110 = .ok (.iload_n 3, 1) := by decide +kernel
theorem dX4_reckon_111 : decode cX4_reckon 111 = .ok (.iconst 1, 1) := by decide +kernel
theorem dX4_reckon_112 : decode cX4_reckon 112 = .ok (.iadd, 1) := by decide +kernel
theorem dX4_reckon_113 : decode cX4_reckon 113 = .ok (.istore 4, 2) := by decide +kernel
theorem dX4_reckon_115 : decode cX4_reckon 115 = .ok (.iload 4, 2) := by decide +kernel
theorem dX4_reckon_117 : decode cX4_reckon 117 = .ok (.aload_n 0, 1) := by decide +kernel
theorem dX4_reckon_118 : decode cX4_reckon 118 = .ok (.getfield 103, 3) := by decide +kernel
theorem dX4_reckon_121 : decode cX4_reckon 121 = .ok (.if_icmp .ge 60, 3) := by decide +kernel
theorem dX4_reckon_124 : decode cX4_reckon 124 = .ok (.aload_n 0, 1) := by decide +kernel
theorem dX4_reckon_125 : decode cX4_reckon 125 = .ok (.getfield 22, 3) := by decide +kernel
theorem dX4_reckon_128 : decode cX4_reckon 128 = .ok (.iload_n 2, 1) := by decide +kernel
theorem dX4_reckon_129 : decode cX4_reckon 129 = .ok (.bipush 100, 2) := by decide +kernel
theorem dX4_reckon_131 : decode cX4_reckon 131 = .ok (.aload_n 0, 1) := by decide +kernel
theorem dX4_reckon_132 : decode cX4_reckon 132 = .ok (.getfield 19, 3) := by decide +kernel
theorem dX4_reckon_135 : decode cX4_reckon 135 = .ok (.iload 4, 2) := by decide +kernel
theorem dX4_reckon_137 : decode cX4_reckon 137 = .ok (.iaload, 1) := by decide +kernel
theorem dX4_reckon_138 : decode cX4_reckon 138 = .ok (.aload_n 0, 1) := by decide +kernel
theorem dX4_reckon_139 : decode cX4_reckon 139 = .ok (.getfield 19, 3) := by decide +kernel
theorem dX4_reckon_142 : decode cX4_reckon 142 = .ok (.iload_n 3, 1) := by decide +kernel
theorem dX4_reckon_143 : decode cX4_reckon 143 = .ok (.iaload, 1) := by decide +kernel
theorem dX4_reckon_144 : decode cX4_reckon 144 = .ok (.isub, 1) := by decide +kernel
theorem dX4_reckon_145 : decode cX4_reckon 145 = .ok (.imul, 1) := by decide +kernel
theorem dX4_reckon_146 : decode cX4_reckon 146 = .ok (.aload_n 0, 1) := by decide +kernel
theorem dX4_reckon_147 : decode cX4_reckon 147 = .ok (.aload_n 0, 1) := by decide +kernel
theorem dX4_reckon_148 : decode cX4_reckon 148 = .ok (.getfield 16, 3) := by decide +kernel
theorem dX4_reckon_151 : decode cX4_reckon 151 = .ok (.iload 4, 2) := by decide +kernel
theorem dX4_reckon_153 : decode cX4_reckon 153 = .ok (.iaload, 1) := by decide +kernel
theorem dX4_reckon_154 : decode cX4_reckon 154 = .ok (.iconst 0, 1) := by decide +kernel
theorem dX4_reckon_155 : decode cX4_reckon 155 = .ok (.invokevirtual 44, 3) := by decide +kernel
theorem dX4_reckon_158 : decode cX4_reckon 158 = .ok (.aload_n 0, 1) := by decide +kernel
theorem dX4_reckon_159 : decode cX4_reckon 159 = .ok (.aload_n 0, 1) := by decide +kernel
theorem dX4_reckon_160 : decode cX4_reckon 160 = .ok (.getfield 16, 3) := by decide +kernel
theorem dX4_reckon_163 : decode cX4_reckon 163 = .ok (.iload_n 3, 1) := by decide +kernel
theorem dX4_reckon_164 : decode cX4_reckon 164 = .ok (.iaload, 1) := by decide +kernel
theorem dX4_reckon_165 : decode cX4_reckon 165 = .ok (.iconst 0, 1) := by decide +kernel
theorem dX4_reckon_166 : decode cX4_reckon 166 = .ok (.invokevirtual 44, 3) := by decide +kernel
theorem dX4_reckon_169 : decode cX4_reckon 169 = .ok (.isub, 1) := by decide +kernel
theorem dX4_reckon_170 : decode cX4_reckon 170 = .ok (.idiv, 1) := by decide +kernel
theorem dX4_reckon_171 : decode cX4_reckon 171 = .ok (.iastore, 1) := by decide +kernel
theorem dX4_reckon_172 : decode cX4_reckon 172 = .ok (.iinc 2 1, 3) := by decide +kernel
theorem dX4_reckon_175 : decode cX4_reckon 175 = .ok (.iinc 4 1, 3) := by decide +kernel
theorem dX4_reckon_178 : decode cX4_reckon 178 = .ok (.goto (-63), 3) := by decide +kernel
theorem dX4_reckon_181 : decode cX4_reckon 181 = .ok (.iinc 3 1, 3) := by decide +kernel
theorem dX4_reckon_184 : decode cX4_reckon 184 = .ok (.goto (-82), 3) := by decide +kernel
theorem dX4_reckon_187 : decode cX4_reckon 187 = .ok (.aload_n 0, 1) := by decide +kernel
theorem dX4_reckon_188 : decode cX4_reckon 188 = .ok (.aload_n 0, 1) := by decide +kernel
theorem dX4_reckon_189 : decode cX4_reckon 189 = .ok (.iload_n 2, 1) := by decide +kernel
theorem dX4_reckon_190 : decode cX4_reckon 190 = .ok (.invokevirtual 112, 3) := by decide +kernel
theorem dX4_reckon_193 : decode cX4_reckon 193 = .ok (.putfield 98, 3) := by decide +kernel
theorem dX4_reckon_196 : decode cX4_reckon 196 = .ok (.iconst 0, 1) := by decide +kernel
theorem dX4_reckon_197 : decode cX4_reckon 197 = .ok (.istore_n 3, 1) := by decide +kernel
theorem dX4_reckon_198 : decode cX4_reckon 198 = .ok (.iload_n 3, 1) := by decide +kernel
theorem dX4_reckon_199 : decode cX4_reckon 199 = .ok (.aload_n 0, 1) := by decide +kernel
theorem dX4_reckon_200 : decode cX4_reckon 200 = .ok (.getfield 103, 3) := by decide +kernel
theorem dX4_reckon_203 : decode cX4_reckon 203 = .ok (.if_icmp .ge 32, 3) := by decide +kernel
theorem dX4_reckon_206 : decode cX4_reckon 206 = .ok (.aload_n 0, 1) := by decide +kernel
theorem dX4_reckon_207 : decode cX4_reckon 207 = .ok (.getfield 22, 3) := by decide +kernel
theorem dX4_reckon_210 : decode cX4_reckon 210 = .ok (.iload_n 3, 1) := by decide +kernel
theorem dX4_reckon_211 : decode cX4_reckon 211 = .ok (.aload_n 0, 1) := by decide +kernel
theorem dX4_reckon_212 : decode cX4_reckon 212 = .ok (.getfield 19, 3) := by decide +kernel
theorem dX4_reckon_215 : decode cX4_reckon 215 = .ok (.iload_n 3, 1) := by decide +kernel
theorem dX4_reckon_216 : decode cX4_reckon 216 = .ok (.iaload, 1) := by decide +kernel
theorem dX4_reckon_217 : decode cX4_reckon 217 = .ok (.aload_n 0, 1) := by decide +kernel
theorem dX4_reckon_218 : decode cX4_reckon 218 = .ok (.aload_n 0, 1) := by decide +kernel
theorem dX4_reckon_219 : decode cX4_reckon 219 = .ok (.getfield 16, 3) := by decide +kernel
theorem dX4_reckon_222 : decode cX4_reckon 222 = .ok (.iload_n 3, 1) := by decide +kernel
theorem dX4_reckon_223 : decode cX4_reckon 223 = .ok (.iaload, 1) := by decide +kernel
theorem dX4_reckon_224 : decode cX4_reckon 224 = .ok (.invokevirtual 115, 3) := by decide +kernel
theorem dX4_reckon_227 : decode cX4_reckon 227 = .ok (.isub, 1) := by decide +kernel
theorem dX4_reckon_228 : decode cX4_reckon 228 = .ok (.iastore, 1) := by decide +kernel
theorem dX4_reckon_229 : decode cX4_reckon 229 = .ok (.iinc 3 1, 3) := by decide +kernel
theorem dX4_reckon_232 : decode cX4_reckon 232 = .ok (.goto (-34), 3) := by decide +kernel
theorem dX4_reckon_235 : decode cX4_reckon 235 = .ok (.aload_n 0, 1) := by decide +kernel
theorem dX4_reckon_236 : decode cX4_reckon 236 = .ok (.aload_n 0, 1) := by decide +kernel
theorem dX4_reckon_237 : decode cX4_reckon 237 = .ok (.aload_n 0, 1) := by decide +kernel
theorem dX4_reckon_238 : decode cX4_reckon 238 = .ok (.getfield 103, 3) := by decide +kernel
theorem dX4_reckon_241 : decode cX4_reckon 241 = .ok (.invokevirtual 112, 3) := by decide +kernel
theorem dX4_reckon_244 : decode cX4_reckon 244 = .ok (.putfield 109, 3) := by decide +kernel
theorem dX4_reckon_247 : decode cX4_reckon 247 = .ok (.return_, 1) := by decide +kernel
theorem dX4_next_0 : decode cX4_next 0 = .ok (.iconst (-1), 1) := by decide +kernel
theorem dX4_next_1 : decode cX4_next 1 = .ok (.istore_n 2, 1) := by decide +kernel
theorem dX4_next_2 : decode cX4_next 2 = .ok (.iconst 0, 1) := by decide +kernel
theorem dX4_next_3 : decode cX4_next 3 = .ok (.istore_n 3, 1) := by decide +kernel
theorem dX4_next_4 : decode cX4_next 4 = .ok (.iload_n 3, 1) := by decide +kernel
theorem dX4_next_5 : decode cX4_next 5 = .ok (.aload_n 0, 1) := by decide +kernel
theorem dX4_next_6 : decode cX4_next 6 = .ok (.getfield 34, 3) := by decide +kernel
theorem dX4_next_9 : decode cX4_next 9 = .ok (.if_icmp .ge 41, 3) := by decide +kernel
theorem dX4_next_12 : decode cX4_next 12 = .ok (.aload_n 0, 1) := by decide +kernel
theorem dX4_next_13 : decode cX4_next 13 = .ok (.iload_n 3, 1) := by decide +kernel
theorem dX4_next_14 : decode cX4_next 14 = .ok (.iconst 0, 1) := by decide +kernel
theorem dX4_next_15 : decode cX4_next 15 = .ok (.invokevirtual 44, 3) := by decide +kernel
theorem dX4_next_18 : decode cX4_next 18 = .ok (.iload_n 1, 1) := by decide +kernel
theorem dX4_next_19 : decode cX4_next 19 = .ok (.if_icmp .le 25, 3) := by decide +kernel
theorem dX4_next_22 : decode cX4_next 22 = .ok (.iload_n 2, 1) := by decide +kernel
theorem dX4_next_23 : decode cX4_next 23 = .ok (.iconst (-1), 1) := by decide +kernel
theorem dX4_next_24 : decode cX4_next 24 = .ok (.if_icmp .eq 18, 3) := by decide +kernel
theorem dX4_next_27 : decode cX4_next 27 = .ok (.aload_n 0, 1) := by decide +kernel
theorem dX4_next_28 : decode cX4_next 28 = .ok (.iload_n 3, 1) := by decide +kernel
theorem dX4_next_29 : decode cX4_next 29 = .ok (.iconst 0, 1) := by decide +kernel
theorem dX4_next_30 : decode cX4_next 30 = .ok (.invokevirtual 44, 3) := by decide +kernel
theorem dX4_next_33 : decode cX4_next 33 = .ok (.aload_n 0, 1) := by decide +kernel
theorem dX4_next_34 : decode cX4_next 34 = .ok (.iload_n 2, 1) := by decide +kernel
theorem dX4_next_35 : decode cX4_next 35 = .ok (.iconst 0, 1) := by decide +kernel
theorem dX4_next_36 : decode cX4_next 36 = .ok (.invokevirtual 44, 3) := by decide +kernel
theorem dX4_next_39 : decode cX4_next 39 = .ok (.if_icmp .ge 5, 3) := by decide +kernel
theorem dX4_next_42 : decode cX4_next 42 = .ok (.iload_n 3, 1) := by decide +kernel
theorem dX4_next_43 : decode cX4_next 43 = .ok (.istore_n 2, 1) := by decide +kernel
theorem dX4_next_44 : decode cX4_next 44 = .ok (.iinc 3 1, 3) := by decide +kernel
theorem dX4_next_47 : decode cX4_next 47 = .ok (.goto (-43), 3) := by decide +kernel
theorem dX4_next_50 : decode cX4_next 50 = .ok (.iload_n 2, 1) := by decide +kernel
theorem dX4_next_51 : decode cX4_next 51 = .ok (.ireturn, 1) := by decide +kernel
theorem dX4_left_0 : decode cX4_left 0 = .ok (.aload_n 0, 1) := by decide +kernel
theorem dX4_left_1 : decode cX4_left 1 = .ok (.getfield 19, 3) := by decide +kernel
theorem dX4_left_4 : decode cX4_left 4 = .ok (.iload_n 1, 1) := by decide +kernel
theorem dX4_left_5 : decode cX4_left 5 = .ok (.iaload, 1) := by decide +kernel
theorem dX4_left_6 : decode cX4_left 6 = .ok (.aload_n 0, 1) := by decide +kernel
theorem dX4_left_7 : decode cX4_left 7 = .ok (.aload_n 0, 1) := by decide +kernel
theorem dX4_left_8 : decode cX4_left 8 = .ok (.getfield 16, 3) := by decide +kernel
theorem dX4_left_11 : decode cX4_left 11 = .ok (.iload_n 1, 1) := by decide +kernel
theorem dX4_left_12 : decode cX4_left 12 = .ok (.iaload, 1) := by decide +kernel
theorem dX4_left_13 : decode cX4_left 13 = .ok (.invokevirtual 115, 3) := by decide +kernel
theorem dX4_left_16 : decode cX4_left 16 = .ok (.isub, 1) := by decide +kernel
theorem dX4_left_17 : decode cX4_left 17 = .ok (.aload_n 0, 1) := by decide +kernel
theorem dX4_left_18 : decode cX4_left 18 = .ok (.getfield 109, 3) := by decide +kernel
theorem dX4_left_21 : decode cX4_left 21 = .ok (.isub, 1) := by decide +kernel
theorem dX4_left_22 : decode cX4_left 22 = .ok (.ireturn, 1) := by decide +kernel
theorem dX4_odd_0 : decode cX4_odd 0 = .ok (.iconst 0, 1) := by decide +kernel
theorem dX4_odd_1 : decode cX4_odd 1 = .ok (.istore_n 1, 1) := by decide +kernel
theorem dX4_odd_2 : decode cX4_odd 2 = .ok (.iconst 1, 1) := by decide +kernel
theorem dX4_odd_3 : decode cX4_odd 3 = .ok (.istore_n 2, 1) := by decide +kernel
theorem dX4_odd_4 : decode cX4_odd 4 = .ok (.iload_n 2, 1) := by decide +kernel
theorem dX4_odd_5 : decode cX4_odd 5 = .ok (.aload_n 0, 1) := by decide +kernel
theorem dX4_odd_6 : decode cX4_odd 6 = .ok (.getfield 103, 3) := by decide +kernel
theorem dX4_odd_9 : decode cX4_odd 9 = .ok (.if_icmp .ge 52, 3) := by decide +kernel
theorem dX4_odd_12 : decode cX4_odd 12 = .ok (.aload_n 0, 1) := by decide +kernel
theorem dX4_odd_13 : decode cX4_odd 13 = .ok (.iload_n 2, 1) := by decide +kernel
theorem dX4_odd_14 : decode cX4_odd 14 = .ok (.invokevirtual 118, 3) := by decide +kernel
theorem dX4_odd_17 : decode cX4_odd 17 = .ok (.invokestatic 83, 3) := by decide +kernel
theorem dX4_odd_20 : decode cX4_odd 20 = .ok (.aload_n 0, 1) := by decide +kernel
theorem dX4_odd_21 : decode cX4_odd 21 = .ok (.iload_n 1, 1) := by decide +kernel
theorem dX4_odd_22 : decode cX4_odd 22 = .ok (.invokevirtual 118, 3) := by decide +kernel
theorem dX4_odd_25 : decode cX4_odd 25 = .ok (.invokestatic 83, 3) := by decide +kernel
theorem dX4_odd_28 : decode cX4_odd 28 = .ok (.isub, 1) := by decide +kernel
theorem dX4_odd_29 : decode cX4_odd 29 = .ok (.istore_n 3, 1) := by decide +kernel
theorem dX4_odd_30 : decode cX4_odd 30 = .ok (.iload_n 3, 1) := by decide +kernel
theorem dX4_odd_31 : decode cX4_odd 31 = .ok (.ifCond .gt 22, 3) := by decide +kernel
theorem dX4_odd_34 : decode cX4_odd 34 = .ok (.iload_n 3, 1) := by decide +kernel
theorem dX4_odd_35 : decode cX4_odd 35 = .ok (.ifCond .ne 20, 3) := by decide +kernel
theorem dX4_odd_38 : decode cX4_odd 38 = .ok (.aload_n 0, 1) := by decide +kernel
theorem dX4_odd_39 : decode cX4_odd 39 = .ok (.getfield 16, 3) := by decide +kernel
theorem dX4_odd_42 : decode cX4_odd 42 = .ok (.iload_n 2, 1) := by decide +kernel
theorem dX4_odd_43 : decode cX4_odd 43 = .ok (.iaload, 1) := by decide +kernel
theorem dX4_odd_44 : decode cX4_odd 44 = .ok (.aload_n 0, 1) := by decide +kernel
theorem dX4_odd_45 : decode cX4_odd 45 = .ok (.getfield 16, 3) := by decide +kernel
theorem dX4_odd_48 : decode cX4_odd 48 = .ok (.iload_n 1, 1) := by decide +kernel
theorem dX4_odd_49 : decode cX4_odd 49 = .ok (.iaload, 1) := by decide +kernel
theorem dX4_odd_50 : decode cX4_odd 50 = .ok (.if_icmp .ge 5, 3) := by decide +kernel
theorem dX4_odd_53 : decode cX4_odd 53 = .ok (.iload_n 2, 1) := by decide +kernel
theorem dX4_odd_54 : decode cX4_odd 54 = .ok (.istore_n 1, 1) := by decide +kernel
theorem dX4_odd_55 : decode cX4_odd 55 = .ok (.iinc 2 1, 3) := by decide +kernel
theorem dX4_odd_58 : decode cX4_odd 58 = .ok (.goto (-54), 3) := by decide +kernel
theorem dX4_odd_61 : decode cX4_odd 61 = .ok (.iload_n 1, 1) := by decide +kernel
theorem dX4_odd_62 : decode cX4_odd 62 = .ok (.ireturn, 1) := by decide +kernel
theorem dX4_steady_0 : decode cX4_steady 0 = .ok (.iconst 0, 1) := by decide +kernel
theorem dX4_steady_1 : decode cX4_steady 1 = .ok (.istore_n 2, 1) := by decide +kernel
theorem dX4_steady_2 : decode cX4_steady 2 = .ok (.iconst 0, 1) := by decide +kernel
theorem dX4_steady_3 : decode cX4_steady 3 = .ok (.istore_n 3, 1) := by decide +kernel
theorem dX4_steady_4 : decode cX4_steady 4 = .ok (.iload_n 3, 1) := by decide +kernel
theorem dX4_steady_5 : decode cX4_steady 5 = .ok (.aload_n 0, 1) := by decide +kernel
theorem dX4_steady_6 : decode cX4_steady 6 = .ok (.getfield 103, 3) := by decide +kernel
theorem dX4_steady_9 : decode cX4_steady 9 = .ok (.if_icmp .ge 86, 3) := by decide +kernel
theorem dX4_steady_12 : decode cX4_steady 12 = .ok (.aload_n 0, 1) := by decide +kernel
theorem dX4_steady_13 : decode cX4_steady 13 = .ok (.getfield 22, 3) := by decide +kernel
theorem dX4_steady_16 : decode cX4_steady 16 = .ok (.iload_n 3, 1) := by decide +kernel
theorem dX4_steady_17 : decode cX4_steady 17 = .ok (.iconst 1, 1) := by decide +kernel
theorem dX4_steady_18 : decode cX4_steady 18 = .ok (.iastore, 1) := by decide +kernel
theorem dX4_steady_19 : decode cX4_steady 19 = .ok (.iconst 0, 1) := by decide +kernel
theorem dX4_steady_20 : decode cX4_steady 20 = .ok (.istore 4, 2) := by decide +kernel
theorem dX4_steady_22 : decode cX4_steady 22 = .ok (.iload 4, 2) := by decide +kernel
theorem dX4_steady_24 : decode cX4_steady 24 = .ok (.iload_n 3, 1) := by decide +kernel
theorem dX4_steady_25 : decode cX4_steady 25 = .ok (.if_icmp .ge 53, 3) := by decide +kernel
theorem dX4_steady_28 : decode cX4_steady 28 = .ok (.iload_n 1, 1) := by decide +kernel
theorem dX4_steady_29 : decode cX4_steady 29 = .ok (.aload_n 0, 1) := by decide +kernel
theorem dX4_steady_30 : decode cX4_steady 30 = .ok (.getfield 19, 3) := by decide +kernel
theorem dX4_steady_33 : decode cX4_steady 33 = .ok (.iload 4, 2) := by decide +kernel
theorem dX4_steady_35 : decode cX4_steady 35 = .ok (.iaload, 1) := by decide +kernel
theorem dX4_steady_36 : decode cX4_steady 36 = .ok (.imul, 1) := by decide +kernel
theorem dX4_steady_37 : decode cX4_steady 37 = .ok (.iload_n 1, 1) := by decide +kernel
theorem dX4_steady_38 : decode cX4_steady 38 = .ok (.aload_n 0, 1) := by decide +kernel
theorem dX4_steady_39 : decode cX4_steady 39 = .ok (.getfield 19, 3) := by decide +kernel
theorem dX4_steady_42 : decode cX4_steady 42 = .ok (.iload_n 3, 1) := by decide +kernel
theorem dX4_steady_43 : decode cX4_steady 43 = .ok (.iaload, 1) := by decide +kernel
theorem dX4_steady_44 : decode cX4_steady 44 = .ok (.imul, 1) := by decide +kernel
theorem dX4_steady_45 : decode cX4_steady 45 = .ok (.if_icmp .gt 27, 3) := by decide +kernel
theorem dX4_steady_48 : decode cX4_steady 48 = .ok (.aload_n 0, 1) := by decide +kernel
theorem dX4_steady_49 : decode cX4_steady 49 = .ok (.getfield 22, 3) := by decide +kernel
theorem dX4_steady_52 : decode cX4_steady 52 = .ok (.iload_n 3, 1) := by decide +kernel
theorem dX4_steady_53 : decode cX4_steady 53 = .ok (.aload_n 0, 1) := by decide +kernel
theorem dX4_steady_54 : decode cX4_steady 54 = .ok (.getfield 22, 3) := by decide +kernel
theorem dX4_steady_57 : decode cX4_steady 57 = .ok (.iload_n 3, 1) := by decide +kernel
theorem dX4_steady_58 : decode cX4_steady 58 = .ok (.iaload, 1) := by decide +kernel
theorem dX4_steady_59 : decode cX4_steady 59 = .ok (.aload_n 0, 1) := by decide +kernel
theorem dX4_steady_60 : decode cX4_steady 60 = .ok (.getfield 22, 3) := by decide +kernel
theorem dX4_steady_63 : decode cX4_steady 63 = .ok (.iload 4, 2) := by decide +kernel
theorem dX4_steady_65 : decode cX4_steady 65 = .ok (.iaload, 1) := by decide +kernel
theorem dX4_steady_66 : decode cX4_steady 66 = .ok (.iconst 1, 1) := by decide +kernel
theorem dX4_steady_67 : decode cX4_steady 67 = .ok (.iadd, 1) := by decide +kernel
theorem dX4_steady_68 : decode cX4_steady 68 = .ok (.invokestatic 121, 3) := by decide +kernel
theorem dX4_steady_71 : decode cX4_steady 71 = .ok (.iastore, 1) := by decide +kernel
theorem dX4_steady_72 : decode cX4_steady 72 = .ok (.iinc 4 1, 3) := by decide +kernel
theorem dX4_steady_75 : decode cX4_steady 75 = .ok (.goto (-53), 3) := by decide +kernel
theorem dX4_steady_78 : decode cX4_steady 78 = .ok (.iload_n 2, 1) := by decide +kernel
theorem dX4_steady_79 : decode cX4_steady 79 = .ok (.aload_n 0, 1) := by decide +kernel
theorem dX4_steady_80 : decode cX4_steady 80 = .ok (.getfield 22, 3) := by decide +kernel
theorem dX4_steady_83 : decode cX4_steady 83 = .ok (.iload_n 3, 1) := by decide +kernel
theorem dX4_steady_84 : decode cX4_steady 84 = .ok (.iaload, 1) := by decide +kernel
theorem dX4_steady_85 : decode cX4_steady 85 = .ok (.invokestatic 121, 3) := by decide +kernel
theorem dX4_steady_88 : decode cX4_steady 88 = .ok (.istore_n 2, 1) := by decide +kernel
theorem dX4_steady_89 : decode cX4_steady 89 = .ok (.iinc 3 1, 3) := by decide +kernel
theorem dX4_steady_92 : decode cX4_steady 92 = .ok (.goto (-88), 3) := by decide +kernel
theorem dX4_steady_95 : decode cX4_steady 95 = .ok (.iload_n 2, 1) := by decide +kernel
theorem dX4_steady_96 : decode cX4_steady 96 = .ok (.ireturn, 1) := by decide +kernel
theorem dX4_haloTold_0 : decode cX4_haloTold 0 = .ok (.aload_n 0, 1) := by decide +kernel
theorem dX4_haloTold_1 : decode cX4_haloTold 1 = .ok (.iload_n 1, 1) := by decide +kernel
theorem dX4_haloTold_2 : decode cX4_haloTold 2 = .ok (.invokevirtual 124, 3) := by decide +kernel
theorem dX4_haloTold_5 : decode cX4_haloTold 5 = .ok (.iconst 0, 1) := by decide +kernel
theorem dX4_haloTold_6 : decode cX4_haloTold 6 = .ok (.istore_n 3, 1) := by decide +kernel
theorem dX4_haloTold_7 : decode cX4_haloTold 7 = .ok (.iload_n 2, 1) := by decide +kernel
theorem dX4_haloTold_8 : decode cX4_haloTold 8 = .ok (.tableswitch 114 0 5 #[40, 45, 50, 55, 78, 100], 40) := by decide +kernel
theorem dX4_haloTold_48 : decode cX4_haloTold 48 = .ok (.aload_n 0, 1) := by decide +kernel
theorem dX4_haloTold_49 : decode cX4_haloTold 49 = .ok (.getfield 103, 3) := by decide +kernel
theorem dX4_haloTold_52 : decode cX4_haloTold 52 = .ok (.ireturn, 1) := by decide +kernel
theorem dX4_haloTold_53 : decode cX4_haloTold 53 = .ok (.aload_n 0, 1) := by decide +kernel
theorem dX4_haloTold_54 : decode cX4_haloTold 54 = .ok (.getfield 98, 3) := by decide +kernel
theorem dX4_haloTold_57 : decode cX4_haloTold 57 = .ok (.ireturn, 1) := by decide +kernel
theorem dX4_haloTold_58 : decode cX4_haloTold 58 = .ok (.aload_n 0, 1) := by decide +kernel
theorem dX4_haloTold_59 : decode cX4_haloTold 59 = .ok (.getfield 109, 3) := by decide +kernel
theorem dX4_haloTold_62 : decode cX4_haloTold 62 = .ok (.ireturn, 1) := by decide +kernel
theorem dX4_haloTold_63 : decode cX4_haloTold 63 = .ok (.aload_n 0, 1) := by decide +kernel
theorem dX4_haloTold_64 : decode cX4_haloTold 64 = .ok (.getfield 103, 3) := by decide +kernel
theorem dX4_haloTold_67 : decode cX4_haloTold 67 = .ok (.iconst 2, 1) := by decide +kernel
theorem dX4_haloTold_68 : decode cX4_haloTold 68 = .ok (.if_icmp .ge 8, 3) := by decide +kernel
theorem dX4_haloTold_71 : decode cX4_haloTold 71 = .ok (.ldc 91, 2) := by decide +kernel
theorem dX4_haloTold_73 : decode cX4_haloTold 73 = .ok (.goto 12, 3) := by decide +kernel
theorem dX4_haloTold_76 : decode cX4_haloTold 76 = .ok (.aload_n 0, 1) := by decide +kernel
theorem dX4_haloTold_77 : decode cX4_haloTold 77 = .ok (.getfield 16, 3) := by decide +kernel
theorem dX4_haloTold_80 : decode cX4_haloTold 80 = .ok (.aload_n 0, 1) := by decide +kernel
theorem dX4_haloTold_81 : decode cX4_haloTold 81 = .ok (.invokevirtual 128, 3) := by decide +kernel
theorem dX4_haloTold_84 : decode cX4_haloTold 84 = .ok (.iaload, 1) := by decide +kernel
theorem dX4_haloTold_85 : decode cX4_haloTold 85 = .ok (.ireturn, 1) := by decide +kernel
theorem dX4_haloTold_86 : decode cX4_haloTold 86 = .ok (.aload_n 0, 1) := by decide +kernel
theorem dX4_haloTold_87 : decode cX4_haloTold 87 = .ok (.getfield 103, 3) := by decide +kernel
theorem dX4_haloTold_90 : decode cX4_haloTold 90 = .ok (.iconst 2, 1) := by decide +kernel
theorem dX4_haloTold_91 : decode cX4_haloTold 91 = .ok (.if_icmp .ge 8, 3) := by decide +kernel
theorem dX4_haloTold_94 : decode cX4_haloTold 94 = .ok (.ldc 91, 2) := by decide +kernel
theorem dX4_haloTold_96 : decode cX4_haloTold 96 = .ok (.goto 11, 3) := by decide +kernel
theorem dX4_haloTold_99 : decode cX4_haloTold 99 = .ok (.aload_n 0, 1) := by decide +kernel
theorem dX4_haloTold_100 : decode cX4_haloTold 100 = .ok (.aload_n 0, 1) := by decide +kernel
theorem dX4_haloTold_101 : decode cX4_haloTold 101 = .ok (.invokevirtual 128, 3) := by decide +kernel
theorem dX4_haloTold_104 : decode cX4_haloTold 104 = .ok (.invokevirtual 118, 3) := by decide +kernel
theorem dX4_haloTold_107 : decode cX4_haloTold 107 = .ok (.ireturn, 1) := by decide +kernel
theorem dX4_haloTold_108 : decode cX4_haloTold 108 = .ok (.aload_n 0, 1) := by decide +kernel
theorem dX4_haloTold_109 : decode cX4_haloTold 109 = .ok (.iconst 1, 1) := by decide +kernel
theorem dX4_haloTold_110 : decode cX4_haloTold 110 = .ok (.invokevirtual 132, 3) := by decide +kernel
theorem dX4_haloTold_113 : decode cX4_haloTold 113 = .ok (.aload_n 0, 1) := by decide +kernel
theorem dX4_haloTold_114 : decode cX4_haloTold 114 = .ok (.iconst (-1), 1) := by decide +kernel
theorem dX4_haloTold_115 : decode cX4_haloTold 115 = .ok (.invokevirtual 132, 3) := by decide +kernel
theorem dX4_haloTold_118 : decode cX4_haloTold 118 = .ok (.invokestatic 121, 3) := by decide +kernel
theorem dX4_haloTold_121 : decode cX4_haloTold 121 = .ok (.ireturn, 1) := by decide +kernel
theorem dX4_haloTold_122 : decode cX4_haloTold 122 = .ok (.iconst 0, 1) := by decide +kernel
theorem dX4_haloTold_123 : decode cX4_haloTold 123 = .ok (.istore 4, 2) := by decide +kernel
theorem dX4_haloTold_125 : decode cX4_haloTold 125 = .ok (.iload 4, 2) := by decide +kernel
theorem dX4_haloTold_127 : decode cX4_haloTold 127 = .ok (.aload_n 0, 1) := by decide +kernel
theorem dX4_haloTold_128 : decode cX4_haloTold 128 = .ok (.getfield 103, 3) := by decide +kernel
theorem dX4_haloTold_131 : decode cX4_haloTold 131 = .ok (.if_icmp .ge 55, 3) := by decide +kernel
theorem dX4_haloTold_134 : decode cX4_haloTold 134 = .ok (.iload 4, 2) := by decide +kernel
theorem dX4_haloTold_136 : decode cX4_haloTold 136 = .ok (.iconst 1, 1) := by decide +kernel
theorem dX4_haloTold_137 : decode cX4_haloTold 137 = .ok (.iadd, 1) := by decide +kernel
theorem dX4_haloTold_138 : decode cX4_haloTold 138 = .ok (.istore 5, 2) := by decide +kernel
theorem dX4_haloTold_140 : decode cX4_haloTold 140 = .ok (.iload 5, 2) := by decide +kernel
theorem dX4_haloTold_142 : decode cX4_haloTold 142 = .ok (.aload_n 0, 1) := by decide +kernel
theorem dX4_haloTold_143 : decode cX4_haloTold 143 = .ok (.getfield 103, 3) := by decide +kernel
theorem dX4_haloTold_146 : decode cX4_haloTold 146 = .ok (.if_icmp .ge 34, 3) := by decide +kernel
theorem dX4_haloTold_149 : decode cX4_haloTold 149 = .ok (.iload_n 3, 1) := by decide +kernel
theorem dX4_haloTold_150 : decode cX4_haloTold 150 = .ok (.aload_n 0, 1) := by decide +kernel
theorem dX4_haloTold_151 : decode cX4_haloTold 151 = .ok (.getfield 19, 3) := by decide +kernel
theorem dX4_haloTold_154 : decode cX4_haloTold 154 = .ok (.iload 5, 2) := by decide +kernel
theorem dX4_haloTold_156 : decode cX4_haloTold 156 = .ok (.iaload, 1) := by decide +kernel
theorem dX4_haloTold_157 : decode cX4_haloTold 157 = .ok (.aload_n 0, 1) := by decide +kernel
theorem dX4_haloTold_158 : decode cX4_haloTold 158 = .ok (.getfield 19, 3) := by decide +kernel
theorem dX4_haloTold_161 : decode cX4_haloTold 161 = .ok (.iload 4, 2) := by decide +kernel
theorem dX4_haloTold_163 : decode cX4_haloTold 163 = .ok (.iaload, 1) := by decide +kernel
theorem dX4_haloTold_164 : decode cX4_haloTold 164 = .ok (.if_icmp .ge 7, 3) := by decide +kernel
theorem dX4_haloTold_167 : decode cX4_haloTold 167 = .ok (.iconst 1, 1) := by decide +kernel
theorem dX4_haloTold_168 : decode cX4_haloTold 168 = .ok (.goto 4, 3) := by decide +kernel
theorem dX4_haloTold_171 : decode cX4_haloTold 171 = .ok (.iconst 0, 1) := by decide +kernel
theorem dX4_haloTold_172 : decode cX4_haloTold 172 = .ok (.iadd, 1) := by decide +kernel
theorem dX4_haloTold_173 : decode cX4_haloTold 173 = .ok (.istore_n 3, 1) := by decide +kernel
theorem dX4_haloTold_174 : decode cX4_haloTold 174 = .ok (.iinc 5 1, 3) := by decide +kernel
theorem dX4_haloTold_177 : decode cX4_haloTold 177 = .ok (.goto (-37), 3) := by decide +kernel
theorem dX4_haloTold_180 : decode cX4_haloTold 180 = .ok (.iinc 4 1, 3) := by decide +kernel
theorem dX4_haloTold_183 : decode cX4_haloTold 183 = .ok (.goto (-58), 3) := by decide +kernel
theorem dX4_haloTold_186 : decode cX4_haloTold 186 = .ok (.iload_n 3, 1) := by decide +kernel
theorem dX4_haloTold_187 : decode cX4_haloTold 187 = .ok (.ireturn, 1) := by decide +kernel
theorem dX4_halo_0 : decode cX4_halo 0 = .ok (.aload_n 0, 1) := by decide +kernel
theorem dX4_halo_1 : decode cX4_halo 1 = .ok (.iconst 0, 1) := by decide +kernel
theorem dX4_halo_2 : decode cX4_halo 2 = .ok (.putfield 25, 3) := by decide +kernel
theorem dX4_halo_5 : decode cX4_halo 5 = .ok (.aload_n 0, 1) := by decide +kernel
theorem dX4_halo_6 : decode cX4_halo 6 = .ok (.iload_n 1, 1) := by decide +kernel
theorem dX4_halo_7 : decode cX4_halo 7 = .ok (.invokevirtual 92, 3) := by decide +kernel
theorem dX4_halo_10 : decode cX4_halo 10 = .ok (.ifCond .eq 22, 3) := by decide +kernel
theorem dX4_halo_13 : decode cX4_halo 13 = .ok (.iload_n 2, 1) := by decide +kernel
theorem dX4_halo_14 : decode cX4_halo 14 = .ok (.iconst 0, 1) := by decide +kernel
theorem dX4_halo_15 : decode cX4_halo 15 = .ok (.bipush 6, 2) := by decide +kernel
theorem dX4_halo_17 : decode cX4_halo 17 = .ok (.invokestatic 30, 3) := by decide +kernel
theorem dX4_halo_20 : decode cX4_halo 20 = .ok (.ifCond .eq 12, 3) := by decide +kernel
theorem dX4_halo_23 : decode cX4_halo 23 = .ok (.aload_n 0, 1) := by decide +kernel
theorem dX4_halo_24 : decode cX4_halo 24 = .ok (.iload_n 1, 1) := by decide +kernel
theorem dX4_halo_25 : decode cX4_halo 25 = .ok (.iload_n 2, 1) := by decide +kernel
theorem dX4_halo_26 : decode cX4_halo 26 = .ok (.invokevirtual 135, 3) := by decide +kernel
theorem dX4_halo_29 : decode cX4_halo 29 = .ok (.goto 8, 3) := by decide +kernel
theorem dX4_halo_32 : decode cX4_halo 32 = .ok (.aload_n 0, 1) := by decide +kernel
theorem dX4_halo_33 : decode cX4_halo 33 = .ok (.iconst 1, 1) := by decide +kernel
theorem dX4_halo_34 : decode cX4_halo 34 = .ok (.invokevirtual 40, 3) := by decide +kernel
theorem dX4_halo_37 : decode cX4_halo 37 = .ok (.ireturn, 1) := by decide +kernel
theorem dX4_guessOf_0 : decode cX4_guessOf 0 = .ok (.aload_n 0, 1) := by decide +kernel
theorem dX4_guessOf_1 : decode cX4_guessOf 1 = .ok (.getfield 103, 3) := by decide +kernel
theorem dX4_guessOf_4 : decode cX4_guessOf 4 = .ok (.iconst 2, 1) := by decide +kernel
theorem dX4_guessOf_5 : decode cX4_guessOf 5 = .ok (.if_icmp .ge 8, 3) := by decide +kernel
theorem dX4_guessOf_8 : decode cX4_guessOf 8 = .ok (.ldc 91, 2) := by decide +kernel
theorem dX4_guessOf_10 : decode cX4_guessOf 10 = .ok (.goto 13, 3) := by decide +kernel
theorem dX4_guessOf_13 : decode cX4_guessOf 13 = .ok (.aload_n 0, 1) := by decide +kernel
theorem dX4_guessOf_14 : decode cX4_guessOf 14 = .ok (.getfield 109, 3) := by decide +kernel
theorem dX4_guessOf_17 : decode cX4_guessOf 17 = .ok (.aload_n 0, 1) := by decide +kernel
theorem dX4_guessOf_18 : decode cX4_guessOf 18 = .ok (.iload_n 1, 1) := by decide +kernel
theorem dX4_guessOf_19 : decode cX4_guessOf 19 = .ok (.invokevirtual 115, 3) := by decide +kernel
theorem dX4_guessOf_22 : decode cX4_guessOf 22 = .ok (.iadd, 1) := by decide +kernel
theorem dX4_guessOf_23 : decode cX4_guessOf 23 = .ok (.ireturn, 1) := by decide +kernel
theorem dX4_guess_0 : decode cX4_guess 0 = .ok (.aload_n 0, 1) := by decide +kernel
theorem dX4_guess_1 : decode cX4_guess 1 = .ok (.iconst 0, 1) := by decide +kernel
theorem dX4_guess_2 : decode cX4_guess 2 = .ok (.putfield 25, 3) := by decide +kernel
theorem dX4_guess_5 : decode cX4_guess 5 = .ok (.aload_n 0, 1) := by decide +kernel
theorem dX4_guess_6 : decode cX4_guess 6 = .ok (.iload_n 1, 1) := by decide +kernel
theorem dX4_guess_7 : decode cX4_guess 7 = .ok (.invokevirtual 92, 3) := by decide +kernel
theorem dX4_guess_10 : decode cX4_guess 10 = .ok (.ifCond .eq 11, 3) := by decide +kernel
theorem dX4_guess_13 : decode cX4_guess 13 = .ok (.aload_n 0, 1) := by decide +kernel
theorem dX4_guess_14 : decode cX4_guess 14 = .ok (.iload_n 2, 1) := by decide +kernel
theorem dX4_guess_15 : decode cX4_guess 15 = .ok (.invokevirtual 52, 3) := by decide +kernel
theorem dX4_guess_18 : decode cX4_guess 18 = .ok (.ifCond .ne 9, 3) := by decide +kernel
theorem dX4_guess_21 : decode cX4_guess 21 = .ok (.aload_n 0, 1) := by decide +kernel
theorem dX4_guess_22 : decode cX4_guess 22 = .ok (.iconst 1, 1) := by decide +kernel
theorem dX4_guess_23 : decode cX4_guess 23 = .ok (.invokevirtual 40, 3) := by decide +kernel
theorem dX4_guess_26 : decode cX4_guess 26 = .ok (.ireturn, 1) := by decide +kernel
theorem dX4_guess_27 : decode cX4_guess 27 = .ok (.aload_n 0, 1) := by decide +kernel
theorem dX4_guess_28 : decode cX4_guess 28 = .ok (.iload_n 1, 1) := by decide +kernel
theorem dX4_guess_29 : decode cX4_guess 29 = .ok (.invokevirtual 124, 3) := by decide +kernel
theorem dX4_guess_32 : decode cX4_guess 32 = .ok (.aload_n 0, 1) := by decide +kernel
theorem dX4_guess_33 : decode cX4_guess 33 = .ok (.iload_n 2, 1) := by decide +kernel
theorem dX4_guess_34 : decode cX4_guess 34 = .ok (.invokevirtual 138, 3) := by decide +kernel
theorem dX4_guess_37 : decode cX4_guess 37 = .ok (.ireturn, 1) := by decide +kernel
theorem dX4_blame_0 : decode cX4_blame 0 = .ok (.aload_n 0, 1) := by decide +kernel
theorem dX4_blame_1 : decode cX4_blame 1 = .ok (.iconst 0, 1) := by decide +kernel
theorem dX4_blame_2 : decode cX4_blame 2 = .ok (.putfield 25, 3) := by decide +kernel
theorem dX4_blame_5 : decode cX4_blame 5 = .ok (.aload_n 0, 1) := by decide +kernel
theorem dX4_blame_6 : decode cX4_blame 6 = .ok (.iload_n 1, 1) := by decide +kernel
theorem dX4_blame_7 : decode cX4_blame 7 = .ok (.invokevirtual 52, 3) := by decide +kernel
theorem dX4_blame_10 : decode cX4_blame 10 = .ok (.ifCond .ne 9, 3) := by decide +kernel
theorem dX4_blame_13 : decode cX4_blame 13 = .ok (.aload_n 0, 1) := by decide +kernel
theorem dX4_blame_14 : decode cX4_blame 14 = .ok (.iconst 1, 1) := by decide +kernel
theorem dX4_blame_15 : decode cX4_blame 15 = .ok (.invokevirtual 40, 3) := by decide +kernel
theorem dX4_blame_18 : decode cX4_blame 18 = .ok (.ireturn, 1) := by decide +kernel
theorem dX4_blame_19 : decode cX4_blame 19 = .ok (.iconst 0, 1) := by decide +kernel
theorem dX4_blame_20 : decode cX4_blame 20 = .ok (.istore_n 2, 1) := by decide +kernel
theorem dX4_blame_21 : decode cX4_blame 21 = .ok (.iconst 0, 1) := by decide +kernel
theorem dX4_blame_22 : decode cX4_blame 22 = .ok (.istore_n 3, 1) := by decide +kernel
theorem dX4_blame_23 : decode cX4_blame 23 = .ok (.iload_n 3, 1) := by decide +kernel
theorem dX4_blame_24 : decode cX4_blame 24 = .ok (.aload_n 0, 1) := by decide +kernel
theorem dX4_blame_25 : decode cX4_blame 25 = .ok (.getfield 37, 3) := by decide +kernel
theorem dX4_blame_28 : decode cX4_blame 28 = .ok (.if_icmp .ge 43, 3) := by decide +kernel
theorem dX4_blame_31 : decode cX4_blame 31 = .ok (.aload_n 0, 1) := by decide +kernel
theorem dX4_blame_32 : decode cX4_blame 32 = .ok (.iload_n 3, 1) := by decide +kernel
theorem dX4_blame_33 : decode cX4_blame 33 = .ok (.invokevirtual 124, 3) := by decide +kernel
theorem dX4_blame_36 : decode cX4_blame 36 = .ok (.iload_n 2, 1) := by decide +kernel
theorem dX4_blame_37 : decode cX4_blame 37 = .ok (.aload_n 0, 1) := by decide +kernel
theorem dX4_blame_38 : decode cX4_blame 38 = .ok (.getfield 103, 3) := by decide +kernel
theorem dX4_blame_41 : decode cX4_blame 41 = .ok (.iconst 2, 1) := by decide +kernel
theorem dX4_blame_42 : decode cX4_blame 42 = .ok (.if_icmp .le 20, 3) := by decide +kernel
theorem dX4_blame_45 : decode cX4_blame 45 = .ok (.aload_n 0, 1) := by decide +kernel
theorem dX4_blame_46 : decode cX4_blame 46 = .ok (.getfield 16, 3) := by decide +kernel
theorem dX4_blame_49 : decode cX4_blame 49 = .ok (.aload_n 0, 1) := by decide +kernel
theorem dX4_blame_50 : decode cX4_blame 50 = .ok (.invokevirtual 128, 3) := by decide +kernel
theorem dX4_blame_53 : decode cX4_blame 53 = .ok (.iaload, 1) := by decide +kernel
theorem dX4_blame_54 : decode cX4_blame 54 = .ok (.iload_n 1, 1) := by decide +kernel
theorem dX4_blame_55 : decode cX4_blame 55 = .ok (.if_icmp .ne 7, 3) := by decide +kernel
theorem dX4_blame_58 : decode cX4_blame 58 = .ok (.iconst 1, 1) := by decide +kernel
theorem dX4_blame_59 : decode cX4_blame 59 = .ok (.goto 4, 3) := by decide +kernel
theorem dX4_blame_62 : decode cX4_blame 62 = .ok (.iconst 0, 1) := by decide +kernel
theorem dX4_blame_63 : decode cX4_blame 63 = .ok (.iadd, 1) := by decide +kernel
theorem dX4_blame_64 : decode cX4_blame 64 = .ok (.istore_n 2, 1) := by decide +kernel
theorem dX4_blame_65 : decode cX4_blame 65 = .ok (.iinc 3 1, 3) := by decide +kernel
theorem dX4_blame_68 : decode cX4_blame 68 = .ok (.goto (-45), 3) := by decide +kernel
theorem dX4_blame_71 : decode cX4_blame 71 = .ok (.iload_n 2, 1) := by decide +kernel
theorem dX4_blame_72 : decode cX4_blame 72 = .ok (.ireturn, 1) := by decide +kernel
theorem dX4_advise_0 : decode cX4_advise 0 = .ok (.aload_n 0, 1) := by decide +kernel
theorem dX4_advise_1 : decode cX4_advise 1 = .ok (.iconst 0, 1) := by decide +kernel
theorem dX4_advise_2 : decode cX4_advise 2 = .ok (.putfield 25, 3) := by decide +kernel
theorem dX4_advise_5 : decode cX4_advise 5 = .ok (.aload_n 0, 1) := by decide +kernel
theorem dX4_advise_6 : decode cX4_advise 6 = .ok (.iload_n 1, 1) := by decide +kernel
theorem dX4_advise_7 : decode cX4_advise 7 = .ok (.invokevirtual 52, 3) := by decide +kernel
theorem dX4_advise_10 : decode cX4_advise 10 = .ok (.ifCond .ne 9, 3) := by decide +kernel
theorem dX4_advise_13 : decode cX4_advise 13 = .ok (.aload_n 0, 1) := by decide +kernel
theorem dX4_advise_14 : decode cX4_advise 14 = .ok (.iconst 1, 1) := by decide +kernel
theorem dX4_advise_15 : decode cX4_advise 15 = .ok (.invokevirtual 40, 3) := by decide +kernel
theorem dX4_advise_18 : decode cX4_advise 18 = .ok (.ireturn, 1) := by decide +kernel
theorem dX4_advise_19 : decode cX4_advise 19 = .ok (.bipush 16, 2) := by decide +kernel
theorem dX4_advise_21 : decode cX4_advise 21 = .ok (.newarray .int, 2) := by decide +kernel
theorem dX4_advise_23 : decode cX4_advise 23 = .ok (.astore_n 2, 1) := by decide +kernel
theorem dX4_advise_24 : decode cX4_advise 24 = .ok (.iconst 0, 1) := by decide +kernel
theorem dX4_advise_25 : decode cX4_advise 25 = .ok (.istore_n 3, 1) := by decide +kernel
theorem dX4_advise_26 : decode cX4_advise 26 = .ok (.iconst 0, 1) := by decide +kernel
theorem dX4_advise_27 : decode cX4_advise 27 = .ok (.istore 4, 2) := by decide +kernel
theorem dX4_advise_29 : decode cX4_advise 29 = .ok (.iload 4, 2) := by decide +kernel
theorem dX4_advise_31 : decode cX4_advise 31 = .ok (.aload_n 0, 1) := by decide +kernel
theorem dX4_advise_32 : decode cX4_advise 32 = .ok (.getfield 37, 3) := by decide +kernel
theorem dX4_advise_35 : decode cX4_advise 35 = .ok (.if_icmp .ge 55, 3) := by decide +kernel
theorem dX4_advise_38 : decode cX4_advise 38 = .ok (.aload_n 0, 1) := by decide +kernel
theorem dX4_advise_39 : decode cX4_advise 39 = .ok (.iload 4, 2) := by decide +kernel
theorem dX4_advise_41 : decode cX4_advise 41 = .ok (.invokevirtual 124, 3) := by decide +kernel
theorem dX4_advise_44 : decode cX4_advise 44 = .ok (.aload_n 0, 1) := by decide +kernel
theorem dX4_advise_45 : decode cX4_advise 45 = .ok (.getfield 103, 3) := by decide +kernel
theorem dX4_advise_48 : decode cX4_advise 48 = .ok (.iconst 3, 1) := by decide +kernel
theorem dX4_advise_49 : decode cX4_advise 49 = .ok (.if_icmp .lt 35, 3) := by decide +kernel
theorem dX4_advise_52 : decode cX4_advise 52 = .ok (.aload_n 0, 1) := by decide +kernel
theorem dX4_advise_53 : decode cX4_advise 53 = .ok (.iload 4, 2) := by decide +kernel
theorem dX4_advise_55 : decode cX4_advise 55 = .ok (.iload_n 1, 1) := by decide +kernel
theorem dX4_advise_56 : decode cX4_advise 56 = .ok (.invokevirtual 58, 3) := by decide +kernel
theorem dX4_advise_59 : decode cX4_advise 59 = .ok (.ifCond .ne 6, 3) := by decide +kernel
theorem dX4_advise_62 : decode cX4_advise 62 = .ok (.goto 22, 3) := by decide +kernel
theorem dX4_advise_65 : decode cX4_advise 65 = .ok (.aload_n 2, 1) := by decide +kernel
theorem dX4_advise_66 : decode cX4_advise 66 = .ok (.iload_n 3, 1) := by decide +kernel
theorem dX4_advise_67 : decode cX4_advise 67 = .ok (.aload_n 0, 1) := by decide +kernel
theorem dX4_advise_68 : decode cX4_advise 68 = .ok (.iload 4, 2) := by decide +kernel
theorem dX4_advise_70 : decode cX4_advise 70 = .ok (.iload_n 1, 1) := by decide +kernel
theorem dX4_advise_71 : decode cX4_advise 71 = .ok (.invokevirtual 95, 3) := by decide +kernel
theorem dX4_advise_74 : decode cX4_advise 74 = .ok (.aload_n 0, 1) := by decide +kernel
theorem dX4_advise_75 : decode cX4_advise 75 = .ok (.iload_n 1, 1) := by decide +kernel
theorem dX4_advise_76 : decode cX4_advise 76 = .ok (.invokevirtual 138, 3) := by decide +kernel
theorem dX4_advise_79 : decode cX4_advise 79 = .ok (.isub, 1) := by decide +kernel
theorem dX4_advise_80 : decode cX4_advise 80 = .ok (.iastore, 1) := by decide +kernel
theorem dX4_advise_81 : decode cX4_advise 81 = .ok (.iinc 3 1, 3) := by decide +kernel
theorem dX4_advise_84 : decode cX4_advise 84 = .ok (.iinc 4 1, 3) := by decide +kernel
theorem dX4_advise_87 : decode cX4_advise 87 = .ok (.goto (-58), 3) := by decide +kernel
theorem dX4_advise_90 : decode cX4_advise 90 = .ok (.aload_n 2, 1) := by decide +kernel
theorem dX4_advise_91 : decode cX4_advise 91 = .ok (.iconst 0, 1) := by decide +kernel
theorem dX4_advise_92 : decode cX4_advise 92 = .ok (.aload_n 0, 1) := by decide +kernel
theorem dX4_advise_93 : decode cX4_advise 93 = .ok (.getfield 22, 3) := by decide +kernel
theorem dX4_advise_96 : decode cX4_advise 96 = .ok (.iconst 0, 1) := by decide +kernel
theorem dX4_advise_97 : decode cX4_advise 97 = .ok (.bipush 16, 2) := by decide +kernel
theorem dX4_advise_99 : decode cX4_advise 99 = .ok (.invokestatic 74, 3) := by decide +kernel
theorem dX4_advise_102 : decode cX4_advise 102 = .ok (.aload_n 0, 1) := by decide +kernel
theorem dX4_advise_103 : decode cX4_advise 103 = .ok (.iload_n 1, 1) := by decide +kernel
theorem dX4_advise_104 : decode cX4_advise 104 = .ok (.iconst 3, 1) := by decide +kernel
theorem dX4_advise_105 : decode cX4_advise 105 = .ok (.invokevirtual 44, 3) := by decide +kernel
theorem dX4_advise_108 : decode cX4_advise 108 = .ok (.iload_n 3, 1) := by decide +kernel
theorem dX4_advise_109 : decode cX4_advise 109 = .ok (.ifCond .ne 7, 3) := by decide +kernel
theorem dX4_advise_112 : decode cX4_advise 112 = .ok (.iconst 0, 1) := by decide +kernel
theorem dX4_advise_113 : decode cX4_advise 113 = .ok (.goto 8, 3) := by decide +kernel
theorem dX4_advise_116 : decode cX4_advise 116 = .ok (.aload_n 0, 1) := by decide +kernel
theorem dX4_advise_117 : decode cX4_advise 117 = .ok (.iload_n 3, 1) := by decide +kernel
theorem dX4_advise_118 : decode cX4_advise 118 = .ok (.invokevirtual 112, 3) := by decide +kernel
theorem dX4_advise_121 : decode cX4_advise 121 = .ok (.iadd, 1) := by decide +kernel
theorem dX4_advise_122 : decode cX4_advise 122 = .ok (.ireturn, 1) := by decide +kernel
theorem dX4_wire_0 : decode cX4_wire 0 = .ok (.aload_n 0, 1) := by decide +kernel
theorem dX4_wire_1 : decode cX4_wire 1 = .ok (.iconst 0, 1) := by decide +kernel
theorem dX4_wire_2 : decode cX4_wire 2 = .ok (.putfield 25, 3) := by decide +kernel
theorem dX4_wire_5 : decode cX4_wire 5 = .ok (.aload_n 0, 1) := by decide +kernel
theorem dX4_wire_6 : decode cX4_wire 6 = .ok (.iload_n 1, 1) := by decide +kernel
theorem dX4_wire_7 : decode cX4_wire 7 = .ok (.invokevirtual 52, 3) := by decide +kernel
theorem dX4_wire_10 : decode cX4_wire 10 = .ok (.ifCond .eq 11, 3) := by decide +kernel
theorem dX4_wire_13 : decode cX4_wire 13 = .ok (.aload_n 0, 1) := by decide +kernel
theorem dX4_wire_14 : decode cX4_wire 14 = .ok (.iload_n 2, 1) := by decide +kernel
theorem dX4_wire_15 : decode cX4_wire 15 = .ok (.invokevirtual 52, 3) := by decide +kernel
theorem dX4_wire_18 : decode cX4_wire 18 = .ok (.ifCond .ne 9, 3) := by decide +kernel
theorem dX4_wire_21 : decode cX4_wire 21 = .ok (.aload_n 0, 1) := by decide +kernel
theorem dX4_wire_22 : decode cX4_wire 22 = .ok (.iconst 1, 1) := by decide +kernel
theorem dX4_wire_23 : decode cX4_wire 23 = .ok (.invokevirtual 40, 3) := by decide +kernel
theorem dX4_wire_26 : decode cX4_wire 26 = .ok (.ireturn, 1) := by decide +kernel
theorem dX4_wire_27 : decode cX4_wire 27 = .ok (.iload_n 3, 1) := by decide +kernel
theorem dX4_wire_28 : decode cX4_wire 28 = .ok (.invokestatic 68, 3) := by decide +kernel
theorem dX4_wire_31 : decode cX4_wire 31 = .ok (.ifCond .ne 9, 3) := by decide +kernel
theorem dX4_wire_34 : decode cX4_wire 34 = .ok (.aload_n 0, 1) := by decide +kernel
theorem dX4_wire_35 : decode cX4_wire 35 = .ok (.iconst 2, 1) := by decide +kernel
theorem dX4_wire_36 : decode cX4_wire 36 = .ok (.invokevirtual 40, 3) := by decide +kernel
theorem dX4_wire_39 : decode cX4_wire 39 = .ok (.ireturn, 1) := by decide +kernel
theorem dX4_wire_40 : decode cX4_wire 40 = .ok (.aload_n 0, 1) := by decide +kernel
theorem dX4_wire_41 : decode cX4_wire 41 = .ok (.iload_n 2, 1) := by decide +kernel
theorem dX4_wire_42 : decode cX4_wire 42 = .ok (.iload_n 3, 1) := by decide +kernel
theorem dX4_wire_43 : decode cX4_wire 43 = .ok (.aload_n 0, 1) := by decide +kernel
theorem dX4_wire_44 : decode cX4_wire 44 = .ok (.iload_n 1, 1) := by decide +kernel
theorem dX4_wire_45 : decode cX4_wire 45 = .ok (.iconst 0, 1) := by decide +kernel
theorem dX4_wire_46 : decode cX4_wire 46 = .ok (.invokevirtual 44, 3) := by decide +kernel
theorem dX4_wire_49 : decode cX4_wire 49 = .ok (.aload_n 0, 1) := by decide +kernel
theorem dX4_wire_50 : decode cX4_wire 50 = .ok (.iload_n 2, 1) := by decide +kernel
theorem dX4_wire_51 : decode cX4_wire 51 = .ok (.iconst 0, 1) := by decide +kernel
theorem dX4_wire_52 : decode cX4_wire 52 = .ok (.invokevirtual 44, 3) := by decide +kernel
theorem dX4_wire_55 : decode cX4_wire 55 = .ok (.isub, 1) := by decide +kernel
theorem dX4_wire_56 : decode cX4_wire 56 = .ok (.invokestatic 83, 3) := by decide +kernel
theorem dX4_wire_59 : decode cX4_wire 59 = .ok (.iconst 3, 1) := by decide +kernel
theorem dX4_wire_60 : decode cX4_wire 60 = .ok (.idiv, 1) := by decide +kernel
theorem dX4_wire_61 : decode cX4_wire 61 = .ok (.iadd, 1) := by decide +kernel
theorem dX4_wire_62 : decode cX4_wire 62 = .ok (.invokevirtual 71, 3) := by decide +kernel
theorem dX4_wire_65 : decode cX4_wire 65 = .ok (.aload_n 0, 1) := by decide +kernel
theorem dX4_wire_66 : decode cX4_wire 66 = .ok (.iload_n 1, 1) := by decide +kernel
theorem dX4_wire_67 : decode cX4_wire 67 = .ok (.iload_n 3, 1) := by decide +kernel
theorem dX4_wire_68 : decode cX4_wire 68 = .ok (.invokevirtual 71, 3) := by decide +kernel
theorem dX4_wire_71 : decode cX4_wire 71 = .ok (.isub, 1) := by decide +kernel
theorem dX4_wire_72 : decode cX4_wire 72 = .ok (.ireturn, 1) := by decide +kernel
theorem dX4_align_0 : decode cX4_align 0 = .ok (.aload_n 0, 1) := by decide +kernel
theorem dX4_align_1 : decode cX4_align 1 = .ok (.iconst 0, 1) := by decide +kernel
theorem dX4_align_2 : decode cX4_align 2 = .ok (.putfield 25, 3) := by decide +kernel
theorem dX4_align_5 : decode cX4_align 5 = .ok (.aload_n 0, 1) := by decide +kernel
theorem dX4_align_6 : decode cX4_align 6 = .ok (.iload_n 1, 1) := by decide +kernel
theorem dX4_align_7 : decode cX4_align 7 = .ok (.invokevirtual 52, 3) := by decide +kernel
theorem dX4_align_10 : decode cX4_align 10 = .ok (.ifCond .ne 9, 3) := by decide +kernel
theorem dX4_align_13 : decode cX4_align 13 = .ok (.aload_n 0, 1) := by decide +kernel
theorem dX4_align_14 : decode cX4_align 14 = .ok (.iconst 1, 1) := by decide +kernel
theorem dX4_align_15 : decode cX4_align 15 = .ok (.invokevirtual 40, 3) := by decide +kernel
theorem dX4_align_18 : decode cX4_align 18 = .ok (.ireturn, 1) := by decide +kernel
theorem dX4_align_19 : decode cX4_align 19 = .ok (.iload_n 2, 1) := by decide +kernel
theorem dX4_align_20 : decode cX4_align 20 = .ok (.invokestatic 68, 3) := by decide +kernel
theorem dX4_align_23 : decode cX4_align 23 = .ok (.ifCond .ne 9, 3) := by decide +kernel
theorem dX4_align_26 : decode cX4_align 26 = .ok (.aload_n 0, 1) := by decide +kernel
theorem dX4_align_27 : decode cX4_align 27 = .ok (.iconst 2, 1) := by decide +kernel
theorem dX4_align_28 : decode cX4_align 28 = .ok (.invokevirtual 40, 3) := by decide +kernel
theorem dX4_align_31 : decode cX4_align 31 = .ok (.ireturn, 1) := by decide +kernel
theorem dX4_align_32 : decode cX4_align 32 = .ok (.aload_n 0, 1) := by decide +kernel
theorem dX4_align_33 : decode cX4_align 33 = .ok (.iload_n 1, 1) := by decide +kernel
theorem dX4_align_34 : decode cX4_align 34 = .ok (.iload_n 2, 1) := by decide +kernel
theorem dX4_align_35 : decode cX4_align 35 = .ok (.invokevirtual 71, 3) := by decide +kernel
theorem dX4_align_38 : decode cX4_align 38 = .ok (.istore_n 3, 1) := by decide +kernel
theorem dX4_align_39 : decode cX4_align 39 = .ok (.iconst 0, 1) := by decide +kernel
theorem dX4_align_40 : decode cX4_align 40 = .ok (.istore 4, 2) := by decide +kernel
theorem dX4_align_42 : decode cX4_align 42 = .ok (.iconst 0, 1) := by decide +kernel
theorem dX4_align_43 : decode cX4_align 43 = .ok (.istore 5, 2) := by decide +kernel
theorem dX4_align_45 : decode cX4_align 45 = .ok (.iload 5, 2) := by decide +kernel
theorem dX4_align_47 : decode cX4_align 47 = .ok (.aload_n 0, 1) := by decide +kernel
theorem dX4_align_48 : decode cX4_align 48 = .ok (.getfield 34, 3) := by decide +kernel
theorem dX4_align_51 : decode cX4_align 51 = .ok (.if_icmp .ge 42, 3) := by decide +kernel
theorem dX4_align_54 : decode cX4_align 54 = .ok (.aload_n 0, 1) := by decide +kernel
theorem dX4_align_55 : decode cX4_align 55 = .ok (.iload 5, 2) := by decide +kernel
theorem dX4_align_57 : decode cX4_align 57 = .ok (.iconst 3, 1) := by decide +kernel
theorem dX4_align_58 : decode cX4_align 58 = .ok (.invokevirtual 44, 3) := by decide +kernel
theorem dX4_align_61 : decode cX4_align 61 = .ok (.aload_n 0, 1) := by decide +kernel
theorem dX4_align_62 : decode cX4_align 62 = .ok (.iload 5, 2) := by decide +kernel
theorem dX4_align_64 : decode cX4_align 64 = .ok (.iload_n 2, 1) := by decide +kernel
theorem dX4_align_65 : decode cX4_align 65 = .ok (.invokevirtual 71, 3) := by decide +kernel
theorem dX4_align_68 : decode cX4_align 68 = .ok (.iadd, 1) := by decide +kernel
theorem dX4_align_69 : decode cX4_align 69 = .ok (.iload_n 3, 1) := by decide +kernel
theorem dX4_align_70 : decode cX4_align 70 = .ok (.isub, 1) := by decide +kernel
theorem dX4_align_71 : decode cX4_align 71 = .ok (.ldc 56, 2) := by decide +kernel
theorem dX4_align_73 : decode cX4_align 73 = .ok (.ldc 57, 2) := by decide +kernel
theorem dX4_align_75 : decode cX4_align 75 = .ok (.invokestatic 30, 3) := by decide +kernel
theorem dX4_align_78 : decode cX4_align 78 = .ok (.ifCond .ne 9, 3) := by decide +kernel
theorem dX4_align_81 : decode cX4_align 81 = .ok (.aload_n 0, 1) := by decide +kernel
theorem dX4_align_82 : decode cX4_align 82 = .ok (.iconst 3, 1) := by decide +kernel
theorem dX4_align_83 : decode cX4_align 83 = .ok (.invokevirtual 40, 3) := by decide +kernel
theorem dX4_align_86 : decode cX4_align 86 = .ok (.ireturn, 1) := by decide +kernel
theorem dX4_align_87 : decode cX4_align 87 = .ok (.iinc 5 1, 3) := by decide +kernel
theorem dX4_align_90 : decode cX4_align 90 = .ok (.goto (-45), 3) := by decide +kernel
theorem dX4_align_93 : decode cX4_align 93 = .ok (.iconst 0, 1) := by decide +kernel
theorem dX4_align_94 : decode cX4_align 94 = .ok (.istore 5, 2) := by decide +kernel
theorem dX4_align_96 : decode cX4_align 96 = .ok (.iload 5, 2) := by decide +kernel
theorem dX4_align_98 : decode cX4_align 98 = .ok (.aload_n 0, 1) := by decide +kernel
theorem dX4_align_99 : decode cX4_align 99 = .ok (.getfield 34, 3) := by decide +kernel
theorem dX4_align_102 : decode cX4_align 102 = .ok (.if_icmp .ge 52, 3) := by decide +kernel
theorem dX4_align_105 : decode cX4_align 105 = .ok (.aload_n 0, 1) := by decide +kernel
theorem dX4_align_106 : decode cX4_align 106 = .ok (.iload 5, 2) := by decide +kernel
theorem dX4_align_108 : decode cX4_align 108 = .ok (.iload_n 2, 1) := by decide +kernel
theorem dX4_align_109 : decode cX4_align 109 = .ok (.invokevirtual 71, 3) := by decide +kernel
theorem dX4_align_112 : decode cX4_align 112 = .ok (.iload_n 3, 1) := by decide +kernel
theorem dX4_align_113 : decode cX4_align 113 = .ok (.isub, 1) := by decide +kernel
theorem dX4_align_114 : decode cX4_align 114 = .ok (.istore 6, 2) := by decide +kernel
theorem dX4_align_116 : decode cX4_align 116 = .ok (.aload_n 0, 1) := by decide +kernel
theorem dX4_align_117 : decode cX4_align 117 = .ok (.iload 5, 2) := by decide +kernel
theorem dX4_align_119 : decode cX4_align 119 = .ok (.iconst 3, 1) := by decide +kernel
theorem dX4_align_120 : decode cX4_align 120 = .ok (.aload_n 0, 1) := by decide +kernel
theorem dX4_align_121 : decode cX4_align 121 = .ok (.iload 5, 2) := by decide +kernel
theorem dX4_align_123 : decode cX4_align 123 = .ok (.iconst 3, 1) := by decide +kernel
theorem dX4_align_124 : decode cX4_align 124 = .ok (.invokevirtual 44, 3) := by decide +kernel
theorem dX4_align_127 : decode cX4_align 127 = .ok (.iload 6, 2) := by decide +kernel
theorem dX4_align_129 : decode cX4_align 129 = .ok (.iadd, 1) := by decide +kernel
theorem dX4_align_130 : decode cX4_align 130 = .ok (.invokevirtual 48, 3) := by decide +kernel
theorem dX4_align_133 : decode cX4_align 133 = .ok (.iload 4, 2) := by decide +kernel
theorem dX4_align_135 : decode cX4_align 135 = .ok (.iload 6, 2) := by decide +kernel
theorem dX4_align_137 : decode cX4_align 137 = .ok (.ifCond .eq 7, 3) := by decide +kernel
theorem dX4_align_140 : decode cX4_align 140 = .ok (.iconst 1, 1) := by decide +kernel
theorem dX4_align_141 : decode cX4_align 141 = .ok (.goto 4, 3) := by decide +kernel
theorem dX4_align_144 : decode cX4_align 144 = .ok (.iconst 0, 1) := by decide +kernel
theorem dX4_align_145 : decode cX4_align 145 = .ok (.iadd, 1) := by decide +kernel
theorem dX4_align_146 : decode cX4_align 146 = .ok (.istore 4, 2) := by decide +kernel
theorem dX4_align_148 : decode cX4_align 148 = .ok (.iinc 5 1, 3) := by decide +kernel
theorem dX4_align_151 : decode cX4_align 151 = .ok (.goto (-55), 3) := by decide +kernel
theorem dX4_align_154 : decode cX4_align 154 = .ok (.iload 4, 2) := by decide +kernel
theorem dX4_align_156 : decode cX4_align 156 = .ok (.ireturn, 1) := by decide +kernel
theorem dX4_spread_0 : decode cX4_spread 0 = .ok (.aload_n 0, 1) := by decide +kernel
theorem dX4_spread_1 : decode cX4_spread 1 = .ok (.iconst 0, 1) := by decide +kernel
theorem dX4_spread_2 : decode cX4_spread 2 = .ok (.putfield 25, 3) := by decide +kernel
theorem dX4_spread_5 : decode cX4_spread 5 = .ok (.iload_n 1, 1) := by decide +kernel
theorem dX4_spread_6 : decode cX4_spread 6 = .ok (.invokestatic 68, 3) := by decide +kernel
theorem dX4_spread_9 : decode cX4_spread 9 = .ok (.ifCond .ne 9, 3) := by decide +kernel
theorem dX4_spread_12 : decode cX4_spread 12 = .ok (.aload_n 0, 1) := by decide +kernel
theorem dX4_spread_13 : decode cX4_spread 13 = .ok (.iconst 1, 1) := by decide +kernel
theorem dX4_spread_14 : decode cX4_spread 14 = .ok (.invokevirtual 40, 3) := by decide +kernel
theorem dX4_spread_17 : decode cX4_spread 17 = .ok (.ireturn, 1) := by decide +kernel
theorem dX4_spread_18 : decode cX4_spread 18 = .ok (.iconst 0, 1) := by decide +kernel
theorem dX4_spread_19 : decode cX4_spread 19 = .ok (.istore_n 2, 1) := by decide +kernel
theorem dX4_spread_20 : decode cX4_spread 20 = .ok (.iconst 0, 1) := by decide +kernel
theorem dX4_spread_21 : decode cX4_spread 21 = .ok (.istore_n 3, 1) := by decide +kernel
theorem dX4_spread_22 : decode cX4_spread 22 = .ok (.iload_n 3, 1) := by decide +kernel
theorem dX4_spread_23 : decode cX4_spread 23 = .ok (.aload_n 0, 1) := by decide +kernel
theorem dX4_spread_24 : decode cX4_spread 24 = .ok (.getfield 34, 3) := by decide +kernel
theorem dX4_spread_27 : decode cX4_spread 27 = .ok (.if_icmp .ge 46, 3) := by decide +kernel
theorem dX4_spread_30 : decode cX4_spread 30 = .ok (.iconst 0, 1) := by decide +kernel
theorem dX4_spread_31 : decode cX4_spread 31 = .ok (.istore 4, 2) := by decide +kernel
theorem dX4_spread_33 : decode cX4_spread 33 = .ok (.iload 4, 2) := by decide +kernel
theorem dX4_spread_35 : decode cX4_spread 35 = .ok (.aload_n 0, 1) := by decide +kernel
theorem dX4_spread_36 : decode cX4_spread 36 = .ok (.getfield 34, 3) := by decide +kernel
theorem dX4_spread_39 : decode cX4_spread 39 = .ok (.if_icmp .ge 28, 3) := by decide +kernel
theorem dX4_spread_42 : decode cX4_spread 42 = .ok (.iload_n 2, 1) := by decide +kernel
theorem dX4_spread_43 : decode cX4_spread 43 = .ok (.aload_n 0, 1) := by decide +kernel
theorem dX4_spread_44 : decode cX4_spread 44 = .ok (.iload_n 3, 1) := by decide +kernel
theorem dX4_spread_45 : decode cX4_spread 45 = .ok (.iload_n 1, 1) := by decide +kernel
theorem dX4_spread_46 : decode cX4_spread 46 = .ok (.invokevirtual 71, 3) := by decide +kernel
theorem dX4_spread_49 : decode cX4_spread 49 = .ok (.aload_n 0, 1) := by decide +kernel
theorem dX4_spread_50 : decode cX4_spread 50 = .ok (.iload 4, 2) := by decide +kernel
theorem dX4_spread_52 : decode cX4_spread 52 = .ok (.iload_n 1, 1) := by decide +kernel
theorem dX4_spread_53 : decode cX4_spread 53 = .ok (.invokevirtual 71, 3) := by decide +kernel
theorem dX4_spread_56 : decode cX4_spread 56 = .ok (.isub, 1) := by decide +kernel
theorem dX4_spread_57 : decode cX4_spread 57 = .ok (.invokestatic 121, 3) := by decide +kernel
theorem dX4_spread_60 : decode cX4_spread 60 = .ok (.istore_n 2, 1) := by decide +kernel
theorem dX4_spread_61 : decode cX4_spread 61 = .ok (.iinc 4 1, 3) := by decide +kernel
theorem dX4_spread_64 : decode cX4_spread 64 = .ok (.goto (-31), 3) := by decide +kernel
theorem dX4_spread_67 : decode cX4_spread 67 = .ok (.iinc 3 1, 3) := by decide +kernel
theorem dX4_spread_70 : decode cX4_spread 70 = .ok (.goto (-48), 3) := by decide +kernel
theorem dX4_spread_73 : decode cX4_spread 73 = .ok (.iload_n 2, 1) := by decide +kernel
theorem dX4_spread_74 : decode cX4_spread 74 = .ok (.ireturn, 1) := by decide +kernel
theorem dX4_counted_0 : decode cX4_counted 0 = .ok (.iconst 0, 1) := by decide +kernel
theorem dX4_counted_1 : decode cX4_counted 1 = .ok (.istore_n 2, 1) := by decide +kernel
theorem dX4_counted_2 : decode cX4_counted 2 = .ok (.iload_n 1, 1) := by decide +kernel
theorem dX4_counted_3 : decode cX4_counted 3 = .ok (.tableswitch 70 0 4 #[33, 38, 70, 70, 43], 33) := by decide +kernel
theorem dX4_counted_36 : decode cX4_counted 36 = .ok (.aload_n 0, 1) := by decide +kernel
theorem dX4_counted_37 : decode cX4_counted 37 = .ok (.getfield 34, 3) := by decide +kernel
theorem dX4_counted_40 : decode cX4_counted 40 = .ok (.ireturn, 1) := by decide +kernel
theorem dX4_counted_41 : decode cX4_counted 41 = .ok (.aload_n 0, 1) := by decide +kernel
theorem dX4_counted_42 : decode cX4_counted 42 = .ok (.getfield 37, 3) := by decide +kernel
theorem dX4_counted_45 : decode cX4_counted 45 = .ok (.ireturn, 1) := by decide +kernel
theorem dX4_counted_46 : decode cX4_counted 46 = .ok (.iconst 0, 1) := by decide +kernel
theorem dX4_counted_47 : decode cX4_counted 47 = .ok (.istore_n 3, 1) := by decide +kernel
theorem dX4_counted_48 : decode cX4_counted 48 = .ok (.iload_n 3, 1) := by decide +kernel
theorem dX4_counted_49 : decode cX4_counted 49 = .ok (.aload_n 0, 1) := by decide +kernel
theorem dX4_counted_50 : decode cX4_counted 50 = .ok (.getfield 34, 3) := by decide +kernel
theorem dX4_counted_53 : decode cX4_counted 53 = .ok (.if_icmp .ge 18, 3) := by decide +kernel
theorem dX4_counted_56 : decode cX4_counted 56 = .ok (.iload_n 2, 1) := by decide +kernel
theorem dX4_counted_57 : decode cX4_counted 57 = .ok (.aload_n 0, 1) := by decide +kernel
theorem dX4_counted_58 : decode cX4_counted 58 = .ok (.iload_n 3, 1) := by decide +kernel
theorem dX4_counted_59 : decode cX4_counted 59 = .ok (.iconst 4, 1) := by decide +kernel
theorem dX4_counted_60 : decode cX4_counted 60 = .ok (.invokevirtual 44, 3) := by decide +kernel
theorem dX4_counted_63 : decode cX4_counted 63 = .ok (.iadd, 1) := by decide +kernel
theorem dX4_counted_64 : decode cX4_counted 64 = .ok (.istore_n 2, 1) := by decide +kernel
theorem dX4_counted_65 : decode cX4_counted 65 = .ok (.iinc 3 1, 3) := by decide +kernel
theorem dX4_counted_68 : decode cX4_counted 68 = .ok (.goto (-20), 3) := by decide +kernel
theorem dX4_counted_71 : decode cX4_counted 71 = .ok (.iload_n 2, 1) := by decide +kernel
theorem dX4_counted_72 : decode cX4_counted 72 = .ok (.ireturn, 1) := by decide +kernel
theorem dX4_counted_73 : decode cX4_counted 73 = .ok (.iconst 0, 1) := by decide +kernel
theorem dX4_counted_74 : decode cX4_counted 74 = .ok (.istore_n 3, 1) := by decide +kernel
theorem dX4_counted_75 : decode cX4_counted 75 = .ok (.iload_n 3, 1) := by decide +kernel
theorem dX4_counted_76 : decode cX4_counted 76 = .ok (.aload_n 0, 1) := by decide +kernel
theorem dX4_counted_77 : decode cX4_counted 77 = .ok (.getfield 37, 3) := by decide +kernel
theorem dX4_counted_80 : decode cX4_counted 80 = .ok (.if_icmp .ge 41, 3) := by decide +kernel
theorem dX4_counted_83 : decode cX4_counted 83 = .ok (.aload_n 0, 1) := by decide +kernel
theorem dX4_counted_84 : decode cX4_counted 84 = .ok (.iload_n 3, 1) := by decide +kernel
theorem dX4_counted_85 : decode cX4_counted 85 = .ok (.invokevirtual 124, 3) := by decide +kernel
theorem dX4_counted_88 : decode cX4_counted 88 = .ok (.iload_n 2, 1) := by decide +kernel
theorem dX4_counted_89 : decode cX4_counted 89 = .ok (.iload_n 1, 1) := by decide +kernel
theorem dX4_counted_90 : decode cX4_counted 90 = .ok (.iconst 2, 1) := by decide +kernel
theorem dX4_counted_91 : decode cX4_counted 91 = .ok (.if_icmp .ne 10, 3) := by decide +kernel
theorem dX4_counted_94 : decode cX4_counted 94 = .ok (.aload_n 0, 1) := by decide +kernel
theorem dX4_counted_95 : decode cX4_counted 95 = .ok (.getfield 103, 3) := by decide +kernel
theorem dX4_counted_98 : decode cX4_counted 98 = .ok (.goto 15, 3) := by decide +kernel
theorem dX4_counted_101 : decode cX4_counted 101 = .ok (.aload_n 0, 1) := by decide +kernel
theorem dX4_counted_102 : decode cX4_counted 102 = .ok (.getfield 103, 3) := by decide +kernel
theorem dX4_counted_105 : decode cX4_counted 105 = .ok (.ifCond .ne 7, 3) := by decide +kernel
theorem dX4_counted_108 : decode cX4_counted 108 = .ok (.iconst 1, 1) := by decide +kernel
theorem dX4_counted_109 : decode cX4_counted 109 = .ok (.goto 4, 3) := by decide +kernel
theorem dX4_counted_112 : decode cX4_counted 112 = .ok (.iconst 0, 1) := by decide +kernel
theorem dX4_counted_113 : decode cX4_counted 113 = .ok (.iadd, 1) := by decide +kernel
theorem dX4_counted_114 : decode cX4_counted 114 = .ok (.istore_n 2, 1) := by decide +kernel
theorem dX4_counted_115 : decode cX4_counted 115 = .ok (.iinc 3 1, 3) := by decide +kernel
theorem dX4_counted_118 : decode cX4_counted 118 = .ok (.goto (-43), 3) := by decide +kernel
theorem dX4_counted_121 : decode cX4_counted 121 = .ok (.iload_n 2, 1) := by decide +kernel
theorem dX4_counted_122 : decode cX4_counted 122 = .ok (.ireturn, 1) := by decide +kernel
theorem dX4_count_0 : decode cX4_count 0 = .ok (.aload_n 0, 1) := by decide +kernel
theorem dX4_count_1 : decode cX4_count 1 = .ok (.iconst 0, 1) := by decide +kernel
theorem dX4_count_2 : decode cX4_count 2 = .ok (.putfield 25, 3) := by decide +kernel
theorem dX4_count_5 : decode cX4_count 5 = .ok (.iload_n 1, 1) := by decide +kernel
theorem dX4_count_6 : decode cX4_count 6 = .ok (.iconst 0, 1) := by decide +kernel
theorem dX4_count_7 : decode cX4_count 7 = .ok (.iconst 4, 1) := by decide +kernel
theorem dX4_count_8 : decode cX4_count 8 = .ok (.invokestatic 30, 3) := by decide +kernel
theorem dX4_count_11 : decode cX4_count 11 = .ok (.ifCond .eq 11, 3) := by decide +kernel
theorem dX4_count_14 : decode cX4_count 14 = .ok (.aload_n 0, 1) := by decide +kernel
theorem dX4_count_15 : decode cX4_count 15 = .ok (.iload_n 1, 1) := by decide +kernel
theorem dX4_count_16 : decode cX4_count 16 = .ok (.invokevirtual 141, 3) := by decide +kernel
theorem dX4_count_19 : decode cX4_count 19 = .ok (.goto 8, 3) := by decide +kernel
theorem dX4_count_22 : decode cX4_count 22 = .ok (.aload_n 0, 1) := by decide +kernel
theorem dX4_count_23 : decode cX4_count 23 = .ok (.iconst 1, 1) := by decide +kernel
theorem dX4_count_24 : decode cX4_count 24 = .ok (.invokevirtual 40, 3) := by decide +kernel
theorem dX4_count_27 : decode cX4_count 27 = .ok (.ireturn, 1) := by decide +kernel
theorem dX4_error_0 : decode cX4_error 0 = .ok (.aload_n 0, 1) := by decide +kernel
theorem dX4_error_1 : decode cX4_error 1 = .ok (.aload_n 0, 1) := by decide +kernel
theorem dX4_error_2 : decode cX4_error 2 = .ok (.iload_n 1, 1) := by decide +kernel
theorem dX4_error_3 : decode cX4_error 3 = .ok (.invokevirtual 92, 3) := by decide +kernel
theorem dX4_error_6 : decode cX4_error 6 = .ok (.ifCond .eq 7, 3) := by decide +kernel
theorem dX4_error_9 : decode cX4_error 9 = .ok (.iconst 0, 1) := by decide +kernel
theorem dX4_error_10 : decode cX4_error 10 = .ok (.goto 4, 3) := by decide +kernel
theorem dX4_error_13 : decode cX4_error 13 = .ok (.iconst 1, 1) := by decide +kernel
theorem dX4_error_14 : decode cX4_error 14 = .ok (.putfield 25, 3) := by decide +kernel
theorem dX4_error_17 : decode cX4_error 17 = .ok (.aload_n 0, 1) := by decide +kernel
theorem dX4_error_18 : decode cX4_error 18 = .ok (.getfield 25, 3) := by decide +kernel
theorem dX4_error_21 : decode cX4_error 21 = .ok (.ifCond .eq 5, 3) := by decide +kernel
theorem dX4_error_24 : decode cX4_error 24 = .ok (.dconst 0, 1) := by decide +kernel
theorem dX4_error_25 : decode cX4_error 25 = .ok (.dreturn, 1) := by decide +kernel
theorem dX4_error_26 : decode cX4_error 26 = .ok (.aload_n 0, 1) := by decide +kernel
theorem dX4_error_27 : decode cX4_error 27 = .ok (.iload_n 1, 1) := by decide +kernel
theorem dX4_error_28 : decode cX4_error 28 = .ok (.invokevirtual 124, 3) := by decide +kernel
theorem dX4_error_31 : decode cX4_error 31 = .ok (.lconst 0, 1) := by decide +kernel
theorem dX4_error_32 : decode cX4_error 32 = .ok (.lstore_n 2, 1) := by decide +kernel
theorem dX4_error_33 : decode cX4_error 33 = .ok (.iconst 0, 1) := by decide +kernel
theorem dX4_error_34 : decode cX4_error 34 = .ok (.istore 4, 2) := by decide +kernel
theorem dX4_error_36 : decode cX4_error 36 = .ok (.iload 4, 2) := by decide +kernel
theorem dX4_error_38 : decode cX4_error 38 = .ok (.aload_n 0, 1) := by decide +kernel
theorem dX4_error_39 : decode cX4_error 39 = .ok (.getfield 103, 3) := by decide +kernel
theorem dX4_error_42 : decode cX4_error 42 = .ok (.if_icmp .ge 30, 3) := by decide +kernel
theorem dX4_error_45 : decode cX4_error 45 = .ok (.aload_n 0, 1) := by decide +kernel
theorem dX4_error_46 : decode cX4_error 46 = .ok (.getfield 103, 3) := by decide +kernel
theorem dX4_error_49 : decode cX4_error 49 = .ok (.iconst 1, 1) := by decide +kernel
theorem dX4_error_50 : decode cX4_error 50 = .ok (.if_icmp .le 22, 3) := by decide +kernel
theorem dX4_error_53 : decode cX4_error 53 = .ok (.lload_n 2, 1) := by decide +kernel
theorem dX4_error_54 : decode cX4_error 54 = .ok (.aload_n 0, 1) := by decide +kernel
theorem dX4_error_55 : decode cX4_error 55 = .ok (.iload 4, 2) := by decide +kernel
theorem dX4_error_57 : decode cX4_error 57 = .ok (.invokevirtual 118, 3) := by decide +kernel
theorem dX4_error_60 : decode cX4_error 60 = .ok (.invokestatic 83, 3) := by decide +kernel
theorem dX4_error_63 : decode cX4_error 63 = .ok (.i2l, 1) := by decide +kernel
theorem dX4_error_64 : decode cX4_error 64 = .ok (.ladd, 1) := by decide +kernel
theorem dX4_error_65 : decode cX4_error 65 = .ok (.lstore_n 2, 1) := by decide +kernel
theorem dX4_error_66 : decode cX4_error 66 = .ok (.iinc 4 1, 3) := by decide +kernel
theorem dX4_error_69 : decode cX4_error 69 = .ok (.goto (-33), 3) := by decide +kernel
theorem dX4_error_72 : decode cX4_error 72 = .ok (.aload_n 0, 1) := by decide +kernel
theorem dX4_error_73 : decode cX4_error 73 = .ok (.getfield 103, 3) := by decide +kernel
theorem dX4_error_76 : decode cX4_error 76 = .ok (.iconst 2, 1) := by decide +kernel
theorem dX4_error_77 : decode cX4_error 77 = .ok (.if_icmp .ge 7, 3) := by decide +kernel
theorem dX4_error_80 : decode cX4_error 80 = .ok (.dconst 0, 1) := by decide +kernel
theorem dX4_error_81 : decode cX4_error 81 = .ok (.goto 11, 3) := by decide +kernel
theorem dX4_error_84 : decode cX4_error 84 = .ok (.lload_n 2, 1) := by decide +kernel
theorem dX4_error_85 : decode cX4_error 85 = .ok (.l2d, 1) := by decide +kernel
theorem dX4_error_86 : decode cX4_error 86 = .ok (.aload_n 0, 1) := by decide +kernel
theorem dX4_error_87 : decode cX4_error 87 = .ok (.getfield 103, 3) := by decide +kernel
theorem dX4_error_90 : decode cX4_error 90 = .ok (.i2d, 1) := by decide +kernel
theorem dX4_error_91 : decode cX4_error 91 = .ok (.ddiv, 1) := by decide +kernel
theorem dX4_error_92 : decode cX4_error 92 = .ok (.dreturn, 1) := by decide +kernel
theorem dX4_digest_0 : decode cX4_digest 0 = .ok (.aload_n 0, 1) := by decide +kernel
theorem dX4_digest_1 : decode cX4_digest 1 = .ok (.iconst 0, 1) := by decide +kernel
theorem dX4_digest_2 : decode cX4_digest 2 = .ok (.putfield 25, 3) := by decide +kernel
theorem dX4_digest_5 : decode cX4_digest 5 = .ok (.ldc2_w 144, 3) := by decide +kernel
theorem dX4_digest_8 : decode cX4_digest 8 = .ok (.lstore_n 1, 1) := by decide +kernel
theorem dX4_digest_9 : decode cX4_digest 9 = .ok (.iconst 0, 1) := by decide +kernel
theorem dX4_digest_10 : decode cX4_digest 10 = .ok (.istore_n 3, 1) := by decide +kernel
theorem dX4_digest_11 : decode cX4_digest 11 = .ok (.iload_n 3, 1) := by decide +kernel
theorem dX4_digest_12 : decode cX4_digest 12 = .ok (.iconst 5, 1) := by decide +kernel
theorem dX4_digest_13 : decode cX4_digest 13 = .ok (.if_icmp .ge 22, 3) := by decide +kernel
theorem dX4_digest_16 : decode cX4_digest 16 = .ok (.lload_n 1, 1) := by decide +kernel
theorem dX4_digest_17 : decode cX4_digest 17 = .ok (.ldc2_w 146, 3) := by decide +kernel
theorem dX4_digest_20 : decode cX4_digest 20 = .ok (.lmul, 1) := by decide +kernel
theorem dX4_digest_21 : decode cX4_digest 21 = .ok (.aload_n 0, 1) := by decide +kernel
theorem dX4_digest_22 : decode cX4_digest 22 = .ok (.iload_n 3, 1) := by decide +kernel
theorem dX4_digest_23 : decode cX4_digest 23 = .ok (.invokevirtual 141, 3) := by decide +kernel
theorem dX4_digest_26 : decode cX4_digest 26 = .ok (.i2l, 1) := by decide +kernel
theorem dX4_digest_27 : decode cX4_digest 27 = .ok (.ladd, 1) := by decide +kernel
theorem dX4_digest_28 : decode cX4_digest 28 = .ok (.lstore_n 1, 1) := by decide +kernel
theorem dX4_digest_29 : decode cX4_digest 29 = .ok (.iinc 3 1, 3) := by decide +kernel
theorem dX4_digest_32 : decode cX4_digest 32 = .ok (.goto (-21), 3) := by decide +kernel
theorem dX4_digest_35 : decode cX4_digest 35 = .ok (.iconst 0, 1) := by decide +kernel
theorem dX4_digest_36 : decode cX4_digest 36 = .ok (.istore_n 3, 1) := by decide +kernel
theorem dX4_digest_37 : decode cX4_digest 37 = .ok (.iload_n 3, 1) := by decide +kernel
theorem dX4_digest_38 : decode cX4_digest 38 = .ok (.aload_n 0, 1) := by decide +kernel
theorem dX4_digest_39 : decode cX4_digest 39 = .ok (.getfield 34, 3) := by decide +kernel
theorem dX4_digest_42 : decode cX4_digest 42 = .ok (.if_icmp .ge 40, 3) := by decide +kernel
theorem dX4_digest_45 : decode cX4_digest 45 = .ok (.iconst 0, 1) := by decide +kernel
theorem dX4_digest_46 : decode cX4_digest 46 = .ok (.istore 4, 2) := by decide +kernel
theorem dX4_digest_48 : decode cX4_digest 48 = .ok (.iload 4, 2) := by decide +kernel
theorem dX4_digest_50 : decode cX4_digest 50 = .ok (.bipush 6, 2) := by decide +kernel
theorem dX4_digest_52 : decode cX4_digest 52 = .ok (.if_icmp .ge 24, 3) := by decide +kernel
theorem dX4_digest_55 : decode cX4_digest 55 = .ok (.lload_n 1, 1) := by decide +kernel
theorem dX4_digest_56 : decode cX4_digest 56 = .ok (.ldc2_w 146, 3) := by decide +kernel
theorem dX4_digest_59 : decode cX4_digest 59 = .ok (.lmul, 1) := by decide +kernel
theorem dX4_digest_60 : decode cX4_digest 60 = .ok (.aload_n 0, 1) := by decide +kernel
theorem dX4_digest_61 : decode cX4_digest 61 = .ok (.iload_n 3, 1) := by decide +kernel
theorem dX4_digest_62 : decode cX4_digest 62 = .ok (.iload 4, 2) := by decide +kernel
theorem dX4_digest_64 : decode cX4_digest 64 = .ok (.invokevirtual 65, 3) := by decide +kernel
theorem dX4_digest_67 : decode cX4_digest 67 = .ok (.i2l, 1) := by decide +kernel
theorem dX4_digest_68 : decode cX4_digest 68 = .ok (.ladd, 1) := by decide +kernel
theorem dX4_digest_69 : decode cX4_digest 69 = .ok (.lstore_n 1, 1) := by decide +kernel
theorem dX4_digest_70 : decode cX4_digest 70 = .ok (.iinc 4 1, 3) := by decide +kernel
theorem dX4_digest_73 : decode cX4_digest 73 = .ok (.goto (-25), 3) := by decide +kernel
theorem dX4_digest_76 : decode cX4_digest 76 = .ok (.iinc 3 1, 3) := by decide +kernel
theorem dX4_digest_79 : decode cX4_digest 79 = .ok (.goto (-42), 3) := by decide +kernel
theorem dX4_digest_82 : decode cX4_digest 82 = .ok (.iconst 0, 1) := by decide +kernel
theorem dX4_digest_83 : decode cX4_digest 83 = .ok (.istore_n 3, 1) := by decide +kernel
theorem dX4_digest_84 : decode cX4_digest 84 = .ok (.iload_n 3, 1) := by decide +kernel
theorem dX4_digest_85 : decode cX4_digest 85 = .ok (.aload_n 0, 1) := by decide +kernel
theorem dX4_digest_86 : decode cX4_digest 86 = .ok (.getfield 37, 3) := by decide +kernel
theorem dX4_digest_89 : decode cX4_digest 89 = .ok (.if_icmp .ge 73, 3) := by decide +kernel
theorem dX4_digest_92 : decode cX4_digest 92 = .ok (.iconst 0, 1) := by decide +kernel
theorem dX4_digest_93 : decode cX4_digest 93 = .ok (.istore 4, 2) := by decide +kernel
theorem dX4_digest_95 : decode cX4_digest 95 = .ok (.iload 4, 2) := by decide +kernel
theorem dX4_digest_97 : decode cX4_digest 97 = .ok (.bipush 7, 2) := by decide +kernel
theorem dX4_digest_99 : decode cX4_digest 99 = .ok (.if_icmp .ge 24, 3) := by decide +kernel
theorem dX4_digest_102 : decode cX4_digest 102 = .ok (.lload_n 1, 1) := by decide +kernel
theorem dX4_digest_103 : decode cX4_digest 103 = .ok (.ldc2_w 146, 3) := by decide +kernel
theorem dX4_digest_106 : decode cX4_digest 106 = .ok (.lmul, 1) := by decide +kernel
theorem dX4_digest_107 : decode cX4_digest 107 = .ok (.aload_n 0, 1) := by decide +kernel
theorem dX4_digest_108 : decode cX4_digest 108 = .ok (.iload_n 3, 1) := by decide +kernel
theorem dX4_digest_109 : decode cX4_digest 109 = .ok (.iload 4, 2) := by decide +kernel
theorem dX4_digest_111 : decode cX4_digest 111 = .ok (.invokevirtual 135, 3) := by decide +kernel
theorem dX4_digest_114 : decode cX4_digest 114 = .ok (.i2l, 1) := by decide +kernel
theorem dX4_digest_115 : decode cX4_digest 115 = .ok (.ladd, 1) := by decide +kernel
theorem dX4_digest_116 : decode cX4_digest 116 = .ok (.lstore_n 1, 1) := by decide +kernel
theorem dX4_digest_117 : decode cX4_digest 117 = .ok (.iinc 4 1, 3) := by decide +kernel
theorem dX4_digest_120 : decode cX4_digest 120 = .ok (.goto (-25), 3) := by decide +kernel
theorem dX4_digest_123 : decode cX4_digest 123 = .ok (.iconst 0, 1) := by decide +kernel
theorem dX4_digest_124 : decode cX4_digest 124 = .ok (.istore 4, 2) := by decide +kernel
theorem dX4_digest_126 : decode cX4_digest 126 = .ok (.iload 4, 2) := by decide +kernel
theorem dX4_digest_128 : decode cX4_digest 128 = .ok (.aload_n 0, 1) := by decide +kernel
theorem dX4_digest_129 : decode cX4_digest 129 = .ok (.getfield 34, 3) := by decide +kernel
theorem dX4_digest_132 : decode cX4_digest 132 = .ok (.if_icmp .ge 24, 3) := by decide +kernel
theorem dX4_digest_135 : decode cX4_digest 135 = .ok (.lload_n 1, 1) := by decide +kernel
theorem dX4_digest_136 : decode cX4_digest 136 = .ok (.ldc2_w 146, 3) := by decide +kernel
theorem dX4_digest_139 : decode cX4_digest 139 = .ok (.lmul, 1) := by decide +kernel
theorem dX4_digest_140 : decode cX4_digest 140 = .ok (.aload_n 0, 1) := by decide +kernel
theorem dX4_digest_141 : decode cX4_digest 141 = .ok (.iload_n 3, 1) := by decide +kernel
theorem dX4_digest_142 : decode cX4_digest 142 = .ok (.iload 4, 2) := by decide +kernel
theorem dX4_digest_144 : decode cX4_digest 144 = .ok (.invokevirtual 95, 3) := by decide +kernel
theorem dX4_digest_147 : decode cX4_digest 147 = .ok (.i2l, 1) := by decide +kernel
theorem dX4_digest_148 : decode cX4_digest 148 = .ok (.ladd, 1) := by decide +kernel
theorem dX4_digest_149 : decode cX4_digest 149 = .ok (.lstore_n 1, 1) := by decide +kernel
theorem dX4_digest_150 : decode cX4_digest 150 = .ok (.iinc 4 1, 3) := by decide +kernel
theorem dX4_digest_153 : decode cX4_digest 153 = .ok (.goto (-27), 3) := by decide +kernel
theorem dX4_digest_156 : decode cX4_digest 156 = .ok (.iinc 3 1, 3) := by decide +kernel
theorem dX4_digest_159 : decode cX4_digest 159 = .ok (.goto (-75), 3) := by decide +kernel
theorem dX4_digest_162 : decode cX4_digest 162 = .ok (.lload_n 1, 1) := by decide +kernel
theorem dX4_digest_163 : decode cX4_digest 163 = .ok (.lreturn, 1) := by decide +kernel
