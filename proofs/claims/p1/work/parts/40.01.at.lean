theorem at_44_44 : am_at (am_m 44) 44 = some (.ifCond .eq 32, 76) := by decide +kernel
theorem at_44_47 : am_at (am_m 44) 47 = some (.bipush 10, 0) := by decide +kernel
theorem at_44_49 : am_at (am_m 44) 49 = some (.iload_n 1, 0) := by decide +kernel
theorem at_44_50 : am_at (am_m 44) 50 = some (.imul, 0) := by decide +kernel
theorem at_44_51 : am_at (am_m 44) 51 = some (.aload_n 0, 0) := by decide +kernel
theorem at_44_52 : am_at (am_m 44) 52 = some (.invokevirtual 76, 36) := by decide +kernel
theorem at_44_55 : am_at (am_m 44) 55 = some (.iadd, 0) := by decide +kernel
theorem at_44_56 : am_at (am_m 44) 56 = some (.bipush 48, 0) := by decide +kernel
theorem at_44_58 : am_at (am_m 44) 58 = some (.isub, 0) := by decide +kernel
theorem at_44_59 : am_at (am_m 44) 59 = some (.istore_n 1, 0) := by decide +kernel
theorem at_44_60 : am_at (am_m 44) 60 = some (.aload_n 0, 0) := by decide +kernel
theorem at_44_61 : am_at (am_m 44) 61 = some (.dup, 0) := by decide +kernel
theorem at_44_62 : am_at (am_m 44) 62 = some (.getfield 19, 2306) := by decide +kernel
theorem at_44_65 : am_at (am_m 44) 65 = some (.iconst 1, 0) := by decide +kernel
theorem at_44_66 : am_at (am_m 44) 66 = some (.iadd, 0) := by decide +kernel
theorem at_44_67 : am_at (am_m 44) 67 = some (.putfield 19, 2306) := by decide +kernel
theorem at_44_70 : am_at (am_m 44) 70 = some (.iinc 2 1, 0) := by decide +kernel
theorem at_44_73 : am_at (am_m 44) 73 = some (.goto (-48), 25) := by decide +kernel
theorem at_44_76 : am_at (am_m 44) 76 = some (.iload_n 1, 0) := by decide +kernel
theorem at_44_77 : am_at (am_m 44) 77 = some (.ireturn, 0) := by decide +kernel
theorem at_45_0 : am_at (am_m 45) 0 = some (.iload_n 0, 0) := by decide +kernel
theorem at_45_1 : am_at (am_m 45) 1 = some (.bipush 48, 0) := by decide +kernel
theorem at_45_3 : am_at (am_m 45) 3 = some (.if_icmp .lt 13, 16) := by decide +kernel
theorem at_45_6 : am_at (am_m 45) 6 = some (.iload_n 0, 0) := by decide +kernel
theorem at_45_7 : am_at (am_m 45) 7 = some (.bipush 57, 0) := by decide +kernel
theorem at_45_9 : am_at (am_m 45) 9 = some (.if_icmp .gt 7, 16) := by decide +kernel
theorem at_45_12 : am_at (am_m 45) 12 = some (.iconst 1, 0) := by decide +kernel
theorem at_45_13 : am_at (am_m 45) 13 = some (.goto 4, 17) := by decide +kernel
theorem at_45_16 : am_at (am_m 45) 16 = some (.iconst 0, 0) := by decide +kernel
theorem at_45_17 : am_at (am_m 45) 17 = some (.ireturn, 0) := by decide +kernel
theorem at_46_0 : am_at (am_m 46) 0 = some (.aload_n 0, 0) := by decide +kernel
theorem at_46_1 : am_at (am_m 46) 1 = some (.iconst 2, 0) := by decide +kernel
theorem at_46_2 : am_at (am_m 46) 2 = some (.bipush 8, 0) := by decide +kernel
theorem at_46_4 : am_at (am_m 46) 4 = some (.invokevirtual 131, 47) := by decide +kernel
theorem at_46_7 : am_at (am_m 46) 7 = some (.istore_n 1, 0) := by decide +kernel
theorem at_46_8 : am_at (am_m 46) 8 = some (.aload_n 0, 0) := by decide +kernel
theorem at_46_9 : am_at (am_m 46) 9 = some (.getfield 25, 2308) := by decide +kernel
theorem at_46_12 : am_at (am_m 46) 12 = some (.iconst 3, 0) := by decide +kernel
theorem at_46_13 : am_at (am_m 46) 13 = some (.iload_n 1, 0) := by decide +kernel
theorem at_46_14 : am_at (am_m 46) 14 = some (.invokevirtual 48, 34) := by decide +kernel
theorem at_46_17 : am_at (am_m 46) 17 = some (.aload_n 0, 0) := by decide +kernel
theorem at_46_18 : am_at (am_m 46) 18 = some (.bipush 58, 0) := by decide +kernel
theorem at_46_20 : am_at (am_m 46) 20 = some (.invokevirtual 117, 42) := by decide +kernel
theorem at_46_23 : am_at (am_m 46) 23 = some (.pop, 0) := by decide +kernel
theorem at_46_24 : am_at (am_m 46) 24 = some (.iconst 0, 0) := by decide +kernel
theorem at_46_25 : am_at (am_m 46) 25 = some (.istore_n 2, 0) := by decide +kernel
theorem at_46_26 : am_at (am_m 46) 26 = some (.iload_n 2, 0) := by decide +kernel
theorem at_46_27 : am_at (am_m 46) 27 = some (.bipush 40, 0) := by decide +kernel
theorem at_46_29 : am_at (am_m 46) 29 = some (.if_icmp .gt 76, 105) := by decide +kernel
theorem at_46_32 : am_at (am_m 46) 32 = some (.aload_n 0, 0) := by decide +kernel
theorem at_46_33 : am_at (am_m 46) 33 = some (.getfield 22, 2307) := by decide +kernel
theorem at_46_36 : am_at (am_m 46) 36 = some (.ifCond .ge 69, 105) := by decide +kernel
theorem at_46_39 : am_at (am_m 46) 39 = some (.aload_n 0, 0) := by decide +kernel
theorem at_46_40 : am_at (am_m 46) 40 = some (.getfield 19, 2306) := by decide +kernel
theorem at_46_43 : am_at (am_m 46) 43 = some (.aload_n 0, 0) := by decide +kernel
theorem at_46_44 : am_at (am_m 46) 44 = some (.getfield 15, 2305) := by decide +kernel
theorem at_46_47 : am_at (am_m 46) 47 = some (.if_icmp .ge 58, 105) := by decide +kernel
theorem at_46_50 : am_at (am_m 46) 50 = some (.iload_n 2, 0) := by decide +kernel
theorem at_46_51 : am_at (am_m 46) 51 = some (.ifCond .le 10, 61) := by decide +kernel
theorem at_46_54 : am_at (am_m 46) 54 = some (.aload_n 0, 0) := by decide +kernel
theorem at_46_55 : am_at (am_m 46) 55 = some (.bipush 44, 0) := by decide +kernel
theorem at_46_57 : am_at (am_m 46) 57 = some (.invokevirtual 117, 42) := by decide +kernel
theorem at_46_60 : am_at (am_m 46) 60 = some (.pop, 0) := by decide +kernel
theorem at_46_61 : am_at (am_m 46) 61 = some (.iload_n 2, 0) := by decide +kernel
theorem at_46_62 : am_at (am_m 46) 62 = some (.bipush 40, 0) := by decide +kernel
theorem at_46_64 : am_at (am_m 46) 64 = some (.if_icmp .ne 7, 71) := by decide +kernel
theorem at_46_67 : am_at (am_m 46) 67 = some (.aload_n 0, 0) := by decide +kernel
theorem at_46_68 : am_at (am_m 46) 68 = some (.invokevirtual 65, 39) := by decide +kernel
theorem at_46_71 : am_at (am_m 46) 71 = some (.aload_n 0, 0) := by decide +kernel
theorem at_46_72 : am_at (am_m 46) 72 = some (.iconst 0, 0) := by decide +kernel
theorem at_46_73 : am_at (am_m 46) 73 = some (.iload_n 1, 0) := by decide +kernel
theorem at_46_74 : am_at (am_m 46) 74 = some (.iconst 1, 0) := by decide +kernel
theorem at_46_75 : am_at (am_m 46) 75 = some (.isub, 0) := by decide +kernel
theorem at_46_76 : am_at (am_m 46) 76 = some (.invokevirtual 131, 47) := by decide +kernel
theorem at_46_79 : am_at (am_m 46) 79 = some (.istore_n 3, 0) := by decide +kernel
theorem at_46_80 : am_at (am_m 46) 80 = some (.aload_n 0, 0) := by decide +kernel
theorem at_46_81 : am_at (am_m 46) 81 = some (.getfield 25, 2308) := by decide +kernel
theorem at_46_84 : am_at (am_m 46) 84 = some (.iload_n 3, 0) := by decide +kernel
theorem at_46_85 : am_at (am_m 46) 85 = some (.aload_n 0, 0) := by decide +kernel
theorem at_46_86 : am_at (am_m 46) 86 = some (.iload_n 3, 0) := by decide +kernel
theorem at_46_87 : am_at (am_m 46) 87 = some (.iconst 1, 0) := by decide +kernel
theorem at_46_88 : am_at (am_m 46) 88 = some (.iadd, 0) := by decide +kernel
theorem at_46_89 : am_at (am_m 46) 89 = some (.iload_n 1, 0) := by decide +kernel
theorem at_46_90 : am_at (am_m 46) 90 = some (.iconst 1, 0) := by decide +kernel
theorem at_46_91 : am_at (am_m 46) 91 = some (.isub, 0) := by decide +kernel
theorem at_46_92 : am_at (am_m 46) 92 = some (.invokevirtual 131, 47) := by decide +kernel
theorem at_46_95 : am_at (am_m 46) 95 = some (.invokevirtual 101, 41) := by decide +kernel
theorem at_46_98 : am_at (am_m 46) 98 = some (.pop, 0) := by decide +kernel
theorem at_46_99 : am_at (am_m 46) 99 = some (.iinc 2 1, 0) := by decide +kernel
theorem at_46_102 : am_at (am_m 46) 102 = some (.goto (-76), 26) := by decide +kernel
theorem at_46_105 : am_at (am_m 46) 105 = some (.return_, 0) := by decide +kernel
theorem at_47_0 : am_at (am_m 47) 0 = some (.aload_n 0, 0) := by decide +kernel
theorem at_47_1 : am_at (am_m 47) 1 = some (.invokevirtual 76, 36) := by decide +kernel
theorem at_47_4 : am_at (am_m 47) 4 = some (.bipush 48, 0) := by decide +kernel
theorem at_47_6 : am_at (am_m 47) 6 = some (.isub, 0) := by decide +kernel
theorem at_47_7 : am_at (am_m 47) 7 = some (.istore_n 3, 0) := by decide +kernel
theorem at_47_8 : am_at (am_m 47) 8 = some (.aload_n 0, 0) := by decide +kernel
theorem at_47_9 : am_at (am_m 47) 9 = some (.getfield 22, 2307) := by decide +kernel
theorem at_47_12 : am_at (am_m 47) 12 = some (.ifCond .ge 13, 25) := by decide +kernel
theorem at_47_15 : am_at (am_m 47) 15 = some (.iload_n 3, 0) := by decide +kernel
theorem at_47_16 : am_at (am_m 47) 16 = some (.iload_n 1, 0) := by decide +kernel
theorem at_47_17 : am_at (am_m 47) 17 = some (.if_icmp .lt 8, 25) := by decide +kernel
theorem at_47_20 : am_at (am_m 47) 20 = some (.iload_n 3, 0) := by decide +kernel
theorem at_47_21 : am_at (am_m 47) 21 = some (.iload_n 2, 0) := by decide +kernel
theorem at_47_22 : am_at (am_m 47) 22 = some (.if_icmp .le 9, 31) := by decide +kernel
theorem at_47_25 : am_at (am_m 47) 25 = some (.aload_n 0, 0) := by decide +kernel
theorem at_47_26 : am_at (am_m 47) 26 = some (.invokevirtual 65, 39) := by decide +kernel
theorem at_47_29 : am_at (am_m 47) 29 = some (.iconst 0, 0) := by decide +kernel
theorem at_47_30 : am_at (am_m 47) 30 = some (.ireturn, 0) := by decide +kernel
theorem at_47_31 : am_at (am_m 47) 31 = some (.aload_n 0, 0) := by decide +kernel
theorem at_47_32 : am_at (am_m 47) 32 = some (.dup, 0) := by decide +kernel
theorem at_47_33 : am_at (am_m 47) 33 = some (.getfield 19, 2306) := by decide +kernel
theorem at_47_36 : am_at (am_m 47) 36 = some (.iconst 1, 0) := by decide +kernel
theorem at_47_37 : am_at (am_m 47) 37 = some (.iadd, 0) := by decide +kernel
theorem at_47_38 : am_at (am_m 47) 38 = some (.putfield 19, 2306) := by decide +kernel
theorem at_47_41 : am_at (am_m 47) 41 = some (.iload_n 3, 0) := by decide +kernel
theorem at_47_42 : am_at (am_m 47) 42 = some (.ireturn, 0) := by decide +kernel
theorem at_48_0 : am_at (am_m 48) 0 = some (.iload_n 1, 0) := by decide +kernel
theorem at_48_1 : am_at (am_m 48) 1 = some (.iconst 1, 0) := by decide +kernel
theorem at_48_2 : am_at (am_m 48) 2 = some (.if_icmp .ne 8, 10) := by decide +kernel
theorem at_48_5 : am_at (am_m 48) 5 = some (.bipush 60, 0) := by decide +kernel
theorem at_48_7 : am_at (am_m 48) 7 = some (.goto 5, 12) := by decide +kernel
theorem at_48_10 : am_at (am_m 48) 10 = some (.bipush 6, 0) := by decide +kernel
theorem at_48_12 : am_at (am_m 48) 12 = some (.istore_n 2, 0) := by decide +kernel
theorem at_48_13 : am_at (am_m 48) 13 = some (.iconst 0, 0) := by decide +kernel
theorem at_48_14 : am_at (am_m 48) 14 = some (.istore_n 3, 0) := by decide +kernel
theorem at_48_15 : am_at (am_m 48) 15 = some (.iload_n 3, 0) := by decide +kernel
theorem at_48_16 : am_at (am_m 48) 16 = some (.iload_n 2, 0) := by decide +kernel
theorem at_48_17 : am_at (am_m 48) 17 = some (.if_icmp .gt 94, 111) := by decide +kernel
theorem at_48_20 : am_at (am_m 48) 20 = some (.aload_n 0, 0) := by decide +kernel
theorem at_48_21 : am_at (am_m 48) 21 = some (.getfield 22, 2307) := by decide +kernel
theorem at_48_24 : am_at (am_m 48) 24 = some (.ifCond .ge 87, 111) := by decide +kernel
theorem at_48_27 : am_at (am_m 48) 27 = some (.iload_n 3, 0) := by decide +kernel
theorem at_48_28 : am_at (am_m 48) 28 = some (.ifCond .eq 14, 42) := by decide +kernel
theorem at_48_31 : am_at (am_m 48) 31 = some (.aload_n 0, 0) := by decide +kernel
theorem at_48_32 : am_at (am_m 48) 32 = some (.getfield 19, 2306) := by decide +kernel
theorem at_48_35 : am_at (am_m 48) 35 = some (.aload_n 0, 0) := by decide +kernel
theorem at_48_36 : am_at (am_m 48) 36 = some (.getfield 15, 2305) := by decide +kernel
theorem at_48_39 : am_at (am_m 48) 39 = some (.if_icmp .ge 72, 111) := by decide +kernel
theorem at_48_42 : am_at (am_m 48) 42 = some (.iload_n 3, 0) := by decide +kernel
theorem at_48_43 : am_at (am_m 48) 43 = some (.ifCond .le 23, 66) := by decide +kernel
theorem at_48_46 : am_at (am_m 48) 46 = some (.aload_n 0, 0) := by decide +kernel
theorem at_48_47 : am_at (am_m 48) 47 = some (.iload_n 1, 0) := by decide +kernel
theorem at_48_48 : am_at (am_m 48) 48 = some (.iconst 1, 0) := by decide +kernel
theorem at_48_49 : am_at (am_m 48) 49 = some (.if_icmp .ne 8, 57) := by decide +kernel
theorem at_48_52 : am_at (am_m 48) 52 = some (.bipush 32, 0) := by decide +kernel
theorem at_48_54 : am_at (am_m 48) 54 = some (.goto 5, 59) := by decide +kernel
theorem at_48_57 : am_at (am_m 48) 57 = some (.bipush 59, 0) := by decide +kernel
theorem at_48_59 : am_at (am_m 48) 59 = some (.invokevirtual 117, 42) := by decide +kernel
theorem at_48_62 : am_at (am_m 48) 62 = some (.ifCond .ne 4, 66) := by decide +kernel
theorem at_48_65 : am_at (am_m 48) 65 = some (.return_, 0) := by decide +kernel
theorem at_48_66 : am_at (am_m 48) 66 = some (.iload_n 3, 0) := by decide +kernel
theorem at_48_67 : am_at (am_m 48) 67 = some (.iload_n 2, 0) := by decide +kernel
theorem at_48_68 : am_at (am_m 48) 68 = some (.if_icmp .ne 10, 78) := by decide +kernel
theorem at_48_71 : am_at (am_m 48) 71 = some (.aload_n 0, 0) := by decide +kernel
theorem at_48_72 : am_at (am_m 48) 72 = some (.invokevirtual 65, 39) := by decide +kernel
theorem at_48_75 : am_at (am_m 48) 75 = some (.goto 30, 105) := by decide +kernel
theorem at_48_78 : am_at (am_m 48) 78 = some (.iload_n 1, 0) := by decide +kernel
theorem at_48_79 : am_at (am_m 48) 79 = some (.iconst 1, 0) := by decide +kernel
theorem at_48_80 : am_at (am_m 48) 80 = some (.if_icmp .ne 20, 100) := by decide +kernel
theorem at_48_83 : am_at (am_m 48) 83 = some (.aload_n 0, 0) := by decide +kernel
theorem at_48_84 : am_at (am_m 48) 84 = some (.getfield 29, 2309) := by decide +kernel
theorem at_48_87 : am_at (am_m 48) 87 = some (.iload_n 3, 0) := by decide +kernel
theorem at_48_88 : am_at (am_m 48) 88 = some (.aload_n 0, 0) := by decide +kernel
theorem at_48_89 : am_at (am_m 48) 89 = some (.getfield 19, 2306) := by decide +kernel
theorem at_48_92 : am_at (am_m 48) 92 = some (.iastore, 0) := by decide +kernel
theorem at_48_93 : am_at (am_m 48) 93 = some (.aload_n 0, 0) := by decide +kernel
theorem at_48_94 : am_at (am_m 48) 94 = some (.invokevirtual 123, 49) := by decide +kernel
theorem at_48_97 : am_at (am_m 48) 97 = some (.goto 8, 105) := by decide +kernel
theorem at_48_100 : am_at (am_m 48) 100 = some (.aload_n 0, 0) := by decide +kernel
theorem at_48_101 : am_at (am_m 48) 101 = some (.iload_n 3, 0) := by decide +kernel
theorem at_48_102 : am_at (am_m 48) 102 = some (.invokevirtual 126, 50) := by decide +kernel
theorem at_48_105 : am_at (am_m 48) 105 = some (.iinc 3 1, 0) := by decide +kernel
theorem at_48_108 : am_at (am_m 48) 108 = some (.goto (-93), 15) := by decide +kernel
theorem at_48_111 : am_at (am_m 48) 111 = some (.return_, 0) := by decide +kernel
theorem at_49_0 : am_at (am_m 49) 0 = some (.aload_n 0, 0) := by decide +kernel
theorem at_49_1 : am_at (am_m 49) 1 = some (.invokevirtual 76, 36) := by decide +kernel
theorem at_49_4 : am_at (am_m 49) 4 = some (.istore_n 1, 0) := by decide +kernel
theorem at_49_5 : am_at (am_m 49) 5 = some (.iload_n 1, 0) := by decide +kernel
theorem at_49_6 : am_at (am_m 49) 6 = some (.bipush 45, 0) := by decide +kernel
theorem at_49_8 : am_at (am_m 49) 8 = some (.if_icmp .ne 37, 45) := by decide +kernel
theorem at_49_11 : am_at (am_m 49) 11 = some (.aload_n 0, 0) := by decide +kernel
theorem at_49_12 : am_at (am_m 49) 12 = some (.getfield 19, 2306) := by decide +kernel
theorem at_49_15 : am_at (am_m 49) 15 = some (.iconst 1, 0) := by decide +kernel
theorem at_49_16 : am_at (am_m 49) 16 = some (.iadd, 0) := by decide +kernel
theorem at_49_17 : am_at (am_m 49) 17 = some (.aload_n 0, 0) := by decide +kernel
theorem at_49_18 : am_at (am_m 49) 18 = some (.getfield 15, 2305) := by decide +kernel
theorem at_49_21 : am_at (am_m 49) 21 = some (.if_icmp .ge 24, 45) := by decide +kernel
theorem at_49_24 : am_at (am_m 49) 24 = some (.aload_n 0, 0) := by decide +kernel
theorem at_49_25 : am_at (am_m 49) 25 = some (.getfield 9, 2304) := by decide +kernel
theorem at_49_28 : am_at (am_m 49) 28 = some (.aload_n 0, 0) := by decide +kernel
theorem at_49_29 : am_at (am_m 49) 29 = some (.getfield 19, 2306) := by decide +kernel
theorem at_49_32 : am_at (am_m 49) 32 = some (.iconst 1, 0) := by decide +kernel
theorem at_49_33 : am_at (am_m 49) 33 = some (.iadd, 0) := by decide +kernel
theorem at_49_34 : am_at (am_m 49) 34 = some (.caload, 0) := by decide +kernel
theorem at_49_35 : am_at (am_m 49) 35 = some (.invokestatic 80, 45) := by decide +kernel
theorem at_49_38 : am_at (am_m 49) 38 = some (.ifCond .eq 7, 45) := by decide +kernel
theorem at_49_41 : am_at (am_m 49) 41 = some (.iconst 1, 0) := by decide +kernel
theorem at_49_42 : am_at (am_m 49) 42 = some (.goto 4, 46) := by decide +kernel
theorem at_49_45 : am_at (am_m 49) 45 = some (.iconst 0, 0) := by decide +kernel
theorem at_49_46 : am_at (am_m 49) 46 = some (.istore_n 2, 0) := by decide +kernel
theorem at_49_47 : am_at (am_m 49) 47 = some (.ldc 129, 7) := by decide +kernel
theorem at_49_49 : am_at (am_m 49) 49 = some (.iload_n 1, 0) := by decide +kernel
theorem at_49_50 : am_at (am_m 49) 50 = some (.invokevirtual 89, 10001) := by decide +kernel
theorem at_49_53 : am_at (am_m 49) 53 = some (.istore_n 3, 0) := by decide +kernel
theorem at_49_54 : am_at (am_m 49) 54 = some (.iload_n 2, 0) := by decide +kernel
theorem at_49_55 : am_at (am_m 49) 55 = some (.ifCond .ne 10, 65) := by decide +kernel
theorem at_49_58 : am_at (am_m 49) 58 = some (.iload_n 1, 0) := by decide +kernel
theorem at_49_59 : am_at (am_m 49) 59 = some (.invokestatic 80, 45) := by decide +kernel
theorem at_49_62 : am_at (am_m 49) 62 = some (.ifCond .eq 19, 81) := by decide +kernel
theorem at_49_65 : am_at (am_m 49) 65 = some (.aload_n 0, 0) := by decide +kernel
theorem at_49_66 : am_at (am_m 49) 66 = some (.getfield 25, 2308) := by decide +kernel
theorem at_49_69 : am_at (am_m 49) 69 = some (.iconst 0, 0) := by decide +kernel
theorem at_49_70 : am_at (am_m 49) 70 = some (.aload_n 0, 0) := by decide +kernel
theorem at_49_71 : am_at (am_m 49) 71 = some (.invokevirtual 105, 43) := by decide +kernel
theorem at_49_74 : am_at (am_m 49) 74 = some (.invokevirtual 101, 41) := by decide +kernel
theorem at_49_77 : am_at (am_m 49) 77 = some (.pop, 0) := by decide +kernel
theorem at_49_78 : am_at (am_m 49) 78 = some (.goto 86, 164) := by decide +kernel
theorem at_49_81 : am_at (am_m 49) 81 = some (.iload_n 3, 0) := by decide +kernel
theorem at_49_82 : am_at (am_m 49) 82 = some (.ifCond .lt 28, 110) := by decide +kernel
theorem at_49_85 : am_at (am_m 49) 85 = some (.aload_n 0, 0) := by decide +kernel
theorem at_49_86 : am_at (am_m 49) 86 = some (.dup, 0) := by decide +kernel
theorem at_49_87 : am_at (am_m 49) 87 = some (.getfield 19, 2306) := by decide +kernel
theorem at_49_90 : am_at (am_m 49) 90 = some (.iconst 1, 0) := by decide +kernel
theorem at_49_91 : am_at (am_m 49) 91 = some (.iadd, 0) := by decide +kernel
theorem at_49_92 : am_at (am_m 49) 92 = some (.putfield 19, 2306) := by decide +kernel
theorem at_49_95 : am_at (am_m 49) 95 = some (.aload_n 0, 0) := by decide +kernel
theorem at_49_96 : am_at (am_m 49) 96 = some (.getfield 25, 2308) := by decide +kernel
theorem at_49_99 : am_at (am_m 49) 99 = some (.iload_n 3, 0) := by decide +kernel
theorem at_49_100 : am_at (am_m 49) 100 = some (.iconst 1, 0) := by decide +kernel
theorem at_49_101 : am_at (am_m 49) 101 = some (.iadd, 0) := by decide +kernel
theorem at_49_102 : am_at (am_m 49) 102 = some (.iconst 0, 0) := by decide +kernel
theorem at_49_103 : am_at (am_m 49) 103 = some (.invokevirtual 101, 41) := by decide +kernel
theorem at_49_106 : am_at (am_m 49) 106 = some (.pop, 0) := by decide +kernel
theorem at_49_107 : am_at (am_m 49) 107 = some (.goto 57, 164) := by decide +kernel
theorem at_49_110 : am_at (am_m 49) 110 = some (.iload_n 1, 0) := by decide +kernel
theorem at_49_111 : am_at (am_m 49) 111 = some (.bipush 106, 0) := by decide +kernel
theorem at_49_113 : am_at (am_m 49) 113 = some (.if_icmp .eq 9, 122) := by decide +kernel
theorem at_49_116 : am_at (am_m 49) 116 = some (.iload_n 1, 0) := by decide +kernel
theorem at_49_117 : am_at (am_m 49) 117 = some (.bipush 98, 0) := by decide +kernel
theorem at_49_119 : am_at (am_m 49) 119 = some (.if_icmp .ne 41, 160) := by decide +kernel
theorem at_49_122 : am_at (am_m 49) 122 = some (.aload_n 0, 0) := by decide +kernel
theorem at_49_123 : am_at (am_m 49) 123 = some (.dup, 0) := by decide +kernel
theorem at_49_124 : am_at (am_m 49) 124 = some (.getfield 19, 2306) := by decide +kernel
theorem at_49_127 : am_at (am_m 49) 127 = some (.iconst 1, 0) := by decide +kernel
theorem at_49_128 : am_at (am_m 49) 128 = some (.iadd, 0) := by decide +kernel
theorem at_49_129 : am_at (am_m 49) 129 = some (.putfield 19, 2306) := by decide +kernel
theorem at_49_132 : am_at (am_m 49) 132 = some (.aload_n 0, 0) := by decide +kernel
theorem at_49_133 : am_at (am_m 49) 133 = some (.getfield 25, 2308) := by decide +kernel
theorem at_49_136 : am_at (am_m 49) 136 = some (.iload_n 1, 0) := by decide +kernel
theorem at_49_137 : am_at (am_m 49) 137 = some (.bipush 106, 0) := by decide +kernel
theorem at_49_139 : am_at (am_m 49) 139 = some (.if_icmp .ne 8, 147) := by decide +kernel
theorem at_49_142 : am_at (am_m 49) 142 = some (.bipush 17, 0) := by decide +kernel
theorem at_49_144 : am_at (am_m 49) 144 = some (.goto 5, 149) := by decide +kernel
theorem at_49_147 : am_at (am_m 49) 147 = some (.bipush 18, 0) := by decide +kernel
theorem at_49_149 : am_at (am_m 49) 149 = some (.aload_n 0, 0) := by decide +kernel
theorem at_49_150 : am_at (am_m 49) 150 = some (.invokevirtual 84, 44) := by decide +kernel
theorem at_49_153 : am_at (am_m 49) 153 = some (.invokevirtual 101, 41) := by decide +kernel
theorem at_49_156 : am_at (am_m 49) 156 = some (.pop, 0) := by decide +kernel
theorem at_49_157 : am_at (am_m 49) 157 = some (.goto 7, 164) := by decide +kernel
theorem at_49_160 : am_at (am_m 49) 160 = some (.aload_n 0, 0) := by decide +kernel
theorem at_49_161 : am_at (am_m 49) 161 = some (.invokevirtual 65, 39) := by decide +kernel
theorem at_49_164 : am_at (am_m 49) 164 = some (.return_, 0) := by decide +kernel
theorem at_50_0 : am_at (am_m 50) 0 = some (.aload_n 0, 0) := by decide +kernel
theorem at_50_1 : am_at (am_m 50) 1 = some (.getfield 25, 2308) := by decide +kernel
theorem at_50_4 : am_at (am_m 50) 4 = some (.aload_n 0, 0) := by decide +kernel
theorem at_50_5 : am_at (am_m 50) 5 = some (.invokevirtual 105, 43) := by decide +kernel
theorem at_50_8 : am_at (am_m 50) 8 = some (.iconst 0, 0) := by decide +kernel
theorem at_50_9 : am_at (am_m 50) 9 = some (.invokevirtual 101, 41) := by decide +kernel
theorem at_50_12 : am_at (am_m 50) 12 = some (.pop, 0) := by decide +kernel
theorem at_50_13 : am_at (am_m 50) 13 = some (.aload_n 0, 0) := by decide +kernel
theorem at_50_14 : am_at (am_m 50) 14 = some (.bipush 58, 0) := by decide +kernel
theorem at_50_16 : am_at (am_m 50) 16 = some (.invokevirtual 117, 42) := by decide +kernel
theorem at_50_19 : am_at (am_m 50) 19 = some (.pop, 0) := by decide +kernel
theorem at_50_20 : am_at (am_m 50) 20 = some (.iconst 0, 0) := by decide +kernel
theorem at_50_21 : am_at (am_m 50) 21 = some (.istore_n 2, 0) := by decide +kernel
theorem at_50_22 : am_at (am_m 50) 22 = some (.iload_n 2, 0) := by decide +kernel
theorem at_50_23 : am_at (am_m 50) 23 = some (.iconst 4, 0) := by decide +kernel
theorem at_50_24 : am_at (am_m 50) 24 = some (.if_icmp .ge 41, 65) := by decide +kernel
theorem at_50_27 : am_at (am_m 50) 27 = some (.aload_n 0, 0) := by decide +kernel
theorem at_50_28 : am_at (am_m 50) 28 = some (.getfield 29, 2309) := by decide +kernel
theorem at_50_31 : am_at (am_m 50) 31 = some (.iconst 4, 0) := by decide +kernel
theorem at_50_32 : am_at (am_m 50) 32 = some (.iload_n 1, 0) := by decide +kernel
theorem at_50_33 : am_at (am_m 50) 33 = some (.imul, 0) := by decide +kernel
theorem at_50_34 : am_at (am_m 50) 34 = some (.iload_n 2, 0) := by decide +kernel
theorem at_50_35 : am_at (am_m 50) 35 = some (.iadd, 0) := by decide +kernel
theorem at_50_36 : am_at (am_m 50) 36 = some (.aload_n 0, 0) := by decide +kernel
theorem at_50_37 : am_at (am_m 50) 37 = some (.getfield 19, 2306) := by decide +kernel
theorem at_50_40 : am_at (am_m 50) 40 = some (.iastore, 0) := by decide +kernel
theorem at_50_41 : am_at (am_m 50) 41 = some (.aload_n 0, 0) := by decide +kernel
theorem at_50_42 : am_at (am_m 50) 42 = some (.getfield 25, 2308) := by decide +kernel
theorem at_50_45 : am_at (am_m 50) 45 = some (.iload_n 1, 0) := by decide +kernel
theorem at_50_46 : am_at (am_m 50) 46 = some (.iconst 1, 0) := by decide +kernel
theorem at_50_47 : am_at (am_m 50) 47 = some (.iload_n 2, 0) := by decide +kernel
theorem at_50_48 : am_at (am_m 50) 48 = some (.iadd, 0) := by decide +kernel
theorem at_50_49 : am_at (am_m 50) 49 = some (.aload_n 0, 0) := by decide +kernel
theorem at_50_50 : am_at (am_m 50) 50 = some (.iconst 0, 0) := by decide +kernel
theorem at_50_51 : am_at (am_m 50) 51 = some (.bipush 9, 0) := by decide +kernel
theorem at_50_53 : am_at (am_m 50) 53 = some (.invokevirtual 131, 47) := by decide +kernel
theorem at_50_56 : am_at (am_m 50) 56 = some (.invokevirtual 135, 51) := by decide +kernel
theorem at_50_59 : am_at (am_m 50) 59 = some (.iinc 2 1, 0) := by decide +kernel
theorem at_50_62 : am_at (am_m 50) 62 = some (.goto (-40), 22) := by decide +kernel
theorem at_50_65 : am_at (am_m 50) 65 = some (.return_, 0) := by decide +kernel
theorem at_51_0 : am_at (am_m 51) 0 = some (.iload_n 1, 0) := by decide +kernel
theorem at_51_1 : am_at (am_m 51) 1 = some (.ifCond .lt 37, 38) := by decide +kernel
theorem at_51_4 : am_at (am_m 51) 4 = some (.iload_n 1, 0) := by decide +kernel
theorem at_51_5 : am_at (am_m 51) 5 = some (.aload_n 0, 0) := by decide +kernel
theorem at_51_6 : am_at (am_m 51) 6 = some (.getfield 18, 771) := by decide +kernel
theorem at_51_9 : am_at (am_m 51) 9 = some (.if_icmp .ge 29, 38) := by decide +kernel
theorem at_51_12 : am_at (am_m 51) 12 = some (.iload_n 2, 0) := by decide +kernel
theorem at_51_13 : am_at (am_m 51) 13 = some (.ifCond .lt 25, 38) := by decide +kernel
theorem at_51_16 : am_at (am_m 51) 16 = some (.iload_n 2, 0) := by decide +kernel
theorem at_51_17 : am_at (am_m 51) 17 = some (.aload_n 0, 0) := by decide +kernel
theorem at_51_18 : am_at (am_m 51) 18 = some (.getfield 21, 772) := by decide +kernel
theorem at_51_21 : am_at (am_m 51) 21 = some (.if_icmp .ge 17, 38) := by decide +kernel
theorem at_51_24 : am_at (am_m 51) 24 = some (.aload_n 0, 0) := by decide +kernel
theorem at_51_25 : am_at (am_m 51) 25 = some (.getfield 43, 768) := by decide +kernel
theorem at_51_28 : am_at (am_m 51) 28 = some (.iload_n 1, 0) := by decide +kernel
theorem at_51_29 : am_at (am_m 51) 29 = some (.aload_n 0, 0) := by decide +kernel
theorem at_51_30 : am_at (am_m 51) 30 = some (.getfield 21, 772) := by decide +kernel
theorem at_51_33 : am_at (am_m 51) 33 = some (.imul, 0) := by decide +kernel
theorem at_51_34 : am_at (am_m 51) 34 = some (.iload_n 2, 0) := by decide +kernel
theorem at_51_35 : am_at (am_m 51) 35 = some (.iadd, 0) := by decide +kernel
theorem at_51_36 : am_at (am_m 51) 36 = some (.iload_n 3, 0) := by decide +kernel
theorem at_51_37 : am_at (am_m 51) 37 = some (.iastore, 0) := by decide +kernel
theorem at_51_38 : am_at (am_m 51) 38 = some (.return_, 0) := by decide +kernel
theorem at_52_0 : am_at (am_m 52) 0 = some (.aload_n 0, 0) := by decide +kernel
theorem at_52_1 : am_at (am_m 52) 1 = some (.aload_n 1, 0) := by decide +kernel
theorem at_52_2 : am_at (am_m 52) 2 = some (.getfield 42, 771) := by decide +kernel
theorem at_52_5 : am_at (am_m 52) 5 = some (.putfield 34, 1799) := by decide +kernel
theorem at_52_8 : am_at (am_m 52) 8 = some (.aload_n 0, 0) := by decide +kernel
theorem at_52_9 : am_at (am_m 52) 9 = some (.getfield 34, 1799) := by decide +kernel
theorem at_52_12 : am_at (am_m 52) 12 = some (.iconst 1, 0) := by decide +kernel
theorem at_52_13 : am_at (am_m 52) 13 = some (.if_icmp .lt 12, 25) := by decide +kernel
theorem at_52_16 : am_at (am_m 52) 16 = some (.aload_n 0, 0) := by decide +kernel
theorem at_52_17 : am_at (am_m 52) 17 = some (.getfield 34, 1799) := by decide +kernel
theorem at_52_20 : am_at (am_m 52) 20 = some (.bipush 60, 0) := by decide +kernel
theorem at_52_22 : am_at (am_m 52) 22 = some (.if_icmp .le 5, 27) := by decide +kernel
theorem at_52_25 : am_at (am_m 52) 25 = some (.iconst 0, 0) := by decide +kernel
theorem at_52_26 : am_at (am_m 52) 26 = some (.ireturn, 0) := by decide +kernel
theorem at_52_27 : am_at (am_m 52) 27 = some (.aload_n 0, 0) := by decide +kernel
theorem at_52_28 : am_at (am_m 52) 28 = some (.getfield 31, 1798) := by decide +kernel
theorem at_52_31 : am_at (am_m 52) 31 = some (.iconst (-1), 0) := by decide +kernel
theorem at_52_32 : am_at (am_m 52) 32 = some (.invokestatic 71, 53) := by decide +kernel
theorem at_52_35 : am_at (am_m 52) 35 = some (.aload_n 0, 0) := by decide +kernel
theorem at_52_36 : am_at (am_m 52) 36 = some (.getfield 31, 1798) := by decide +kernel
theorem at_52_39 : am_at (am_m 52) 39 = some (.iconst 0, 0) := by decide +kernel
theorem at_52_40 : am_at (am_m 52) 40 = some (.iconst 0, 0) := by decide +kernel
theorem at_52_41 : am_at (am_m 52) 41 = some (.iastore, 0) := by decide +kernel
theorem at_52_42 : am_at (am_m 52) 42 = some (.iconst 0, 0) := by decide +kernel
theorem at_52_43 : am_at (am_m 52) 43 = some (.istore_n 2, 0) := by decide +kernel
theorem at_52_44 : am_at (am_m 52) 44 = some (.iload_n 2, 0) := by decide +kernel
theorem at_52_45 : am_at (am_m 52) 45 = some (.aload_n 0, 0) := by decide +kernel
theorem at_52_46 : am_at (am_m 52) 46 = some (.getfield 34, 1799) := by decide +kernel
theorem at_52_49 : am_at (am_m 52) 49 = some (.if_icmp .ge 94, 143) := by decide +kernel
theorem at_52_52 : am_at (am_m 52) 52 = some (.aload_n 1, 0) := by decide +kernel
theorem at_52_53 : am_at (am_m 52) 53 = some (.iload_n 2, 0) := by decide +kernel
theorem at_52_54 : am_at (am_m 52) 54 = some (.iconst 0, 0) := by decide +kernel
theorem at_52_55 : am_at (am_m 52) 55 = some (.invokevirtual 51, 54) := by decide +kernel
theorem at_52_58 : am_at (am_m 52) 58 = some (.istore_n 3, 0) := by decide +kernel
theorem at_52_59 : am_at (am_m 52) 59 = some (.aload_n 0, 0) := by decide +kernel
theorem at_52_60 : am_at (am_m 52) 60 = some (.getfield 31, 1798) := by decide +kernel
theorem at_52_63 : am_at (am_m 52) 63 = some (.iload_n 2, 0) := by decide +kernel
theorem at_52_64 : am_at (am_m 52) 64 = some (.iaload, 0) := by decide +kernel
theorem at_52_65 : am_at (am_m 52) 65 = some (.iload_n 3, 0) := by decide +kernel
theorem at_52_66 : am_at (am_m 52) 66 = some (.invokestatic 77, 55) := by decide +kernel
theorem at_52_69 : am_at (am_m 52) 69 = some (.iadd, 0) := by decide +kernel
theorem at_52_70 : am_at (am_m 52) 70 = some (.istore 4, 0) := by decide +kernel
theorem at_52_72 : am_at (am_m 52) 72 = some (.aload_n 0, 0) := by decide +kernel
theorem at_52_73 : am_at (am_m 52) 73 = some (.getfield 31, 1798) := by decide +kernel
theorem at_52_76 : am_at (am_m 52) 76 = some (.iload_n 2, 0) := by decide +kernel
theorem at_52_77 : am_at (am_m 52) 77 = some (.iaload, 0) := by decide +kernel
theorem at_52_78 : am_at (am_m 52) 78 = some (.iload_n 3, 0) := by decide +kernel
theorem at_52_79 : am_at (am_m 52) 79 = some (.invokestatic 80, 56) := by decide +kernel
theorem at_52_82 : am_at (am_m 52) 82 = some (.if_icmp .lt 53, 135) := by decide +kernel
theorem at_52_85 : am_at (am_m 52) 85 = some (.iload 4, 0) := by decide +kernel
theorem at_52_87 : am_at (am_m 52) 87 = some (.bipush 8, 0) := by decide +kernel
theorem at_52_89 : am_at (am_m 52) 89 = some (.if_icmp .gt 46, 135) := by decide +kernel
theorem at_52_92 : am_at (am_m 52) 92 = some (.iload_n 3, 0) := by decide +kernel
theorem at_52_93 : am_at (am_m 52) 93 = some (.bipush 17, 0) := by decide +kernel
theorem at_52_95 : am_at (am_m 52) 95 = some (.if_icmp .eq 15, 110) := by decide +kernel
theorem at_52_98 : am_at (am_m 52) 98 = some (.aload_n 0, 0) := by decide +kernel
theorem at_52_99 : am_at (am_m 52) 99 = some (.iload_n 2, 0) := by decide +kernel
theorem at_52_100 : am_at (am_m 52) 100 = some (.iconst 1, 0) := by decide +kernel
theorem at_52_101 : am_at (am_m 52) 101 = some (.iadd, 0) := by decide +kernel
theorem at_52_102 : am_at (am_m 52) 102 = some (.iload 4, 0) := by decide +kernel
theorem at_52_104 : am_at (am_m 52) 104 = some (.invokevirtual 83, 57) := by decide +kernel
theorem at_52_107 : am_at (am_m 52) 107 = some (.ifCond .eq 28, 135) := by decide +kernel
theorem at_52_110 : am_at (am_m 52) 110 = some (.iload_n 3, 0) := by decide +kernel
theorem at_52_111 : am_at (am_m 52) 111 = some (.bipush 17, 0) := by decide +kernel
theorem at_52_113 : am_at (am_m 52) 113 = some (.if_icmp .lt 24, 137) := by decide +kernel
theorem at_52_116 : am_at (am_m 52) 116 = some (.aload_n 0, 0) := by decide +kernel
theorem at_52_117 : am_at (am_m 52) 117 = some (.iload_n 2, 0) := by decide +kernel
theorem at_52_118 : am_at (am_m 52) 118 = some (.iconst 1, 0) := by decide +kernel
theorem at_52_119 : am_at (am_m 52) 119 = some (.iadd, 0) := by decide +kernel
theorem at_52_120 : am_at (am_m 52) 120 = some (.aload_n 1, 0) := by decide +kernel
theorem at_52_121 : am_at (am_m 52) 121 = some (.iload_n 2, 0) := by decide +kernel
theorem at_52_122 : am_at (am_m 52) 122 = some (.iconst 1, 0) := by decide +kernel
theorem at_52_123 : am_at (am_m 52) 123 = some (.invokevirtual 51, 54) := by decide +kernel
theorem at_52_126 : am_at (am_m 52) 126 = some (.iadd, 0) := by decide +kernel
theorem at_52_127 : am_at (am_m 52) 127 = some (.iload 4, 0) := by decide +kernel
theorem at_52_129 : am_at (am_m 52) 129 = some (.invokevirtual 83, 57) := by decide +kernel
theorem at_52_132 : am_at (am_m 52) 132 = some (.ifCond .ne 5, 137) := by decide +kernel
theorem at_52_135 : am_at (am_m 52) 135 = some (.iload_n 2, 0) := by decide +kernel
theorem at_52_136 : am_at (am_m 52) 136 = some (.ireturn, 0) := by decide +kernel
theorem at_52_137 : am_at (am_m 52) 137 = some (.iinc 2 1, 0) := by decide +kernel
theorem at_52_140 : am_at (am_m 52) 140 = some (.goto (-96), 44) := by decide +kernel
theorem at_52_143 : am_at (am_m 52) 143 = some (.iconst (-1), 0) := by decide +kernel
theorem at_52_144 : am_at (am_m 52) 144 = some (.ireturn, 0) := by decide +kernel
theorem at_53_0 : am_at (am_m 53) 0 = some (.iconst 0, 0) := by decide +kernel
theorem at_53_1 : am_at (am_m 53) 1 = some (.istore_n 2, 0) := by decide +kernel
theorem at_53_2 : am_at (am_m 53) 2 = some (.aload_n 0, 0) := by decide +kernel
theorem at_53_3 : am_at (am_m 53) 3 = some (.arraylength, 0) := by decide +kernel
theorem at_53_4 : am_at (am_m 53) 4 = some (.istore_n 3, 0) := by decide +kernel
theorem at_53_5 : am_at (am_m 53) 5 = some (.iload_n 2, 0) := by decide +kernel
theorem at_53_6 : am_at (am_m 53) 6 = some (.iload_n 3, 0) := by decide +kernel
theorem at_53_7 : am_at (am_m 53) 7 = some (.if_icmp .ge 13, 20) := by decide +kernel
theorem at_53_10 : am_at (am_m 53) 10 = some (.aload_n 0, 0) := by decide +kernel
theorem at_53_11 : am_at (am_m 53) 11 = some (.iload_n 2, 0) := by decide +kernel
theorem at_53_12 : am_at (am_m 53) 12 = some (.iload_n 1, 0) := by decide +kernel
theorem at_53_13 : am_at (am_m 53) 13 = some (.iastore, 0) := by decide +kernel
theorem at_53_14 : am_at (am_m 53) 14 = some (.iinc 2 1, 0) := by decide +kernel
theorem at_53_17 : am_at (am_m 53) 17 = some (.goto (-12), 5) := by decide +kernel
theorem at_53_20 : am_at (am_m 53) 20 = some (.return_, 0) := by decide +kernel
theorem at_54_0 : am_at (am_m 54) 0 = some (.iload_n 1, 0) := by decide +kernel
theorem at_54_1 : am_at (am_m 54) 1 = some (.ifCond .lt 39, 40) := by decide +kernel
theorem at_54_4 : am_at (am_m 54) 4 = some (.iload_n 1, 0) := by decide +kernel
theorem at_54_5 : am_at (am_m 54) 5 = some (.aload_n 0, 0) := by decide +kernel
theorem at_54_6 : am_at (am_m 54) 6 = some (.getfield 18, 771) := by decide +kernel
theorem at_54_9 : am_at (am_m 54) 9 = some (.if_icmp .ge 31, 40) := by decide +kernel
theorem at_54_12 : am_at (am_m 54) 12 = some (.iload_n 2, 0) := by decide +kernel
theorem at_54_13 : am_at (am_m 54) 13 = some (.ifCond .lt 27, 40) := by decide +kernel
theorem at_54_16 : am_at (am_m 54) 16 = some (.iload_n 2, 0) := by decide +kernel
theorem at_54_17 : am_at (am_m 54) 17 = some (.aload_n 0, 0) := by decide +kernel
theorem at_54_18 : am_at (am_m 54) 18 = some (.getfield 21, 772) := by decide +kernel
theorem at_54_21 : am_at (am_m 54) 21 = some (.if_icmp .ge 19, 40) := by decide +kernel
theorem at_54_24 : am_at (am_m 54) 24 = some (.aload_n 0, 0) := by decide +kernel
theorem at_54_25 : am_at (am_m 54) 25 = some (.getfield 43, 768) := by decide +kernel
theorem at_54_28 : am_at (am_m 54) 28 = some (.iload_n 1, 0) := by decide +kernel
theorem at_54_29 : am_at (am_m 54) 29 = some (.aload_n 0, 0) := by decide +kernel
theorem at_54_30 : am_at (am_m 54) 30 = some (.getfield 21, 772) := by decide +kernel
theorem at_54_33 : am_at (am_m 54) 33 = some (.imul, 0) := by decide +kernel
theorem at_54_34 : am_at (am_m 54) 34 = some (.iload_n 2, 0) := by decide +kernel
theorem at_54_35 : am_at (am_m 54) 35 = some (.iadd, 0) := by decide +kernel
theorem at_54_36 : am_at (am_m 54) 36 = some (.iaload, 0) := by decide +kernel
theorem at_54_37 : am_at (am_m 54) 37 = some (.goto 4, 41) := by decide +kernel
theorem at_54_40 : am_at (am_m 54) 40 = some (.iconst 0, 0) := by decide +kernel
theorem at_54_41 : am_at (am_m 54) 41 = some (.ireturn, 0) := by decide +kernel
theorem at_55_0 : am_at (am_m 55) 0 = some (.iload_n 0, 0) := by decide +kernel
theorem at_55_1 : am_at (am_m 55) 1 = some (.iconst 4, 0) := by decide +kernel
theorem at_55_2 : am_at (am_m 55) 2 = some (.if_icmp .le 9, 11) := by decide +kernel
theorem at_55_5 : am_at (am_m 55) 5 = some (.iload_n 0, 0) := by decide +kernel
theorem at_55_6 : am_at (am_m 55) 6 = some (.bipush 14, 0) := by decide +kernel
theorem at_55_8 : am_at (am_m 55) 8 = some (.if_icmp .ne 5, 13) := by decide +kernel
theorem at_55_11 : am_at (am_m 55) 11 = some (.iconst 1, 0) := by decide +kernel
theorem at_55_12 : am_at (am_m 55) 12 = some (.ireturn, 0) := by decide +kernel
theorem at_55_13 : am_at (am_m 55) 13 = some (.iload_n 0, 0) := by decide +kernel
theorem at_55_14 : am_at (am_m 55) 14 = some (.bipush 7, 0) := by decide +kernel
theorem at_55_16 : am_at (am_m 55) 16 = some (.if_icmp .lt 9, 25) := by decide +kernel
theorem at_55_19 : am_at (am_m 55) 19 = some (.iload_n 0, 0) := by decide +kernel
theorem at_55_20 : am_at (am_m 55) 20 = some (.bipush 13, 0) := by decide +kernel
theorem at_55_22 : am_at (am_m 55) 22 = some (.if_icmp .le 15, 37) := by decide +kernel
theorem at_55_25 : am_at (am_m 55) 25 = some (.iload_n 0, 0) := by decide +kernel
theorem at_55_26 : am_at (am_m 55) 26 = some (.bipush 16, 0) := by decide +kernel
theorem at_55_28 : am_at (am_m 55) 28 = some (.if_icmp .eq 9, 37) := by decide +kernel
theorem at_55_31 : am_at (am_m 55) 31 = some (.iload_n 0, 0) := by decide +kernel
theorem at_55_32 : am_at (am_m 55) 32 = some (.bipush 18, 0) := by decide +kernel
theorem at_55_34 : am_at (am_m 55) 34 = some (.if_icmp .ne 7, 41) := by decide +kernel
theorem at_55_37 : am_at (am_m 55) 37 = some (.iconst (-1), 0) := by decide +kernel
theorem at_55_38 : am_at (am_m 55) 38 = some (.goto 4, 42) := by decide +kernel
theorem at_55_41 : am_at (am_m 55) 41 = some (.iconst 0, 0) := by decide +kernel
theorem at_55_42 : am_at (am_m 55) 42 = some (.ireturn, 0) := by decide +kernel
theorem at_56_0 : am_at (am_m 56) 0 = some (.iload_n 0, 0) := by decide +kernel
theorem at_56_1 : am_at (am_m 56) 1 = some (.iconst 4, 0) := by decide +kernel
theorem at_56_2 : am_at (am_m 56) 2 = some (.if_icmp .le 9, 11) := by decide +kernel
theorem at_56_5 : am_at (am_m 56) 5 = some (.iload_n 0, 0) := by decide +kernel
theorem at_56_6 : am_at (am_m 56) 6 = some (.bipush 17, 0) := by decide +kernel
theorem at_56_8 : am_at (am_m 56) 8 = some (.if_icmp .ne 5, 13) := by decide +kernel
theorem at_56_11 : am_at (am_m 56) 11 = some (.iconst 0, 0) := by decide +kernel
theorem at_56_12 : am_at (am_m 56) 12 = some (.ireturn, 0) := by decide +kernel
theorem at_56_13 : am_at (am_m 56) 13 = some (.iload_n 0, 0) := by decide +kernel
theorem at_56_14 : am_at (am_m 56) 14 = some (.bipush 7, 0) := by decide +kernel
theorem at_56_16 : am_at (am_m 56) 16 = some (.if_icmp .lt 9, 25) := by decide +kernel
theorem at_56_19 : am_at (am_m 56) 19 = some (.iload_n 0, 0) := by decide +kernel
theorem at_56_20 : am_at (am_m 56) 20 = some (.bipush 13, 0) := by decide +kernel
theorem at_56_22 : am_at (am_m 56) 22 = some (.if_icmp .le 9, 31) := by decide +kernel
theorem at_56_25 : am_at (am_m 56) 25 = some (.iload_n 0, 0) := by decide +kernel
theorem at_56_26 : am_at (am_m 56) 26 = some (.bipush 15, 0) := by decide +kernel
theorem at_56_28 : am_at (am_m 56) 28 = some (.if_icmp .ne 7, 35) := by decide +kernel
theorem at_56_31 : am_at (am_m 56) 31 = some (.iconst 2, 0) := by decide +kernel
theorem at_56_32 : am_at (am_m 56) 32 = some (.goto 4, 36) := by decide +kernel
theorem at_56_35 : am_at (am_m 56) 35 = some (.iconst 1, 0) := by decide +kernel
theorem at_56_36 : am_at (am_m 56) 36 = some (.ireturn, 0) := by decide +kernel
theorem at_57_0 : am_at (am_m 57) 0 = some (.iload_n 1, 0) := by decide +kernel
theorem at_57_1 : am_at (am_m 57) 1 = some (.ifCond .lt 43, 44) := by decide +kernel
theorem at_57_4 : am_at (am_m 57) 4 = some (.iload_n 1, 0) := by decide +kernel
theorem at_57_5 : am_at (am_m 57) 5 = some (.aload_n 0, 0) := by decide +kernel
theorem at_57_6 : am_at (am_m 57) 6 = some (.getfield 34, 1799) := by decide +kernel
theorem at_57_9 : am_at (am_m 57) 9 = some (.if_icmp .gt 35, 44) := by decide +kernel
theorem at_57_12 : am_at (am_m 57) 12 = some (.iload_n 1, 0) := by decide +kernel
theorem at_57_13 : am_at (am_m 57) 13 = some (.aload_n 0, 0) := by decide +kernel
theorem at_57_14 : am_at (am_m 57) 14 = some (.getfield 34, 1799) := by decide +kernel
theorem at_57_17 : am_at (am_m 57) 17 = some (.if_icmp .ne 8, 25) := by decide +kernel
theorem at_57_20 : am_at (am_m 57) 20 = some (.iload_n 2, 0) := by decide +kernel
theorem at_57_21 : am_at (am_m 57) 21 = some (.iconst 1, 0) := by decide +kernel
theorem at_57_22 : am_at (am_m 57) 22 = some (.if_icmp .ne 22, 44) := by decide +kernel
theorem at_57_25 : am_at (am_m 57) 25 = some (.aload_n 0, 0) := by decide +kernel
theorem at_57_26 : am_at (am_m 57) 26 = some (.getfield 31, 1798) := by decide +kernel
theorem at_57_29 : am_at (am_m 57) 29 = some (.iload_n 1, 0) := by decide +kernel
theorem at_57_30 : am_at (am_m 57) 30 = some (.iaload, 0) := by decide +kernel
theorem at_57_31 : am_at (am_m 57) 31 = some (.ifCond .lt 15, 46) := by decide +kernel
theorem at_57_34 : am_at (am_m 57) 34 = some (.aload_n 0, 0) := by decide +kernel
theorem at_57_35 : am_at (am_m 57) 35 = some (.getfield 31, 1798) := by decide +kernel
theorem at_57_38 : am_at (am_m 57) 38 = some (.iload_n 1, 0) := by decide +kernel
theorem at_57_39 : am_at (am_m 57) 39 = some (.iaload, 0) := by decide +kernel
theorem at_57_40 : am_at (am_m 57) 40 = some (.iload_n 2, 0) := by decide +kernel
theorem at_57_41 : am_at (am_m 57) 41 = some (.if_icmp .eq 5, 46) := by decide +kernel
theorem at_57_44 : am_at (am_m 57) 44 = some (.iconst 0, 0) := by decide +kernel
theorem at_57_45 : am_at (am_m 57) 45 = some (.ireturn, 0) := by decide +kernel
theorem at_57_46 : am_at (am_m 57) 46 = some (.aload_n 0, 0) := by decide +kernel
theorem at_57_47 : am_at (am_m 57) 47 = some (.getfield 31, 1798) := by decide +kernel
theorem at_57_50 : am_at (am_m 57) 50 = some (.iload_n 1, 0) := by decide +kernel
theorem at_57_51 : am_at (am_m 57) 51 = some (.iload_n 2, 0) := by decide +kernel
theorem at_57_52 : am_at (am_m 57) 52 = some (.iastore, 0) := by decide +kernel
theorem at_57_53 : am_at (am_m 57) 53 = some (.iconst 1, 0) := by decide +kernel
theorem at_57_54 : am_at (am_m 57) 54 = some (.ireturn, 0) := by decide +kernel
theorem at_58_0 : am_at (am_m 58) 0 = some (.iconst 0, 0) := by decide +kernel
theorem at_58_1 : am_at (am_m 58) 1 = some (.istore_n 1, 0) := by decide +kernel
theorem at_58_2 : am_at (am_m 58) 2 = some (.iload_n 1, 0) := by decide +kernel
theorem at_58_3 : am_at (am_m 58) 3 = some (.iconst 4, 0) := by decide +kernel
theorem at_58_4 : am_at (am_m 58) 4 = some (.aload_n 0, 0) := by decide +kernel
theorem at_58_5 : am_at (am_m 58) 5 = some (.getfield 25, 2308) := by decide +kernel
theorem at_58_8 : am_at (am_m 58) 8 = some (.getfield 95, 771) := by decide +kernel
theorem at_58_11 : am_at (am_m 58) 11 = some (.imul, 0) := by decide +kernel
theorem at_58_12 : am_at (am_m 58) 12 = some (.if_icmp .ge 41, 53) := by decide +kernel
theorem at_58_15 : am_at (am_m 58) 15 = some (.aload_n 0, 0) := by decide +kernel
theorem at_58_16 : am_at (am_m 58) 16 = some (.getfield 25, 2308) := by decide +kernel
theorem at_58_19 : am_at (am_m 58) 19 = some (.iload_n 1, 0) := by decide +kernel
theorem at_58_20 : am_at (am_m 58) 20 = some (.iconst 4, 0) := by decide +kernel
theorem at_58_21 : am_at (am_m 58) 21 = some (.idiv, 0) := by decide +kernel
theorem at_58_22 : am_at (am_m 58) 22 = some (.iconst 1, 0) := by decide +kernel
theorem at_58_23 : am_at (am_m 58) 23 = some (.iload_n 1, 0) := by decide +kernel
theorem at_58_24 : am_at (am_m 58) 24 = some (.iconst 4, 0) := by decide +kernel
theorem at_58_25 : am_at (am_m 58) 25 = some (.irem, 0) := by decide +kernel
theorem at_58_26 : am_at (am_m 58) 26 = some (.iadd, 0) := by decide +kernel
theorem at_58_27 : am_at (am_m 58) 27 = some (.invokevirtual 139, 54) := by decide +kernel
theorem at_58_30 : am_at (am_m 58) 30 = some (.aload_n 0, 0) := by decide +kernel
theorem at_58_31 : am_at (am_m 58) 31 = some (.getfield 25, 2308) := by decide +kernel
theorem at_58_34 : am_at (am_m 58) 34 = some (.getfield 95, 771) := by decide +kernel
theorem at_58_37 : am_at (am_m 58) 37 = some (.if_icmp .lt 10, 47) := by decide +kernel
theorem at_58_40 : am_at (am_m 58) 40 = some (.aload_n 0, 0) := by decide +kernel
theorem at_58_41 : am_at (am_m 58) 41 = some (.getfield 29, 2309) := by decide +kernel
theorem at_58_44 : am_at (am_m 58) 44 = some (.iload_n 1, 0) := by decide +kernel
theorem at_58_45 : am_at (am_m 58) 45 = some (.iaload, 0) := by decide +kernel
theorem at_58_46 : am_at (am_m 58) 46 = some (.ireturn, 0) := by decide +kernel
theorem at_58_47 : am_at (am_m 58) 47 = some (.iinc 1 1, 0) := by decide +kernel
theorem at_58_50 : am_at (am_m 58) 50 = some (.goto (-48), 2) := by decide +kernel
theorem at_58_53 : am_at (am_m 58) 53 = some (.iconst (-1), 0) := by decide +kernel
theorem at_58_54 : am_at (am_m 58) 54 = some (.ireturn, 0) := by decide +kernel
theorem at_59_0 : am_at (am_m 59) 0 = some (.new 9, 3) := by decide +kernel
theorem at_59_3 : am_at (am_m 59) 3 = some (.dup, 0) := by decide +kernel
theorem at_59_4 : am_at (am_m 59) 4 = some (.aload_n 1, 0) := by decide +kernel
theorem at_59_5 : am_at (am_m 59) 5 = some (.getfield 147, 771) := by decide +kernel
theorem at_59_8 : am_at (am_m 59) 8 = some (.aload_n 1, 0) := by decide +kernel
theorem at_59_9 : am_at (am_m 59) 9 = some (.getfield 500, 772) := by decide +kernel
theorem at_59_12 : am_at (am_m 59) 12 = some (.imul, 0) := by decide +kernel
theorem at_59_13 : am_at (am_m 59) 13 = some (.invokespecial 87, 18) := by decide +kernel
theorem at_59_16 : am_at (am_m 59) 16 = some (.astore 9, 0) := by decide +kernel
theorem at_59_18 : am_at (am_m 59) 18 = some (.aload 9, 0) := by decide +kernel
theorem at_59_20 : am_at (am_m 59) 20 = some (.aload_n 1, 0) := by decide +kernel
theorem at_59_21 : am_at (am_m 59) 21 = some (.invokevirtual 415, 60) := by decide +kernel
theorem at_59_24 : am_at (am_m 59) 24 = some (.aload 9, 0) := by decide +kernel
theorem at_59_26 : am_at (am_m 59) 26 = some (.iload_n 2, 0) := by decide +kernel
theorem at_59_27 : am_at (am_m 59) 27 = some (.putfield 150, 773) := by decide +kernel
theorem at_59_30 : am_at (am_m 59) 30 = some (.aload 9, 0) := by decide +kernel
theorem at_59_32 : am_at (am_m 59) 32 = some (.iload_n 3, 0) := by decide +kernel
theorem at_59_33 : am_at (am_m 59) 33 = some (.putfield 153, 774) := by decide +kernel
theorem at_59_36 : am_at (am_m 59) 36 = some (.aload 9, 0) := by decide +kernel
theorem at_59_38 : am_at (am_m 59) 38 = some (.iload 4, 0) := by decide +kernel
theorem at_59_40 : am_at (am_m 59) 40 = some (.putfield 156, 775) := by decide +kernel
theorem at_59_43 : am_at (am_m 59) 43 = some (.aload 9, 0) := by decide +kernel
theorem at_59_45 : am_at (am_m 59) 45 = some (.iload 5, 0) := by decide +kernel
theorem at_59_47 : am_at (am_m 59) 47 = some (.putfield 159, 776) := by decide +kernel
theorem at_59_50 : am_at (am_m 59) 50 = some (.aload 9, 0) := by decide +kernel
theorem at_59_52 : am_at (am_m 59) 52 = some (.iload 6, 0) := by decide +kernel
theorem at_59_54 : am_at (am_m 59) 54 = some (.putfield 162, 777) := by decide +kernel
theorem at_59_57 : am_at (am_m 59) 57 = some (.aload 9, 0) := by decide +kernel
theorem at_59_59 : am_at (am_m 59) 59 = some (.lload 7, 0) := by decide +kernel
theorem at_59_61 : am_at (am_m 59) 61 = some (.putfield 173, 778) := by decide +kernel
theorem at_59_64 : am_at (am_m 59) 64 = some (.aload_n 0, 0) := by decide +kernel
theorem at_59_65 : am_at (am_m 59) 65 = some (.getfield 15, 2817) := by decide +kernel
theorem at_59_68 : am_at (am_m 59) 68 = some (.istore 10, 0) := by decide +kernel
theorem at_59_70 : am_at (am_m 59) 70 = some (.iload 10, 0) := by decide +kernel
theorem at_59_72 : am_at (am_m 59) 72 = some (.aload_n 0, 0) := by decide +kernel
theorem at_59_73 : am_at (am_m 59) 73 = some (.getfield 11, 2816) := by decide +kernel
theorem at_59_76 : am_at (am_m 59) 76 = some (.arraylength, 0) := by decide +kernel
theorem at_59_77 : am_at (am_m 59) 77 = some (.if_icmp .ge 22, 99) := by decide +kernel
theorem at_59_80 : am_at (am_m 59) 80 = some (.aload_n 0, 0) := by decide +kernel
theorem at_59_81 : am_at (am_m 59) 81 = some (.getfield 11, 2816) := by decide +kernel
theorem at_59_84 : am_at (am_m 59) 84 = some (.iload 10, 0) := by decide +kernel
theorem at_59_86 : am_at (am_m 59) 86 = some (.aload 9, 0) := by decide +kernel
theorem at_59_88 : am_at (am_m 59) 88 = some (.aastore, 0) := by decide +kernel
theorem at_59_89 : am_at (am_m 59) 89 = some (.aload_n 0, 0) := by decide +kernel
theorem at_59_90 : am_at (am_m 59) 90 = some (.dup, 0) := by decide +kernel
theorem at_59_91 : am_at (am_m 59) 91 = some (.getfield 15, 2817) := by decide +kernel
theorem at_59_94 : am_at (am_m 59) 94 = some (.iconst 1, 0) := by decide +kernel
theorem at_59_95 : am_at (am_m 59) 95 = some (.iadd, 0) := by decide +kernel
theorem at_59_96 : am_at (am_m 59) 96 = some (.putfield 15, 2817) := by decide +kernel
theorem at_59_99 : am_at (am_m 59) 99 = some (.iload 10, 0) := by decide +kernel
theorem at_59_101 : am_at (am_m 59) 101 = some (.ireturn, 0) := by decide +kernel
theorem at_60_0 : am_at (am_m 60) 0 = some (.aload_n 0, 0) := by decide +kernel
theorem at_60_1 : am_at (am_m 60) 1 = some (.aload_n 1, 0) := by decide +kernel
theorem at_60_2 : am_at (am_m 60) 2 = some (.getfield 9, 769) := by decide +kernel
theorem at_60_5 : am_at (am_m 60) 5 = some (.aload_n 1, 0) := by decide +kernel
theorem at_60_6 : am_at (am_m 60) 6 = some (.getfield 15, 770) := by decide +kernel
theorem at_60_9 : am_at (am_m 60) 9 = some (.invokevirtual 53, 34) := by decide +kernel
theorem at_60_12 : am_at (am_m 60) 12 = some (.aload_n 1, 0) := by decide +kernel
theorem at_60_13 : am_at (am_m 60) 13 = some (.getfield 18, 771) := by decide +kernel
theorem at_60_16 : am_at (am_m 60) 16 = some (.aload_n 0, 0) := by decide +kernel
theorem at_60_17 : am_at (am_m 60) 17 = some (.getfield 21, 772) := by decide +kernel
theorem at_60_20 : am_at (am_m 60) 20 = some (.imul, 0) := by decide +kernel
theorem at_60_21 : am_at (am_m 60) 21 = some (.aload_n 0, 0) := by decide +kernel
theorem at_60_22 : am_at (am_m 60) 22 = some (.getfield 43, 768) := by decide +kernel
theorem at_60_25 : am_at (am_m 60) 25 = some (.arraylength, 0) := by decide +kernel
theorem at_60_26 : am_at (am_m 60) 26 = some (.if_icmp .gt 33, 59) := by decide +kernel
theorem at_60_29 : am_at (am_m 60) 29 = some (.aload_n 0, 0) := by decide +kernel
theorem at_60_30 : am_at (am_m 60) 30 = some (.aload_n 1, 0) := by decide +kernel
theorem at_60_31 : am_at (am_m 60) 31 = some (.getfield 18, 771) := by decide +kernel
theorem at_60_34 : am_at (am_m 60) 34 = some (.putfield 18, 771) := by decide +kernel
theorem at_60_37 : am_at (am_m 60) 37 = some (.aload_n 1, 0) := by decide +kernel
theorem at_60_38 : am_at (am_m 60) 38 = some (.getfield 43, 768) := by decide +kernel
theorem at_60_41 : am_at (am_m 60) 41 = some (.iconst 0, 0) := by decide +kernel
theorem at_60_42 : am_at (am_m 60) 42 = some (.aload_n 0, 0) := by decide +kernel
theorem at_60_43 : am_at (am_m 60) 43 = some (.getfield 43, 768) := by decide +kernel
theorem at_60_46 : am_at (am_m 60) 46 = some (.iconst 0, 0) := by decide +kernel
theorem at_60_47 : am_at (am_m 60) 47 = some (.aload_n 0, 0) := by decide +kernel
theorem at_60_48 : am_at (am_m 60) 48 = some (.getfield 18, 771) := by decide +kernel
theorem at_60_51 : am_at (am_m 60) 51 = some (.aload_n 0, 0) := by decide +kernel
theorem at_60_52 : am_at (am_m 60) 52 = some (.getfield 21, 772) := by decide +kernel
theorem at_60_55 : am_at (am_m 60) 55 = some (.imul, 0) := by decide +kernel
theorem at_60_56 : am_at (am_m 60) 56 = some (.invokestatic 47, 10000) := by decide +kernel
theorem at_60_59 : am_at (am_m 60) 59 = some (.return_, 0) := by decide +kernel
theorem at_61_0 : am_at (am_m 61) 0 = some (.aload_n 2, 0) := by decide +kernel
theorem at_61_1 : am_at (am_m 61) 1 = some (.iconst 0, 0) := by decide +kernel
theorem at_61_2 : am_at (am_m 61) 2 = some (.aload_n 0, 0) := by decide +kernel
theorem at_61_3 : am_at (am_m 61) 3 = some (.iload_n 1, 0) := by decide +kernel
theorem at_61_4 : am_at (am_m 61) 4 = some (.invokevirtual 17, 62) := by decide +kernel
theorem at_61_7 : am_at (am_m 61) 7 = some (.i2l, 0) := by decide +kernel
theorem at_61_8 : am_at (am_m 61) 8 = some (.lastore, 0) := by decide +kernel
theorem at_61_9 : am_at (am_m 61) 9 = some (.goto 6, 15) := by decide +kernel
theorem at_61_13 : am_at (am_m 61) 13 = some (.iconst 1, 0) := by decide +kernel
theorem at_61_14 : am_at (am_m 61) 14 = some (.ireturn, 0) := by decide +kernel
theorem at_61_15 : am_at (am_m 61) 15 = some (.iconst 0, 0) := by decide +kernel
theorem at_61_16 : am_at (am_m 61) 16 = some (.ireturn, 0) := by decide +kernel
theorem at_62_0 : am_at (am_m 62) 0 = some (.aload_n 0, 0) := by decide +kernel
theorem at_62_1 : am_at (am_m 62) 1 = some (.getfield 22, 2818) := by decide +kernel
theorem at_62_4 : am_at (am_m 62) 4 = some (.aload_n 0, 0) := by decide +kernel
theorem at_62_5 : am_at (am_m 62) 5 = some (.iload_n 1, 0) := by decide +kernel
theorem at_62_6 : am_at (am_m 62) 6 = some (.invokevirtual 132, 63) := by decide +kernel
theorem at_62_9 : am_at (am_m 62) 9 = some (.invokevirtual 136, 64) := by decide +kernel
theorem at_62_12 : am_at (am_m 62) 12 = some (.ireturn, 0) := by decide +kernel
theorem at_63_0 : am_at (am_m 63) 0 = some (.iload_n 1, 0) := by decide +kernel
theorem at_63_1 : am_at (am_m 63) 1 = some (.ifCond .lt 20, 21) := by decide +kernel
theorem at_63_4 : am_at (am_m 63) 4 = some (.iload_n 1, 0) := by decide +kernel
theorem at_63_5 : am_at (am_m 63) 5 = some (.aload_n 0, 0) := by decide +kernel
theorem at_63_6 : am_at (am_m 63) 6 = some (.getfield 15, 2817) := by decide +kernel
theorem at_63_9 : am_at (am_m 63) 9 = some (.if_icmp .ge 12, 21) := by decide +kernel
theorem at_63_12 : am_at (am_m 63) 12 = some (.aload_n 0, 0) := by decide +kernel
theorem at_63_13 : am_at (am_m 63) 13 = some (.getfield 11, 2816) := by decide +kernel
theorem at_63_16 : am_at (am_m 63) 16 = some (.iload_n 1, 0) := by decide +kernel
theorem at_63_17 : am_at (am_m 63) 17 = some (.aaload, 0) := by decide +kernel
theorem at_63_18 : am_at (am_m 63) 18 = some (.ifnonnull 14, 32) := by decide +kernel
theorem at_63_21 : am_at (am_m 63) 21 = some (.new 177, 102) := by decide +kernel
theorem at_63_32 : am_at (am_m 63) 32 = some (.aload_n 0, 0) := by decide +kernel
theorem at_63_33 : am_at (am_m 63) 33 = some (.getfield 11, 2816) := by decide +kernel
theorem at_63_36 : am_at (am_m 63) 36 = some (.iload_n 1, 0) := by decide +kernel
theorem at_63_37 : am_at (am_m 63) 37 = some (.aaload, 0) := by decide +kernel
theorem at_63_38 : am_at (am_m 63) 38 = some (.areturn, 0) := by decide +kernel
theorem at_64_0 : am_at (am_m 64) 0 = some (.aload_n 0, 0) := by decide +kernel
theorem at_64_1 : am_at (am_m 64) 1 = some (.iconst 0, 0) := by decide +kernel
theorem at_64_2 : am_at (am_m 64) 2 = some (.putfield 43, 2312) := by decide +kernel
theorem at_64_5 : am_at (am_m 64) 5 = some (.aload_n 0, 0) := by decide +kernel
theorem at_64_6 : am_at (am_m 64) 6 = some (.aload_n 1, 0) := by decide +kernel
theorem at_64_7 : am_at (am_m 64) 7 = some (.putfield 25, 2308) := by decide +kernel
theorem at_64_10 : am_at (am_m 64) 10 = some (.aload_n 1, 0) := by decide +kernel
theorem at_64_11 : am_at (am_m 64) 11 = some (.getfield 142, 769) := by decide +kernel
theorem at_64_14 : am_at (am_m 64) 14 = some (.ifCond .ne 13, 27) := by decide +kernel
theorem at_64_17 : am_at (am_m 64) 17 = some (.aload_n 0, 0) := by decide +kernel
theorem at_64_18 : am_at (am_m 64) 18 = some (.iconst 0, 0) := by decide +kernel
theorem at_64_19 : am_at (am_m 64) 19 = some (.iconst 1, 0) := by decide +kernel
theorem at_64_20 : am_at (am_m 64) 20 = some (.invokevirtual 145, 65) := by decide +kernel
theorem at_64_23 : am_at (am_m 64) 23 = some (.pop, 0) := by decide +kernel
theorem at_64_24 : am_at (am_m 64) 24 = some (.goto 29, 53) := by decide +kernel
theorem at_64_27 : am_at (am_m 64) 27 = some (.aload_n 1, 0) := by decide +kernel
theorem at_64_28 : am_at (am_m 64) 28 = some (.getfield 142, 769) := by decide +kernel
theorem at_64_31 : am_at (am_m 64) 31 = some (.iconst 3, 0) := by decide +kernel
theorem at_64_32 : am_at (am_m 64) 32 = some (.if_icmp .ne 21, 53) := by decide +kernel
theorem at_64_35 : am_at (am_m 64) 35 = some (.aload_n 0, 0) := by decide +kernel
theorem at_64_36 : am_at (am_m 64) 36 = some (.bipush 48, 0) := by decide +kernel
theorem at_64_38 : am_at (am_m 64) 38 = some (.aload_n 1, 0) := by decide +kernel
theorem at_64_39 : am_at (am_m 64) 39 = some (.getfield 148, 770) := by decide +kernel
theorem at_64_42 : am_at (am_m 64) 42 = some (.iadd, 0) := by decide +kernel
theorem at_64_43 : am_at (am_m 64) 43 = some (.i2c, 0) := by decide +kernel
theorem at_64_44 : am_at (am_m 64) 44 = some (.invokevirtual 151, 68) := by decide +kernel
theorem at_64_47 : am_at (am_m 64) 47 = some (.aload_n 0, 0) := by decide +kernel
theorem at_64_48 : am_at (am_m 64) 48 = some (.bipush 58, 0) := by decide +kernel
theorem at_64_50 : am_at (am_m 64) 50 = some (.invokevirtual 151, 68) := by decide +kernel
theorem at_64_53 : am_at (am_m 64) 53 = some (.iconst 0, 0) := by decide +kernel
theorem at_64_54 : am_at (am_m 64) 54 = some (.istore_n 2, 0) := by decide +kernel
theorem at_64_55 : am_at (am_m 64) 55 = some (.aload_n 1, 0) := by decide +kernel
theorem at_64_56 : am_at (am_m 64) 56 = some (.getfield 142, 769) := by decide +kernel
theorem at_64_59 : am_at (am_m 64) 59 = some (.ifCond .eq 62, 121) := by decide +kernel
theorem at_64_62 : am_at (am_m 64) 62 = some (.iload_n 2, 0) := by decide +kernel
theorem at_64_63 : am_at (am_m 64) 63 = some (.aload_n 1, 0) := by decide +kernel
theorem at_64_64 : am_at (am_m 64) 64 = some (.getfield 95, 771) := by decide +kernel
theorem at_64_67 : am_at (am_m 64) 67 = some (.if_icmp .ge 54, 121) := by decide +kernel
theorem at_64_70 : am_at (am_m 64) 70 = some (.iload_n 2, 0) := by decide +kernel
theorem at_64_71 : am_at (am_m 64) 71 = some (.ifCond .le 35, 106) := by decide +kernel
theorem at_64_74 : am_at (am_m 64) 74 = some (.aload_n 0, 0) := by decide +kernel
theorem at_64_75 : am_at (am_m 64) 75 = some (.aload_n 1, 0) := by decide +kernel
theorem at_64_76 : am_at (am_m 64) 76 = some (.getfield 142, 769) := by decide +kernel
theorem at_64_79 : am_at (am_m 64) 79 = some (.iconst 1, 0) := by decide +kernel
theorem at_64_80 : am_at (am_m 64) 80 = some (.if_icmp .ne 8, 88) := by decide +kernel
theorem at_64_83 : am_at (am_m 64) 83 = some (.bipush 32, 0) := by decide +kernel
theorem at_64_85 : am_at (am_m 64) 85 = some (.goto 18, 103) := by decide +kernel
theorem at_64_88 : am_at (am_m 64) 88 = some (.aload_n 1, 0) := by decide +kernel
theorem at_64_89 : am_at (am_m 64) 89 = some (.getfield 142, 769) := by decide +kernel
theorem at_64_92 : am_at (am_m 64) 92 = some (.iconst 2, 0) := by decide +kernel
theorem at_64_93 : am_at (am_m 64) 93 = some (.if_icmp .ne 8, 101) := by decide +kernel
theorem at_64_96 : am_at (am_m 64) 96 = some (.bipush 59, 0) := by decide +kernel
theorem at_64_98 : am_at (am_m 64) 98 = some (.goto 5, 103) := by decide +kernel
theorem at_64_101 : am_at (am_m 64) 101 = some (.bipush 44, 0) := by decide +kernel
theorem at_64_103 : am_at (am_m 64) 103 = some (.invokevirtual 151, 68) := by decide +kernel
theorem at_64_106 : am_at (am_m 64) 106 = some (.aload_n 0, 0) := by decide +kernel
theorem at_64_107 : am_at (am_m 64) 107 = some (.aload_n 1, 0) := by decide +kernel
theorem at_64_108 : am_at (am_m 64) 108 = some (.getfield 142, 769) := by decide +kernel
theorem at_64_111 : am_at (am_m 64) 111 = some (.iload_n 2, 0) := by decide +kernel
theorem at_64_112 : am_at (am_m 64) 112 = some (.invokevirtual 155, 69) := by decide +kernel
theorem at_64_115 : am_at (am_m 64) 115 = some (.iinc 2 1, 0) := by decide +kernel
theorem at_64_118 : am_at (am_m 64) 118 = some (.goto (-63), 55) := by decide +kernel
theorem at_64_121 : am_at (am_m 64) 121 = some (.aload_n 0, 0) := by decide +kernel
theorem at_64_122 : am_at (am_m 64) 122 = some (.getfield 43, 2312) := by decide +kernel
theorem at_64_125 : am_at (am_m 64) 125 = some (.ireturn, 0) := by decide +kernel
theorem at_65_0 : am_at (am_m 65) 0 = some (.aload_n 0, 0) := by decide +kernel
theorem at_65_1 : am_at (am_m 65) 1 = some (.getfield 25, 2308) := by decide +kernel
theorem at_65_4 : am_at (am_m 65) 4 = some (.iload_n 1, 0) := by decide +kernel
theorem at_65_5 : am_at (am_m 65) 5 = some (.iconst 0, 0) := by decide +kernel
theorem at_65_6 : am_at (am_m 65) 6 = some (.invokevirtual 139, 54) := by decide +kernel
theorem at_65_9 : am_at (am_m 65) 9 = some (.istore_n 3, 0) := by decide +kernel
theorem at_65_10 : am_at (am_m 65) 10 = some (.iload_n 1, 0) := by decide +kernel
theorem at_65_11 : am_at (am_m 65) 11 = some (.iconst 1, 0) := by decide +kernel
theorem at_65_12 : am_at (am_m 65) 12 = some (.iadd, 0) := by decide +kernel
theorem at_65_13 : am_at (am_m 65) 13 = some (.istore 4, 0) := by decide +kernel
theorem at_65_15 : am_at (am_m 65) 15 = some (.iload_n 3, 0) := by decide +kernel
theorem at_65_16 : am_at (am_m 65) 16 = some (.ifCond .ne 19, 35) := by decide +kernel
theorem at_65_19 : am_at (am_m 65) 19 = some (.aload_n 0, 0) := by decide +kernel
theorem at_65_20 : am_at (am_m 65) 20 = some (.aload_n 0, 0) := by decide +kernel
theorem at_65_21 : am_at (am_m 65) 21 = some (.getfield 25, 2308) := by decide +kernel
theorem at_65_24 : am_at (am_m 65) 24 = some (.iload_n 1, 0) := by decide +kernel
theorem at_65_25 : am_at (am_m 65) 25 = some (.iconst 1, 0) := by decide +kernel
theorem at_65_26 : am_at (am_m 65) 26 = some (.invokevirtual 139, 54) := by decide +kernel
theorem at_65_29 : am_at (am_m 65) 29 = some (.invokevirtual 163, 66) := by decide +kernel
theorem at_65_32 : am_at (am_m 65) 32 = some (.goto 90, 122) := by decide +kernel
theorem at_65_35 : am_at (am_m 65) 35 = some (.iload_n 3, 0) := by decide +kernel
theorem at_65_36 : am_at (am_m 65) 36 = some (.bipush 7, 0) := by decide +kernel
theorem at_65_38 : am_at (am_m 65) 38 = some (.if_icmp .ge 18, 56) := by decide +kernel
theorem at_65_41 : am_at (am_m 65) 41 = some (.aload_n 0, 0) := by decide +kernel
theorem at_65_42 : am_at (am_m 65) 42 = some (.ldc 87, 5) := by decide +kernel
theorem at_65_44 : am_at (am_m 65) 44 = some (.iload_n 3, 0) := by decide +kernel
theorem at_65_45 : am_at (am_m 65) 45 = some (.iconst 1, 0) := by decide +kernel
theorem at_65_46 : am_at (am_m 65) 46 = some (.isub, 0) := by decide +kernel
theorem at_65_47 : am_at (am_m 65) 47 = some (.invokevirtual 166, 10002) := by decide +kernel
theorem at_65_50 : am_at (am_m 65) 50 = some (.invokevirtual 151, 68) := by decide +kernel
theorem at_65_53 : am_at (am_m 65) 53 = some (.goto 69, 122) := by decide +kernel
theorem at_65_56 : am_at (am_m 65) 56 = some (.aload_n 0, 0) := by decide +kernel
theorem at_65_57 : am_at (am_m 65) 57 = some (.bipush 40, 0) := by decide +kernel
theorem at_65_59 : am_at (am_m 65) 59 = some (.invokevirtual 151, 68) := by decide +kernel
theorem at_65_62 : am_at (am_m 65) 62 = some (.aload_n 0, 0) := by decide +kernel
theorem at_65_63 : am_at (am_m 65) 63 = some (.ldc 108, 6) := by decide +kernel
theorem at_65_65 : am_at (am_m 65) 65 = some (.iload_n 3, 0) := by decide +kernel
theorem at_65_66 : am_at (am_m 65) 66 = some (.bipush 7, 0) := by decide +kernel
theorem at_65_68 : am_at (am_m 65) 68 = some (.isub, 0) := by decide +kernel
theorem at_65_69 : am_at (am_m 65) 69 = some (.invokevirtual 166, 10002) := by decide +kernel
theorem at_65_72 : am_at (am_m 65) 72 = some (.invokevirtual 151, 68) := by decide +kernel
theorem at_65_75 : am_at (am_m 65) 75 = some (.iconst 0, 0) := by decide +kernel
theorem at_65_76 : am_at (am_m 65) 76 = some (.istore 5, 0) := by decide +kernel
theorem at_65_78 : am_at (am_m 65) 78 = some (.iload 5, 0) := by decide +kernel
theorem at_65_80 : am_at (am_m 65) 80 = some (.iload_n 3, 0) := by decide +kernel
theorem at_65_81 : am_at (am_m 65) 81 = some (.invokestatic 114, 14) := by decide +kernel
theorem at_65_84 : am_at (am_m 65) 84 = some (.if_icmp .ge 32, 116) := by decide +kernel
theorem at_65_87 : am_at (am_m 65) 87 = some (.iload_n 2, 0) := by decide +kernel
theorem at_65_88 : am_at (am_m 65) 88 = some (.bipush 12, 0) := by decide +kernel
theorem at_65_90 : am_at (am_m 65) 90 = some (.if_icmp .gt 26, 116) := by decide +kernel
theorem at_65_93 : am_at (am_m 65) 93 = some (.aload_n 0, 0) := by decide +kernel
theorem at_65_94 : am_at (am_m 65) 94 = some (.bipush 32, 0) := by decide +kernel
theorem at_65_96 : am_at (am_m 65) 96 = some (.invokevirtual 151, 68) := by decide +kernel
theorem at_65_99 : am_at (am_m 65) 99 = some (.aload_n 0, 0) := by decide +kernel
theorem at_65_100 : am_at (am_m 65) 100 = some (.iload 4, 0) := by decide +kernel
theorem at_65_102 : am_at (am_m 65) 102 = some (.iload_n 2, 0) := by decide +kernel
theorem at_65_103 : am_at (am_m 65) 103 = some (.iconst 1, 0) := by decide +kernel
theorem at_65_104 : am_at (am_m 65) 104 = some (.iadd, 0) := by decide +kernel
theorem at_65_105 : am_at (am_m 65) 105 = some (.invokevirtual 145, 65) := by decide +kernel
theorem at_65_108 : am_at (am_m 65) 108 = some (.istore 4, 0) := by decide +kernel
theorem at_65_110 : am_at (am_m 65) 110 = some (.iinc 5 1, 0) := by decide +kernel
theorem at_65_113 : am_at (am_m 65) 113 = some (.goto (-35), 78) := by decide +kernel
theorem at_65_116 : am_at (am_m 65) 116 = some (.aload_n 0, 0) := by decide +kernel
theorem at_65_117 : am_at (am_m 65) 117 = some (.bipush 41, 0) := by decide +kernel
theorem at_65_119 : am_at (am_m 65) 119 = some (.invokevirtual 151, 68) := by decide +kernel
theorem at_65_122 : am_at (am_m 65) 122 = some (.iload 4, 0) := by decide +kernel
theorem at_65_124 : am_at (am_m 65) 124 = some (.ireturn, 0) := by decide +kernel
theorem at_66_0 : am_at (am_m 66) 0 = some (.iload_n 1, 0) := by decide +kernel
theorem at_66_1 : am_at (am_m 66) 1 = some (.invokestatic 158, 67) := by decide +kernel
theorem at_66_4 : am_at (am_m 66) 4 = some (.istore_n 2, 0) := by decide +kernel
theorem at_66_5 : am_at (am_m 66) 5 = some (.iload_n 1, 0) := by decide +kernel
theorem at_66_6 : am_at (am_m 66) 6 = some (.ifCond .ge 9, 15) := by decide +kernel
theorem at_66_9 : am_at (am_m 66) 9 = some (.aload_n 0, 0) := by decide +kernel
theorem at_66_10 : am_at (am_m 66) 10 = some (.bipush 45, 0) := by decide +kernel
theorem at_66_12 : am_at (am_m 66) 12 = some (.invokevirtual 151, 68) := by decide +kernel
theorem at_66_15 : am_at (am_m 66) 15 = some (.iload_n 2, 0) := by decide +kernel
theorem at_66_16 : am_at (am_m 66) 16 = some (.bipush 9, 0) := by decide +kernel
theorem at_66_18 : am_at (am_m 66) 18 = some (.if_icmp .le 18, 36) := by decide +kernel
theorem at_66_21 : am_at (am_m 66) 21 = some (.aload_n 0, 0) := by decide +kernel
theorem at_66_22 : am_at (am_m 66) 22 = some (.bipush 48, 0) := by decide +kernel
theorem at_66_24 : am_at (am_m 66) 24 = some (.iload_n 2, 0) := by decide +kernel
theorem at_66_25 : am_at (am_m 66) 25 = some (.bipush 10, 0) := by decide +kernel
theorem at_66_27 : am_at (am_m 66) 27 = some (.idiv, 0) := by decide +kernel
theorem at_66_28 : am_at (am_m 66) 28 = some (.bipush 10, 0) := by decide +kernel
theorem at_66_30 : am_at (am_m 66) 30 = some (.irem, 0) := by decide +kernel
theorem at_66_31 : am_at (am_m 66) 31 = some (.iadd, 0) := by decide +kernel
theorem at_66_32 : am_at (am_m 66) 32 = some (.i2c, 0) := by decide +kernel
theorem at_66_33 : am_at (am_m 66) 33 = some (.invokevirtual 151, 68) := by decide +kernel
theorem at_66_36 : am_at (am_m 66) 36 = some (.aload_n 0, 0) := by decide +kernel
theorem at_66_37 : am_at (am_m 66) 37 = some (.bipush 48, 0) := by decide +kernel
theorem at_66_39 : am_at (am_m 66) 39 = some (.iload_n 2, 0) := by decide +kernel
theorem at_66_40 : am_at (am_m 66) 40 = some (.bipush 10, 0) := by decide +kernel
theorem at_66_42 : am_at (am_m 66) 42 = some (.irem, 0) := by decide +kernel
theorem at_66_43 : am_at (am_m 66) 43 = some (.iadd, 0) := by decide +kernel
theorem at_66_44 : am_at (am_m 66) 44 = some (.i2c, 0) := by decide +kernel
theorem at_66_45 : am_at (am_m 66) 45 = some (.invokevirtual 151, 68) := by decide +kernel
theorem at_66_48 : am_at (am_m 66) 48 = some (.return_, 0) := by decide +kernel
theorem at_67_0 : am_at (am_m 67) 0 = some (.iload_n 0, 0) := by decide +kernel
theorem at_67_1 : am_at (am_m 67) 1 = some (.ifCond .ge 8, 9) := by decide +kernel
theorem at_67_4 : am_at (am_m 67) 4 = some (.iload_n 0, 0) := by decide +kernel
theorem at_67_5 : am_at (am_m 67) 5 = some (.ineg, 0) := by decide +kernel
theorem at_67_6 : am_at (am_m 67) 6 = some (.goto 4, 10) := by decide +kernel
theorem at_67_9 : am_at (am_m 67) 9 = some (.iload_n 0, 0) := by decide +kernel
theorem at_67_10 : am_at (am_m 67) 10 = some (.ireturn, 0) := by decide +kernel
theorem at_68_0 : am_at (am_m 68) 0 = some (.aload_n 0, 0) := by decide +kernel
theorem at_68_1 : am_at (am_m 68) 1 = some (.getfield 43, 2312) := by decide +kernel
theorem at_68_4 : am_at (am_m 68) 4 = some (.aload_n 0, 0) := by decide +kernel
theorem at_68_5 : am_at (am_m 68) 5 = some (.getfield 40, 2311) := by decide +kernel
theorem at_68_8 : am_at (am_m 68) 8 = some (.arraylength, 0) := by decide +kernel
theorem at_68_9 : am_at (am_m 68) 9 = some (.if_icmp .ge 23, 32) := by decide +kernel
theorem at_68_12 : am_at (am_m 68) 12 = some (.aload_n 0, 0) := by decide +kernel
theorem at_68_13 : am_at (am_m 68) 13 = some (.getfield 40, 2311) := by decide +kernel
theorem at_68_16 : am_at (am_m 68) 16 = some (.aload_n 0, 0) := by decide +kernel
theorem at_68_17 : am_at (am_m 68) 17 = some (.getfield 43, 2312) := by decide +kernel
theorem at_68_20 : am_at (am_m 68) 20 = some (.iload_n 1, 0) := by decide +kernel
theorem at_68_21 : am_at (am_m 68) 21 = some (.castore, 0) := by decide +kernel
theorem at_68_22 : am_at (am_m 68) 22 = some (.aload_n 0, 0) := by decide +kernel
theorem at_68_23 : am_at (am_m 68) 23 = some (.dup, 0) := by decide +kernel
theorem at_68_24 : am_at (am_m 68) 24 = some (.getfield 43, 2312) := by decide +kernel
theorem at_68_27 : am_at (am_m 68) 27 = some (.iconst 1, 0) := by decide +kernel
theorem at_68_28 : am_at (am_m 68) 28 = some (.iadd, 0) := by decide +kernel
theorem at_68_29 : am_at (am_m 68) 29 = some (.putfield 43, 2312) := by decide +kernel
theorem at_68_32 : am_at (am_m 68) 32 = some (.return_, 0) := by decide +kernel
theorem at_69_0 : am_at (am_m 69) 0 = some (.aload_n 0, 0) := by decide +kernel
theorem at_69_1 : am_at (am_m 69) 1 = some (.getfield 25, 2308) := by decide +kernel
theorem at_69_4 : am_at (am_m 69) 4 = some (.iload_n 2, 0) := by decide +kernel
theorem at_69_5 : am_at (am_m 69) 5 = some (.iconst 0, 0) := by decide +kernel
theorem at_69_6 : am_at (am_m 69) 6 = some (.invokevirtual 139, 54) := by decide +kernel
theorem at_69_9 : am_at (am_m 69) 9 = some (.istore_n 3, 0) := by decide +kernel
theorem at_69_10 : am_at (am_m 69) 10 = some (.aload_n 0, 0) := by decide +kernel
theorem at_69_11 : am_at (am_m 69) 11 = some (.getfield 25, 2308) := by decide +kernel
theorem at_69_14 : am_at (am_m 69) 14 = some (.iload_n 2, 0) := by decide +kernel
theorem at_69_15 : am_at (am_m 69) 15 = some (.iconst 1, 0) := by decide +kernel
theorem at_69_16 : am_at (am_m 69) 16 = some (.invokevirtual 139, 54) := by decide +kernel
theorem at_69_19 : am_at (am_m 69) 19 = some (.istore 4, 0) := by decide +kernel
theorem at_69_21 : am_at (am_m 69) 21 = some (.iload_n 1, 0) := by decide +kernel
theorem at_69_22 : am_at (am_m 69) 22 = some (.iconst 3, 0) := by decide +kernel
theorem at_69_23 : am_at (am_m 69) 23 = some (.if_icmp .ne 25, 48) := by decide +kernel
theorem at_69_26 : am_at (am_m 69) 26 = some (.aload_n 0, 0) := by decide +kernel
theorem at_69_27 : am_at (am_m 69) 27 = some (.bipush 48, 0) := by decide +kernel
theorem at_69_29 : am_at (am_m 69) 29 = some (.iload_n 3, 0) := by decide +kernel
theorem at_69_30 : am_at (am_m 69) 30 = some (.iadd, 0) := by decide +kernel
theorem at_69_31 : am_at (am_m 69) 31 = some (.i2c, 0) := by decide +kernel
theorem at_69_32 : am_at (am_m 69) 32 = some (.invokevirtual 151, 68) := by decide +kernel
theorem at_69_35 : am_at (am_m 69) 35 = some (.aload_n 0, 0) := by decide +kernel
theorem at_69_36 : am_at (am_m 69) 36 = some (.bipush 48, 0) := by decide +kernel
theorem at_69_38 : am_at (am_m 69) 38 = some (.iload 4, 0) := by decide +kernel
theorem at_69_40 : am_at (am_m 69) 40 = some (.iadd, 0) := by decide +kernel
theorem at_69_41 : am_at (am_m 69) 41 = some (.i2c, 0) := by decide +kernel
theorem at_69_42 : am_at (am_m 69) 42 = some (.invokevirtual 151, 68) := by decide +kernel
theorem at_69_45 : am_at (am_m 69) 45 = some (.goto 114, 159) := by decide +kernel
theorem at_69_48 : am_at (am_m 69) 48 = some (.iload_n 1, 0) := by decide +kernel
theorem at_69_49 : am_at (am_m 69) 49 = some (.iconst 2, 0) := by decide +kernel
theorem at_69_50 : am_at (am_m 69) 50 = some (.if_icmp .ne 52, 102) := by decide +kernel
theorem at_69_53 : am_at (am_m 69) 53 = some (.aload_n 0, 0) := by decide +kernel
theorem at_69_54 : am_at (am_m 69) 54 = some (.iload_n 3, 0) := by decide +kernel
theorem at_69_55 : am_at (am_m 69) 55 = some (.invokevirtual 163, 66) := by decide +kernel
theorem at_69_58 : am_at (am_m 69) 58 = some (.aload_n 0, 0) := by decide +kernel
theorem at_69_59 : am_at (am_m 69) 59 = some (.bipush 58, 0) := by decide +kernel
theorem at_69_61 : am_at (am_m 69) 61 = some (.invokevirtual 151, 68) := by decide +kernel
theorem at_69_64 : am_at (am_m 69) 64 = some (.iconst 0, 0) := by decide +kernel
theorem at_69_65 : am_at (am_m 69) 65 = some (.istore 5, 0) := by decide +kernel
theorem at_69_67 : am_at (am_m 69) 67 = some (.iload 5, 0) := by decide +kernel
theorem at_69_69 : am_at (am_m 69) 69 = some (.iconst 4, 0) := by decide +kernel
theorem at_69_70 : am_at (am_m 69) 70 = some (.if_icmp .ge 29, 99) := by decide +kernel
theorem at_69_73 : am_at (am_m 69) 73 = some (.aload_n 0, 0) := by decide +kernel
theorem at_69_74 : am_at (am_m 69) 74 = some (.bipush 48, 0) := by decide +kernel
theorem at_69_76 : am_at (am_m 69) 76 = some (.aload_n 0, 0) := by decide +kernel
theorem at_69_77 : am_at (am_m 69) 77 = some (.getfield 25, 2308) := by decide +kernel
theorem at_69_80 : am_at (am_m 69) 80 = some (.iload_n 2, 0) := by decide +kernel
theorem at_69_81 : am_at (am_m 69) 81 = some (.iconst 1, 0) := by decide +kernel
theorem at_69_82 : am_at (am_m 69) 82 = some (.iload 5, 0) := by decide +kernel
theorem at_69_84 : am_at (am_m 69) 84 = some (.iadd, 0) := by decide +kernel
theorem at_69_85 : am_at (am_m 69) 85 = some (.invokevirtual 139, 54) := by decide +kernel
theorem at_69_88 : am_at (am_m 69) 88 = some (.iadd, 0) := by decide +kernel
theorem at_69_89 : am_at (am_m 69) 89 = some (.i2c, 0) := by decide +kernel
theorem at_69_90 : am_at (am_m 69) 90 = some (.invokevirtual 151, 68) := by decide +kernel
theorem at_69_93 : am_at (am_m 69) 93 = some (.iinc 5 1, 0) := by decide +kernel
theorem at_69_96 : am_at (am_m 69) 96 = some (.goto (-29), 67) := by decide +kernel
theorem at_69_99 : am_at (am_m 69) 99 = some (.goto 60, 159) := by decide +kernel
theorem at_69_102 : am_at (am_m 69) 102 = some (.iload_n 3, 0) := by decide +kernel
theorem at_69_103 : am_at (am_m 69) 103 = some (.ifCond .ne 12, 115) := by decide +kernel
theorem at_69_106 : am_at (am_m 69) 106 = some (.aload_n 0, 0) := by decide +kernel
theorem at_69_107 : am_at (am_m 69) 107 = some (.iload 4, 0) := by decide +kernel
theorem at_69_109 : am_at (am_m 69) 109 = some (.invokevirtual 163, 66) := by decide +kernel
theorem at_69_112 : am_at (am_m 69) 112 = some (.goto 47, 159) := by decide +kernel
theorem at_69_115 : am_at (am_m 69) 115 = some (.iload_n 3, 0) := by decide +kernel
theorem at_69_116 : am_at (am_m 69) 116 = some (.bipush 17, 0) := by decide +kernel
theorem at_69_118 : am_at (am_m 69) 118 = some (.if_icmp .ge 18, 136) := by decide +kernel
theorem at_69_121 : am_at (am_m 69) 121 = some (.aload_n 0, 0) := by decide +kernel
theorem at_69_122 : am_at (am_m 69) 122 = some (.ldc 129, 7) := by decide +kernel
theorem at_69_124 : am_at (am_m 69) 124 = some (.iload_n 3, 0) := by decide +kernel
theorem at_69_125 : am_at (am_m 69) 125 = some (.iconst 1, 0) := by decide +kernel
theorem at_69_126 : am_at (am_m 69) 126 = some (.isub, 0) := by decide +kernel
theorem at_69_127 : am_at (am_m 69) 127 = some (.invokevirtual 166, 10002) := by decide +kernel
theorem at_69_130 : am_at (am_m 69) 130 = some (.invokevirtual 151, 68) := by decide +kernel
theorem at_69_133 : am_at (am_m 69) 133 = some (.goto 26, 159) := by decide +kernel
theorem at_69_136 : am_at (am_m 69) 136 = some (.aload_n 0, 0) := by decide +kernel
theorem at_69_137 : am_at (am_m 69) 137 = some (.iload_n 3, 0) := by decide +kernel
theorem at_69_138 : am_at (am_m 69) 138 = some (.bipush 17, 0) := by decide +kernel
theorem at_69_140 : am_at (am_m 69) 140 = some (.if_icmp .ne 8, 148) := by decide +kernel
theorem at_69_143 : am_at (am_m 69) 143 = some (.bipush 106, 0) := by decide +kernel
theorem at_69_145 : am_at (am_m 69) 145 = some (.goto 5, 150) := by decide +kernel
theorem at_69_148 : am_at (am_m 69) 148 = some (.bipush 98, 0) := by decide +kernel
theorem at_69_150 : am_at (am_m 69) 150 = some (.invokevirtual 151, 68) := by decide +kernel
theorem at_69_153 : am_at (am_m 69) 153 = some (.aload_n 0, 0) := by decide +kernel
theorem at_69_154 : am_at (am_m 69) 154 = some (.iload 4, 0) := by decide +kernel
theorem at_69_156 : am_at (am_m 69) 156 = some (.invokevirtual 163, 66) := by decide +kernel
theorem at_69_159 : am_at (am_m 69) 159 = some (.return_, 0) := by decide +kernel
theorem at_70_0 : am_at (am_m 70) 0 = some (.aload_n 3, 0) := by decide +kernel
theorem at_70_1 : am_at (am_m 70) 1 = some (.iconst 0, 0) := by decide +kernel
theorem at_70_2 : am_at (am_m 70) 2 = some (.aload_n 0, 0) := by decide +kernel
theorem at_70_3 : am_at (am_m 70) 3 = some (.iload_n 1, 0) := by decide +kernel
theorem at_70_4 : am_at (am_m 70) 4 = some (.iload_n 2, 0) := by decide +kernel
theorem at_70_5 : am_at (am_m 70) 5 = some (.invokevirtual 22, 71) := by decide +kernel
theorem at_70_8 : am_at (am_m 70) 8 = some (.i2l, 0) := by decide +kernel
theorem at_70_9 : am_at (am_m 70) 9 = some (.lastore, 0) := by decide +kernel
theorem at_70_10 : am_at (am_m 70) 10 = some (.goto 7, 17) := by decide +kernel
theorem at_70_15 : am_at (am_m 70) 15 = some (.iconst 1, 0) := by decide +kernel
theorem at_70_16 : am_at (am_m 70) 16 = some (.ireturn, 0) := by decide +kernel
theorem at_70_17 : am_at (am_m 70) 17 = some (.iconst 0, 0) := by decide +kernel
theorem at_70_18 : am_at (am_m 70) 18 = some (.ireturn, 0) := by decide +kernel
theorem at_71_0 : am_at (am_m 71) 0 = some (.aload_n 0, 0) := by decide +kernel
theorem at_71_1 : am_at (am_m 71) 1 = some (.getfield 22, 2818) := by decide +kernel
theorem at_71_4 : am_at (am_m 71) 4 = some (.aload_n 0, 0) := by decide +kernel
theorem at_71_5 : am_at (am_m 71) 5 = some (.iload_n 1, 0) := by decide +kernel
theorem at_71_6 : am_at (am_m 71) 6 = some (.invokevirtual 132, 63) := by decide +kernel
theorem at_71_9 : am_at (am_m 71) 9 = some (.invokevirtual 136, 64) := by decide +kernel
theorem at_71_12 : am_at (am_m 71) 12 = some (.istore_n 3, 0) := by decide +kernel
theorem at_71_13 : am_at (am_m 71) 13 = some (.iload_n 2, 0) := by decide +kernel
theorem at_71_14 : am_at (am_m 71) 14 = some (.ifCond .lt 19, 33) := by decide +kernel
theorem at_71_17 : am_at (am_m 71) 17 = some (.iload_n 2, 0) := by decide +kernel
theorem at_71_18 : am_at (am_m 71) 18 = some (.iload_n 3, 0) := by decide +kernel
theorem at_71_19 : am_at (am_m 71) 19 = some (.if_icmp .ge 14, 33) := by decide +kernel
theorem at_71_22 : am_at (am_m 71) 22 = some (.aload_n 0, 0) := by decide +kernel
theorem at_71_23 : am_at (am_m 71) 23 = some (.getfield 22, 2818) := by decide +kernel
theorem at_71_26 : am_at (am_m 71) 26 = some (.iload_n 2, 0) := by decide +kernel
theorem at_71_27 : am_at (am_m 71) 27 = some (.invokevirtual 140, 72) := by decide +kernel
theorem at_71_30 : am_at (am_m 71) 30 = some (.goto 4, 34) := by decide +kernel
theorem at_71_33 : am_at (am_m 71) 33 = some (.iconst (-1), 0) := by decide +kernel
theorem at_71_34 : am_at (am_m 71) 34 = some (.ireturn, 0) := by decide +kernel
theorem at_72_0 : am_at (am_m 72) 0 = some (.iload_n 1, 0) := by decide +kernel
theorem at_72_1 : am_at (am_m 72) 1 = some (.ifCond .lt 20, 21) := by decide +kernel
theorem at_72_4 : am_at (am_m 72) 4 = some (.iload_n 1, 0) := by decide +kernel
theorem at_72_5 : am_at (am_m 72) 5 = some (.aload_n 0, 0) := by decide +kernel
theorem at_72_6 : am_at (am_m 72) 6 = some (.getfield 43, 2312) := by decide +kernel
theorem at_72_9 : am_at (am_m 72) 9 = some (.if_icmp .ge 12, 21) := by decide +kernel
theorem at_72_12 : am_at (am_m 72) 12 = some (.aload_n 0, 0) := by decide +kernel
theorem at_72_13 : am_at (am_m 72) 13 = some (.getfield 40, 2311) := by decide +kernel
theorem at_72_16 : am_at (am_m 72) 16 = some (.iload_n 1, 0) := by decide +kernel
theorem at_72_17 : am_at (am_m 72) 17 = some (.caload, 0) := by decide +kernel
theorem at_72_18 : am_at (am_m 72) 18 = some (.goto 4, 22) := by decide +kernel
theorem at_72_21 : am_at (am_m 72) 21 = some (.iconst (-1), 0) := by decide +kernel
theorem at_72_22 : am_at (am_m 72) 22 = some (.ireturn, 0) := by decide +kernel
theorem at_73_0 : am_at (am_m 73) 0 = some (.aload_n 3, 0) := by decide +kernel
theorem at_73_1 : am_at (am_m 73) 1 = some (.iconst 0, 0) := by decide +kernel
theorem at_73_2 : am_at (am_m 73) 2 = some (.aload_n 0, 0) := by decide +kernel
theorem at_73_3 : am_at (am_m 73) 3 = some (.iload_n 1, 0) := by decide +kernel
theorem at_73_4 : am_at (am_m 73) 4 = some (.iload_n 2, 0) := by decide +kernel
theorem at_73_5 : am_at (am_m 73) 5 = some (.invokevirtual 26, 74) := by decide +kernel
theorem at_73_8 : am_at (am_m 73) 8 = some (.i2l, 0) := by decide +kernel
theorem at_73_9 : am_at (am_m 73) 9 = some (.lastore, 0) := by decide +kernel
theorem at_73_10 : am_at (am_m 73) 10 = some (.goto 11, 21) := by decide +kernel
theorem at_73_15 : am_at (am_m 73) 15 = some (.iconst 1, 0) := by decide +kernel
theorem at_73_16 : am_at (am_m 73) 16 = some (.ireturn, 0) := by decide +kernel
theorem at_73_19 : am_at (am_m 73) 19 = some (.iconst 2, 0) := by decide +kernel
theorem at_73_20 : am_at (am_m 73) 20 = some (.ireturn, 0) := by decide +kernel
theorem at_73_21 : am_at (am_m 73) 21 = some (.iconst 0, 0) := by decide +kernel
theorem at_73_22 : am_at (am_m 73) 22 = some (.ireturn, 0) := by decide +kernel
theorem at_74_0 : am_at (am_m 74) 0 = some (.aload_n 0, 0) := by decide +kernel
theorem at_74_1 : am_at (am_m 74) 1 = some (.iload_n 1, 0) := by decide +kernel
theorem at_74_2 : am_at (am_m 74) 2 = some (.invokevirtual 132, 63) := by decide +kernel
theorem at_74_5 : am_at (am_m 74) 5 = some (.astore_n 3, 0) := by decide +kernel
theorem at_74_6 : am_at (am_m 74) 6 = some (.iload_n 2, 0) := by decide +kernel
theorem at_74_7 : am_at (am_m 74) 7 = some (.tableswitch 109 0 8 #[49, 54, 59, 64, 69, 74, 79, 84, 89], 0) := by decide +kernel
theorem at_74_56 : am_at (am_m 74) 56 = some (.aload_n 3, 0) := by decide +kernel
theorem at_74_57 : am_at (am_m 74) 57 = some (.getfield 144, 769) := by decide +kernel
theorem at_74_60 : am_at (am_m 74) 60 = some (.ireturn, 0) := by decide +kernel
theorem at_74_61 : am_at (am_m 74) 61 = some (.aload_n 3, 0) := by decide +kernel
theorem at_74_62 : am_at (am_m 74) 62 = some (.getfield 147, 771) := by decide +kernel
theorem at_74_65 : am_at (am_m 74) 65 = some (.ireturn, 0) := by decide +kernel
theorem at_74_66 : am_at (am_m 74) 66 = some (.aload_n 3, 0) := by decide +kernel
theorem at_74_67 : am_at (am_m 74) 67 = some (.getfield 150, 773) := by decide +kernel
theorem at_74_70 : am_at (am_m 74) 70 = some (.ireturn, 0) := by decide +kernel
theorem at_74_71 : am_at (am_m 74) 71 = some (.aload_n 3, 0) := by decide +kernel
theorem at_74_72 : am_at (am_m 74) 72 = some (.getfield 153, 774) := by decide +kernel
theorem at_74_75 : am_at (am_m 74) 75 = some (.ireturn, 0) := by decide +kernel
theorem at_74_76 : am_at (am_m 74) 76 = some (.aload_n 3, 0) := by decide +kernel
theorem at_74_77 : am_at (am_m 74) 77 = some (.getfield 156, 775) := by decide +kernel
theorem at_74_80 : am_at (am_m 74) 80 = some (.ireturn, 0) := by decide +kernel
theorem at_74_81 : am_at (am_m 74) 81 = some (.aload_n 3, 0) := by decide +kernel
theorem at_74_82 : am_at (am_m 74) 82 = some (.getfield 159, 776) := by decide +kernel
theorem at_74_85 : am_at (am_m 74) 85 = some (.ireturn, 0) := by decide +kernel
theorem at_74_86 : am_at (am_m 74) 86 = some (.aload_n 3, 0) := by decide +kernel
theorem at_74_87 : am_at (am_m 74) 87 = some (.getfield 162, 777) := by decide +kernel
theorem at_74_90 : am_at (am_m 74) 90 = some (.ireturn, 0) := by decide +kernel
theorem at_74_91 : am_at (am_m 74) 91 = some (.aload_n 3, 0) := by decide +kernel
theorem at_74_92 : am_at (am_m 74) 92 = some (.getfield 165, 770) := by decide +kernel
theorem at_74_95 : am_at (am_m 74) 95 = some (.ireturn, 0) := by decide +kernel
theorem at_74_96 : am_at (am_m 74) 96 = some (.aload_n 3, 0) := by decide +kernel
theorem at_74_97 : am_at (am_m 74) 97 = some (.getfield 144, 769) := by decide +kernel
theorem at_74_100 : am_at (am_m 74) 100 = some (.ifCond .ne 14, 114) := by decide +kernel
theorem at_74_103 : am_at (am_m 74) 103 = some (.aload_n 0, 0) := by decide +kernel
theorem at_74_104 : am_at (am_m 74) 104 = some (.getfield 68, 2825) := by decide +kernel
theorem at_74_107 : am_at (am_m 74) 107 = some (.aload_n 3, 0) := by decide +kernel
theorem at_74_108 : am_at (am_m 74) 108 = some (.invokevirtual 168, 75) := by decide +kernel
theorem at_74_111 : am_at (am_m 74) 111 = some (.goto 4, 115) := by decide +kernel
theorem at_74_114 : am_at (am_m 74) 114 = some (.iconst 0, 0) := by decide +kernel
theorem at_74_115 : am_at (am_m 74) 115 = some (.ireturn, 0) := by decide +kernel
theorem at_74_116 : am_at (am_m 74) 116 = some (.new 114, 100) := by decide +kernel
theorem at_75_0 : am_at (am_m 75) 0 = some (.aload_n 0, 0) := by decide +kernel
theorem at_75_1 : am_at (am_m 75) 1 = some (.getfield 12, 2560) := by decide +kernel
theorem at_75_4 : am_at (am_m 75) 4 = some (.aload_n 1, 0) := by decide +kernel
theorem at_75_5 : am_at (am_m 75) 5 = some (.invokevirtual 58, 76) := by decide +kernel
theorem at_75_8 : am_at (am_m 75) 8 = some (.aload_n 1, 0) := by decide +kernel
theorem at_75_9 : am_at (am_m 75) 9 = some (.getfield 62, 771) := by decide +kernel
theorem at_75_12 : am_at (am_m 75) 12 = some (.ifCond .le 15, 27) := by decide +kernel
theorem at_75_15 : am_at (am_m 75) 15 = some (.aload_n 0, 0) := by decide +kernel
theorem at_75_16 : am_at (am_m 75) 16 = some (.getfield 12, 2560) := by decide +kernel
theorem at_75_19 : am_at (am_m 75) 19 = some (.getfield 65, 1794) := by decide +kernel
theorem at_75_22 : am_at (am_m 75) 22 = some (.iconst 0, 0) := by decide +kernel
theorem at_75_23 : am_at (am_m 75) 23 = some (.iaload, 0) := by decide +kernel
theorem at_75_24 : am_at (am_m 75) 24 = some (.goto 4, 28) := by decide +kernel
theorem at_75_27 : am_at (am_m 75) 27 = some (.iconst 0, 0) := by decide +kernel
theorem at_75_28 : am_at (am_m 75) 28 = some (.ireturn, 0) := by decide +kernel
theorem at_76_0 : am_at (am_m 76) 0 = some (.aload_n 0, 0) := by decide +kernel
theorem at_76_1 : am_at (am_m 76) 1 = some (.aload_n 1, 0) := by decide +kernel
theorem at_76_2 : am_at (am_m 76) 2 = some (.invokevirtual 57, 77) := by decide +kernel
theorem at_76_5 : am_at (am_m 76) 5 = some (.aload_n 0, 0) := by decide +kernel
theorem at_76_6 : am_at (am_m 76) 6 = some (.getfield 34, 1799) := by decide +kernel
theorem at_76_9 : am_at (am_m 76) 9 = some (.iconst 1, 0) := by decide +kernel
theorem at_76_10 : am_at (am_m 76) 10 = some (.isub, 0) := by decide +kernel
theorem at_76_11 : am_at (am_m 76) 11 = some (.istore_n 2, 0) := by decide +kernel
theorem at_76_12 : am_at (am_m 76) 12 = some (.iload_n 2, 0) := by decide +kernel
theorem at_76_13 : am_at (am_m 76) 13 = some (.ifCond .lt 20, 33) := by decide +kernel
theorem at_76_16 : am_at (am_m 76) 16 = some (.aload_n 0, 0) := by decide +kernel
theorem at_76_17 : am_at (am_m 76) 17 = some (.iload_n 2, 0) := by decide +kernel
theorem at_76_18 : am_at (am_m 76) 18 = some (.aload_n 1, 0) := by decide +kernel
theorem at_76_19 : am_at (am_m 76) 19 = some (.iload_n 2, 0) := by decide +kernel
theorem at_76_20 : am_at (am_m 76) 20 = some (.iconst 0, 0) := by decide +kernel
theorem at_76_21 : am_at (am_m 76) 21 = some (.invokevirtual 51, 54) := by decide +kernel
theorem at_76_24 : am_at (am_m 76) 24 = some (.invokevirtual 61, 78) := by decide +kernel
theorem at_76_27 : am_at (am_m 76) 27 = some (.iinc 2 (-1), 0) := by decide +kernel
theorem at_76_30 : am_at (am_m 76) 30 = some (.goto (-18), 12) := by decide +kernel
theorem at_76_33 : am_at (am_m 76) 33 = some (.aload_n 0, 0) := by decide +kernel
theorem at_76_34 : am_at (am_m 76) 34 = some (.getfield 34, 1799) := by decide +kernel
theorem at_76_37 : am_at (am_m 76) 37 = some (.ifCond .le 17, 54) := by decide +kernel
theorem at_76_40 : am_at (am_m 76) 40 = some (.aload_n 0, 0) := by decide +kernel
theorem at_76_41 : am_at (am_m 76) 41 = some (.getfield 15, 1793) := by decide +kernel
theorem at_76_44 : am_at (am_m 76) 44 = some (.iconst 0, 0) := by decide +kernel
theorem at_76_45 : am_at (am_m 76) 45 = some (.iconst 1, 0) := by decide +kernel
theorem at_76_46 : am_at (am_m 76) 46 = some (.iastore, 0) := by decide +kernel
theorem at_76_47 : am_at (am_m 76) 47 = some (.aload_n 0, 0) := by decide +kernel
theorem at_76_48 : am_at (am_m 76) 48 = some (.getfield 21, 1795) := by decide +kernel
theorem at_76_51 : am_at (am_m 76) 51 = some (.iconst 0, 0) := by decide +kernel
theorem at_76_52 : am_at (am_m 76) 52 = some (.iconst 0, 0) := by decide +kernel
theorem at_76_53 : am_at (am_m 76) 53 = some (.bastore, 0) := by decide +kernel
theorem at_76_54 : am_at (am_m 76) 54 = some (.iconst 0, 0) := by decide +kernel
theorem at_76_55 : am_at (am_m 76) 55 = some (.istore_n 2, 0) := by decide +kernel
theorem at_76_56 : am_at (am_m 76) 56 = some (.iload_n 2, 0) := by decide +kernel
theorem at_76_57 : am_at (am_m 76) 57 = some (.aload_n 0, 0) := by decide +kernel
theorem at_76_58 : am_at (am_m 76) 58 = some (.getfield 34, 1799) := by decide +kernel
theorem at_76_61 : am_at (am_m 76) 61 = some (.if_icmp .ge 20, 81) := by decide +kernel
theorem at_76_64 : am_at (am_m 76) 64 = some (.aload_n 0, 0) := by decide +kernel
theorem at_76_65 : am_at (am_m 76) 65 = some (.iload_n 2, 0) := by decide +kernel
theorem at_76_66 : am_at (am_m 76) 66 = some (.aload_n 1, 0) := by decide +kernel
theorem at_76_67 : am_at (am_m 76) 67 = some (.iload_n 2, 0) := by decide +kernel
theorem at_76_68 : am_at (am_m 76) 68 = some (.iconst 0, 0) := by decide +kernel
theorem at_76_69 : am_at (am_m 76) 69 = some (.invokevirtual 51, 54) := by decide +kernel
theorem at_76_72 : am_at (am_m 76) 72 = some (.invokevirtual 65, 79) := by decide +kernel
theorem at_76_75 : am_at (am_m 76) 75 = some (.iinc 2 1, 0) := by decide +kernel
theorem at_76_78 : am_at (am_m 76) 78 = some (.goto (-22), 56) := by decide +kernel
theorem at_76_81 : am_at (am_m 76) 81 = some (.return_, 0) := by decide +kernel
theorem at_77_0 : am_at (am_m 77) 0 = some (.aload_n 0, 0) := by decide +kernel
theorem at_77_1 : am_at (am_m 77) 1 = some (.aload_n 1, 0) := by decide +kernel
theorem at_77_2 : am_at (am_m 77) 2 = some (.getfield 42, 771) := by decide +kernel
theorem at_77_5 : am_at (am_m 77) 5 = some (.bipush 60, 0) := by decide +kernel
theorem at_77_7 : am_at (am_m 77) 7 = some (.invokestatic 45, 38) := by decide +kernel
theorem at_77_10 : am_at (am_m 77) 10 = some (.putfield 34, 1799) := by decide +kernel
theorem at_77_13 : am_at (am_m 77) 13 = some (.aload_n 0, 0) := by decide +kernel
theorem at_77_14 : am_at (am_m 77) 14 = some (.getfield 34, 1799) := by decide +kernel
theorem at_77_17 : am_at (am_m 77) 17 = some (.iconst 1, 0) := by decide +kernel
theorem at_77_18 : am_at (am_m 77) 18 = some (.isub, 0) := by decide +kernel
theorem at_77_19 : am_at (am_m 77) 19 = some (.istore_n 2, 0) := by decide +kernel
theorem at_77_20 : am_at (am_m 77) 20 = some (.iload_n 2, 0) := by decide +kernel
theorem at_77_21 : am_at (am_m 77) 21 = some (.ifCond .lt 64, 85) := by decide +kernel
theorem at_77_24 : am_at (am_m 77) 24 = some (.iload_n 2, 0) := by decide +kernel
theorem at_77_25 : am_at (am_m 77) 25 = some (.iconst 1, 0) := by decide +kernel
theorem at_77_26 : am_at (am_m 77) 26 = some (.iadd, 0) := by decide +kernel
theorem at_77_27 : am_at (am_m 77) 27 = some (.istore_n 3, 0) := by decide +kernel
theorem at_77_28 : am_at (am_m 77) 28 = some (.aload_n 1, 0) := by decide +kernel
theorem at_77_29 : am_at (am_m 77) 29 = some (.iload_n 2, 0) := by decide +kernel
theorem at_77_30 : am_at (am_m 77) 30 = some (.iconst 0, 0) := by decide +kernel
theorem at_77_31 : am_at (am_m 77) 31 = some (.invokevirtual 51, 54) := by decide +kernel
theorem at_77_34 : am_at (am_m 77) 34 = some (.invokestatic 54, 14) := by decide +kernel
theorem at_77_37 : am_at (am_m 77) 37 = some (.istore 4, 0) := by decide +kernel
theorem at_77_39 : am_at (am_m 77) 39 = some (.iload 4, 0) := by decide +kernel
theorem at_77_41 : am_at (am_m 77) 41 = some (.ifCond .le 31, 72) := by decide +kernel
theorem at_77_44 : am_at (am_m 77) 44 = some (.iload_n 3, 0) := by decide +kernel
theorem at_77_45 : am_at (am_m 77) 45 = some (.aload_n 0, 0) := by decide +kernel
theorem at_77_46 : am_at (am_m 77) 46 = some (.getfield 34, 1799) := by decide +kernel
theorem at_77_49 : am_at (am_m 77) 49 = some (.if_icmp .ge 12, 61) := by decide +kernel
theorem at_77_52 : am_at (am_m 77) 52 = some (.aload_n 0, 0) := by decide +kernel
theorem at_77_53 : am_at (am_m 77) 53 = some (.getfield 9, 1792) := by decide +kernel
theorem at_77_56 : am_at (am_m 77) 56 = some (.iload_n 3, 0) := by decide +kernel
theorem at_77_57 : am_at (am_m 77) 57 = some (.iaload, 0) := by decide +kernel
theorem at_77_58 : am_at (am_m 77) 58 = some (.goto 7, 65) := by decide +kernel
theorem at_77_61 : am_at (am_m 77) 61 = some (.aload_n 0, 0) := by decide +kernel
theorem at_77_62 : am_at (am_m 77) 62 = some (.getfield 34, 1799) := by decide +kernel
theorem at_77_65 : am_at (am_m 77) 65 = some (.istore_n 3, 0) := by decide +kernel
theorem at_77_66 : am_at (am_m 77) 66 = some (.iinc 4 (-1), 0) := by decide +kernel
theorem at_77_69 : am_at (am_m 77) 69 = some (.goto (-30), 39) := by decide +kernel
theorem at_77_72 : am_at (am_m 77) 72 = some (.aload_n 0, 0) := by decide +kernel
theorem at_77_73 : am_at (am_m 77) 73 = some (.getfield 9, 1792) := by decide +kernel
theorem at_77_76 : am_at (am_m 77) 76 = some (.iload_n 2, 0) := by decide +kernel
theorem at_77_77 : am_at (am_m 77) 77 = some (.iload_n 3, 0) := by decide +kernel
theorem at_77_78 : am_at (am_m 77) 78 = some (.iastore, 0) := by decide +kernel
theorem at_77_79 : am_at (am_m 77) 79 = some (.iinc 2 (-1), 0) := by decide +kernel
theorem at_77_82 : am_at (am_m 77) 82 = some (.goto (-62), 20) := by decide +kernel
theorem at_77_85 : am_at (am_m 77) 85 = some (.return_, 0) := by decide +kernel
theorem at_78_0 : am_at (am_m 78) 0 = some (.aload_n 0, 0) := by decide +kernel
theorem at_78_1 : am_at (am_m 78) 1 = some (.getfield 18, 1794) := by decide +kernel
theorem at_78_4 : am_at (am_m 78) 4 = some (.iload_n 1, 0) := by decide +kernel
theorem at_78_5 : am_at (am_m 78) 5 = some (.iconst 1, 0) := by decide +kernel
theorem at_78_6 : am_at (am_m 78) 6 = some (.iastore, 0) := by decide +kernel
theorem at_78_7 : am_at (am_m 78) 7 = some (.aload_n 0, 0) := by decide +kernel
theorem at_78_8 : am_at (am_m 78) 8 = some (.getfield 25, 1796) := by decide +kernel
theorem at_78_11 : am_at (am_m 78) 11 = some (.iload_n 1, 0) := by decide +kernel
theorem at_78_12 : am_at (am_m 78) 12 = some (.iload_n 2, 0) := by decide +kernel
theorem at_78_13 : am_at (am_m 78) 13 = some (.bipush 19, 0) := by decide +kernel
theorem at_78_15 : am_at (am_m 78) 15 = some (.if_icmp .ne 7, 22) := by decide +kernel
theorem at_78_18 : am_at (am_m 78) 18 = some (.iconst 1, 0) := by decide +kernel
theorem at_78_19 : am_at (am_m 78) 19 = some (.goto 4, 23) := by decide +kernel
theorem at_78_22 : am_at (am_m 78) 22 = some (.iconst 0, 0) := by decide +kernel
theorem at_78_23 : am_at (am_m 78) 23 = some (.bastore, 0) := by decide +kernel
theorem at_78_24 : am_at (am_m 78) 24 = some (.aload_n 0, 0) := by decide +kernel
theorem at_78_25 : am_at (am_m 78) 25 = some (.getfield 28, 1797) := by decide +kernel
theorem at_78_28 : am_at (am_m 78) 28 = some (.iload_n 1, 0) := by decide +kernel
theorem at_78_29 : am_at (am_m 78) 29 = some (.iload_n 2, 0) := by decide +kernel
theorem at_78_30 : am_at (am_m 78) 30 = some (.iconst 5, 0) := by decide +kernel
theorem at_78_31 : am_at (am_m 78) 31 = some (.if_icmp .eq 9, 40) := by decide +kernel
theorem at_78_34 : am_at (am_m 78) 34 = some (.iload_n 2, 0) := by decide +kernel
theorem at_78_35 : am_at (am_m 78) 35 = some (.bipush 6, 0) := by decide +kernel
theorem at_78_37 : am_at (am_m 78) 37 = some (.if_icmp .ne 7, 44) := by decide +kernel
theorem at_78_40 : am_at (am_m 78) 40 = some (.iconst 1, 0) := by decide +kernel
theorem at_78_41 : am_at (am_m 78) 41 = some (.goto 4, 45) := by decide +kernel
theorem at_78_44 : am_at (am_m 78) 44 = some (.iconst 0, 0) := by decide +kernel
theorem at_78_45 : am_at (am_m 78) 45 = some (.bastore, 0) := by decide +kernel
theorem at_78_46 : am_at (am_m 78) 46 = some (.iload_n 1, 0) := by decide +kernel
theorem at_78_47 : am_at (am_m 78) 47 = some (.iconst 1, 0) := by decide +kernel
theorem at_78_48 : am_at (am_m 78) 48 = some (.iadd, 0) := by decide +kernel
theorem at_78_49 : am_at (am_m 78) 49 = some (.istore_n 3, 0) := by decide +kernel
theorem at_78_50 : am_at (am_m 78) 50 = some (.iconst 0, 0) := by decide +kernel
theorem at_78_51 : am_at (am_m 78) 51 = some (.istore 4, 0) := by decide +kernel
theorem at_78_53 : am_at (am_m 78) 53 = some (.iload 4, 0) := by decide +kernel
theorem at_78_55 : am_at (am_m 78) 55 = some (.iload_n 2, 0) := by decide +kernel
theorem at_78_56 : am_at (am_m 78) 56 = some (.invokestatic 54, 14) := by decide +kernel
theorem at_78_59 : am_at (am_m 78) 59 = some (.if_icmp .ge 117, 176) := by decide +kernel
theorem at_78_62 : am_at (am_m 78) 62 = some (.iload_n 3, 0) := by decide +kernel
theorem at_78_63 : am_at (am_m 78) 63 = some (.aload_n 0, 0) := by decide +kernel
theorem at_78_64 : am_at (am_m 78) 64 = some (.getfield 34, 1799) := by decide +kernel
theorem at_78_67 : am_at (am_m 78) 67 = some (.if_icmp .ge 109, 176) := by decide +kernel
theorem at_78_70 : am_at (am_m 78) 70 = some (.aload_n 0, 0) := by decide +kernel
theorem at_78_71 : am_at (am_m 78) 71 = some (.getfield 18, 1794) := by decide +kernel
theorem at_78_74 : am_at (am_m 78) 74 = some (.iload_n 1, 0) := by decide +kernel
theorem at_78_75 : am_at (am_m 78) 75 = some (.aload_n 0, 0) := by decide +kernel
theorem at_78_76 : am_at (am_m 78) 76 = some (.getfield 18, 1794) := by decide +kernel
theorem at_78_79 : am_at (am_m 78) 79 = some (.iload_n 1, 0) := by decide +kernel
theorem at_78_80 : am_at (am_m 78) 80 = some (.iaload, 0) := by decide +kernel
theorem at_78_81 : am_at (am_m 78) 81 = some (.aload_n 0, 0) := by decide +kernel
theorem at_78_82 : am_at (am_m 78) 82 = some (.getfield 18, 1794) := by decide +kernel
theorem at_78_85 : am_at (am_m 78) 85 = some (.iload_n 3, 0) := by decide +kernel
theorem at_78_86 : am_at (am_m 78) 86 = some (.iaload, 0) := by decide +kernel
theorem at_78_87 : am_at (am_m 78) 87 = some (.iconst 1, 0) := by decide +kernel
theorem at_78_88 : am_at (am_m 78) 88 = some (.iadd, 0) := by decide +kernel
theorem at_78_89 : am_at (am_m 78) 89 = some (.invokestatic 68, 37) := by decide +kernel
theorem at_78_92 : am_at (am_m 78) 92 = some (.iastore, 0) := by decide +kernel
theorem at_78_93 : am_at (am_m 78) 93 = some (.aload_n 0, 0) := by decide +kernel
theorem at_78_94 : am_at (am_m 78) 94 = some (.getfield 25, 1796) := by decide +kernel
theorem at_78_97 : am_at (am_m 78) 97 = some (.iload_n 1, 0) := by decide +kernel
theorem at_78_98 : am_at (am_m 78) 98 = some (.aload_n 0, 0) := by decide +kernel
theorem at_78_99 : am_at (am_m 78) 99 = some (.getfield 25, 1796) := by decide +kernel
theorem at_78_102 : am_at (am_m 78) 102 = some (.iload_n 1, 0) := by decide +kernel
theorem at_78_103 : am_at (am_m 78) 103 = some (.baload, 0) := by decide +kernel
theorem at_78_104 : am_at (am_m 78) 104 = some (.ifCond .ne 12, 116) := by decide +kernel
theorem at_78_107 : am_at (am_m 78) 107 = some (.aload_n 0, 0) := by decide +kernel
theorem at_78_108 : am_at (am_m 78) 108 = some (.getfield 25, 1796) := by decide +kernel
theorem at_78_111 : am_at (am_m 78) 111 = some (.iload_n 3, 0) := by decide +kernel
theorem at_78_112 : am_at (am_m 78) 112 = some (.baload, 0) := by decide +kernel
theorem at_78_113 : am_at (am_m 78) 113 = some (.ifCond .eq 7, 120) := by decide +kernel
theorem at_78_116 : am_at (am_m 78) 116 = some (.iconst 1, 0) := by decide +kernel
theorem at_78_117 : am_at (am_m 78) 117 = some (.goto 4, 121) := by decide +kernel
theorem at_78_120 : am_at (am_m 78) 120 = some (.iconst 0, 0) := by decide +kernel
theorem at_78_121 : am_at (am_m 78) 121 = some (.bastore, 0) := by decide +kernel
theorem at_78_122 : am_at (am_m 78) 122 = some (.aload_n 0, 0) := by decide +kernel
theorem at_78_123 : am_at (am_m 78) 123 = some (.getfield 28, 1797) := by decide +kernel
theorem at_78_126 : am_at (am_m 78) 126 = some (.iload_n 1, 0) := by decide +kernel
theorem at_78_127 : am_at (am_m 78) 127 = some (.aload_n 0, 0) := by decide +kernel
theorem at_78_128 : am_at (am_m 78) 128 = some (.getfield 28, 1797) := by decide +kernel
theorem at_78_131 : am_at (am_m 78) 131 = some (.iload_n 1, 0) := by decide +kernel
theorem at_78_132 : am_at (am_m 78) 132 = some (.baload, 0) := by decide +kernel
theorem at_78_133 : am_at (am_m 78) 133 = some (.ifCond .ne 24, 157) := by decide +kernel
theorem at_78_136 : am_at (am_m 78) 136 = some (.aload_n 0, 0) := by decide +kernel
theorem at_78_137 : am_at (am_m 78) 137 = some (.getfield 28, 1797) := by decide +kernel
theorem at_78_140 : am_at (am_m 78) 140 = some (.iload_n 3, 0) := by decide +kernel
theorem at_78_141 : am_at (am_m 78) 141 = some (.baload, 0) := by decide +kernel
theorem at_78_142 : am_at (am_m 78) 142 = some (.ifCond .eq 19, 161) := by decide +kernel
theorem at_78_145 : am_at (am_m 78) 145 = some (.iload_n 2, 0) := by decide +kernel
theorem at_78_146 : am_at (am_m 78) 146 = some (.bipush 19, 0) := by decide +kernel
theorem at_78_148 : am_at (am_m 78) 148 = some (.if_icmp .ne 9, 157) := by decide +kernel
theorem at_78_151 : am_at (am_m 78) 151 = some (.iload 4, 0) := by decide +kernel
theorem at_78_153 : am_at (am_m 78) 153 = some (.iconst 1, 0) := by decide +kernel
theorem at_78_154 : am_at (am_m 78) 154 = some (.if_icmp .eq 7, 161) := by decide +kernel
theorem at_78_157 : am_at (am_m 78) 157 = some (.iconst 1, 0) := by decide +kernel
theorem at_78_158 : am_at (am_m 78) 158 = some (.goto 4, 162) := by decide +kernel
theorem at_78_161 : am_at (am_m 78) 161 = some (.iconst 0, 0) := by decide +kernel
theorem at_78_162 : am_at (am_m 78) 162 = some (.bastore, 0) := by decide +kernel
theorem at_78_163 : am_at (am_m 78) 163 = some (.aload_n 0, 0) := by decide +kernel
theorem at_78_164 : am_at (am_m 78) 164 = some (.getfield 9, 1792) := by decide +kernel
theorem at_78_167 : am_at (am_m 78) 167 = some (.iload_n 3, 0) := by decide +kernel
theorem at_78_168 : am_at (am_m 78) 168 = some (.iaload, 0) := by decide +kernel
theorem at_78_169 : am_at (am_m 78) 169 = some (.istore_n 3, 0) := by decide +kernel
theorem at_78_170 : am_at (am_m 78) 170 = some (.iinc 4 1, 0) := by decide +kernel
theorem at_78_173 : am_at (am_m 78) 173 = some (.goto (-120), 53) := by decide +kernel
theorem at_78_176 : am_at (am_m 78) 176 = some (.return_, 0) := by decide +kernel
theorem at_79_0 : am_at (am_m 79) 0 = some (.iload_n 1, 0) := by decide +kernel
theorem at_79_1 : am_at (am_m 79) 1 = some (.iconst 1, 0) := by decide +kernel
theorem at_79_2 : am_at (am_m 79) 2 = some (.iadd, 0) := by decide +kernel
theorem at_79_3 : am_at (am_m 79) 3 = some (.istore_n 3, 0) := by decide +kernel
theorem at_79_4 : am_at (am_m 79) 4 = some (.iconst 0, 0) := by decide +kernel
theorem at_79_5 : am_at (am_m 79) 5 = some (.istore 4, 0) := by decide +kernel
theorem at_79_7 : am_at (am_m 79) 7 = some (.iload 4, 0) := by decide +kernel
theorem at_79_9 : am_at (am_m 79) 9 = some (.iload_n 2, 0) := by decide +kernel
theorem at_79_10 : am_at (am_m 79) 10 = some (.invokestatic 54, 14) := by decide +kernel
theorem at_79_13 : am_at (am_m 79) 13 = some (.if_icmp .ge 70, 83) := by decide +kernel
theorem at_79_16 : am_at (am_m 79) 16 = some (.iload_n 3, 0) := by decide +kernel
theorem at_79_17 : am_at (am_m 79) 17 = some (.aload_n 0, 0) := by decide +kernel
theorem at_79_18 : am_at (am_m 79) 18 = some (.getfield 34, 1799) := by decide +kernel
theorem at_79_21 : am_at (am_m 79) 21 = some (.if_icmp .ge 62, 83) := by decide +kernel
theorem at_79_24 : am_at (am_m 79) 24 = some (.aload_n 0, 0) := by decide +kernel
theorem at_79_25 : am_at (am_m 79) 25 = some (.getfield 15, 1793) := by decide +kernel
theorem at_79_28 : am_at (am_m 79) 28 = some (.iload_n 3, 0) := by decide +kernel
theorem at_79_29 : am_at (am_m 79) 29 = some (.aload_n 0, 0) := by decide +kernel
theorem at_79_30 : am_at (am_m 79) 30 = some (.getfield 15, 1793) := by decide +kernel
theorem at_79_33 : am_at (am_m 79) 33 = some (.iload_n 1, 0) := by decide +kernel
theorem at_79_34 : am_at (am_m 79) 34 = some (.iaload, 0) := by decide +kernel
theorem at_79_35 : am_at (am_m 79) 35 = some (.iconst 1, 0) := by decide +kernel
theorem at_79_36 : am_at (am_m 79) 36 = some (.iadd, 0) := by decide +kernel
theorem at_79_37 : am_at (am_m 79) 37 = some (.iastore, 0) := by decide +kernel
theorem at_79_38 : am_at (am_m 79) 38 = some (.aload_n 0, 0) := by decide +kernel
theorem at_79_39 : am_at (am_m 79) 39 = some (.getfield 21, 1795) := by decide +kernel
theorem at_79_42 : am_at (am_m 79) 42 = some (.iload_n 3, 0) := by decide +kernel
theorem at_79_43 : am_at (am_m 79) 43 = some (.aload_n 0, 0) := by decide +kernel
theorem at_79_44 : am_at (am_m 79) 44 = some (.getfield 21, 1795) := by decide +kernel
theorem at_79_47 : am_at (am_m 79) 47 = some (.iload_n 1, 0) := by decide +kernel
theorem at_79_48 : am_at (am_m 79) 48 = some (.baload, 0) := by decide +kernel
theorem at_79_49 : am_at (am_m 79) 49 = some (.ifCond .ne 15, 64) := by decide +kernel
theorem at_79_52 : am_at (am_m 79) 52 = some (.iload_n 2, 0) := by decide +kernel
theorem at_79_53 : am_at (am_m 79) 53 = some (.bipush 19, 0) := by decide +kernel
theorem at_79_55 : am_at (am_m 79) 55 = some (.if_icmp .ne 13, 68) := by decide +kernel
theorem at_79_58 : am_at (am_m 79) 58 = some (.iload 4, 0) := by decide +kernel
theorem at_79_60 : am_at (am_m 79) 60 = some (.iconst 1, 0) := by decide +kernel
theorem at_79_61 : am_at (am_m 79) 61 = some (.if_icmp .ne 7, 68) := by decide +kernel
theorem at_79_64 : am_at (am_m 79) 64 = some (.iconst 1, 0) := by decide +kernel
theorem at_79_65 : am_at (am_m 79) 65 = some (.goto 4, 69) := by decide +kernel
theorem at_79_68 : am_at (am_m 79) 68 = some (.iconst 0, 0) := by decide +kernel
theorem at_79_69 : am_at (am_m 79) 69 = some (.bastore, 0) := by decide +kernel
theorem at_79_70 : am_at (am_m 79) 70 = some (.aload_n 0, 0) := by decide +kernel
theorem at_79_71 : am_at (am_m 79) 71 = some (.getfield 9, 1792) := by decide +kernel
theorem at_79_74 : am_at (am_m 79) 74 = some (.iload_n 3, 0) := by decide +kernel
theorem at_79_75 : am_at (am_m 79) 75 = some (.iaload, 0) := by decide +kernel
theorem at_79_76 : am_at (am_m 79) 76 = some (.istore_n 3, 0) := by decide +kernel
theorem at_79_77 : am_at (am_m 79) 77 = some (.iinc 4 1, 0) := by decide +kernel
theorem at_79_80 : am_at (am_m 79) 80 = some (.goto (-73), 7) := by decide +kernel
theorem at_79_83 : am_at (am_m 79) 83 = some (.return_, 0) := by decide +kernel
theorem at_80_0 : am_at (am_m 80) 0 = some (.aload_n 2, 0) := by decide +kernel
theorem at_80_1 : am_at (am_m 80) 1 = some (.iconst 0, 0) := by decide +kernel
theorem at_80_2 : am_at (am_m 80) 2 = some (.aload_n 0, 0) := by decide +kernel
theorem at_80_3 : am_at (am_m 80) 3 = some (.iload_n 1, 0) := by decide +kernel
theorem at_80_4 : am_at (am_m 80) 4 = some (.invokevirtual 29, 81) := by decide +kernel
theorem at_80_7 : am_at (am_m 80) 7 = some (.lastore, 0) := by decide +kernel
theorem at_80_8 : am_at (am_m 80) 8 = some (.goto 6, 14) := by decide +kernel
theorem at_80_12 : am_at (am_m 80) 12 = some (.iconst 1, 0) := by decide +kernel
theorem at_80_13 : am_at (am_m 80) 13 = some (.ireturn, 0) := by decide +kernel
theorem at_80_14 : am_at (am_m 80) 14 = some (.iconst 0, 0) := by decide +kernel
theorem at_80_15 : am_at (am_m 80) 15 = some (.ireturn, 0) := by decide +kernel
theorem at_81_0 : am_at (am_m 81) 0 = some (.aload_n 0, 0) := by decide +kernel
theorem at_81_1 : am_at (am_m 81) 1 = some (.iload_n 1, 0) := by decide +kernel
theorem at_81_2 : am_at (am_m 81) 2 = some (.invokevirtual 132, 63) := by decide +kernel
theorem at_81_5 : am_at (am_m 81) 5 = some (.getfield 173, 778) := by decide +kernel
theorem at_81_8 : am_at (am_m 81) 8 = some (.lreturn, 0) := by decide +kernel
theorem at_82_0 : am_at (am_m 82) 0 = some (.aload 4, 0) := by decide +kernel
theorem at_82_2 : am_at (am_m 82) 2 = some (.iconst 0, 0) := by decide +kernel
theorem at_82_3 : am_at (am_m 82) 3 = some (.aload_n 0, 0) := by decide +kernel
theorem at_82_4 : am_at (am_m 82) 4 = some (.iload_n 1, 0) := by decide +kernel
theorem at_82_5 : am_at (am_m 82) 5 = some (.iload_n 2, 0) := by decide +kernel
theorem at_82_6 : am_at (am_m 82) 6 = some (.iload_n 3, 0) := by decide +kernel
theorem at_82_7 : am_at (am_m 82) 7 = some (.invokevirtual 33, 83) := by decide +kernel
theorem at_82_10 : am_at (am_m 82) 10 = some (.i2l, 0) := by decide +kernel
theorem at_82_11 : am_at (am_m 82) 11 = some (.lastore, 0) := by decide +kernel
theorem at_82_12 : am_at (am_m 82) 12 = some (.goto 11, 23) := by decide +kernel
theorem at_82_17 : am_at (am_m 82) 17 = some (.iconst 1, 0) := by decide +kernel
theorem at_82_18 : am_at (am_m 82) 18 = some (.ireturn, 0) := by decide +kernel
theorem at_82_21 : am_at (am_m 82) 21 = some (.iconst 2, 0) := by decide +kernel
theorem at_82_22 : am_at (am_m 82) 22 = some (.ireturn, 0) := by decide +kernel
theorem at_82_23 : am_at (am_m 82) 23 = some (.iconst 0, 0) := by decide +kernel
theorem at_82_24 : am_at (am_m 82) 24 = some (.ireturn, 0) := by decide +kernel
theorem at_83_0 : am_at (am_m 83) 0 = some (.aload_n 0, 0) := by decide +kernel
theorem at_83_1 : am_at (am_m 83) 1 = some (.iload_n 1, 0) := by decide +kernel
theorem at_83_2 : am_at (am_m 83) 2 = some (.invokevirtual 132, 63) := by decide +kernel
theorem at_83_5 : am_at (am_m 83) 5 = some (.astore 4, 0) := by decide +kernel
theorem at_83_7 : am_at (am_m 83) 7 = some (.iload_n 2, 0) := by decide +kernel
theorem at_83_8 : am_at (am_m 83) 8 = some (.ifCond .lt 12, 20) := by decide +kernel
theorem at_83_11 : am_at (am_m 83) 11 = some (.iload_n 2, 0) := by decide +kernel
theorem at_83_12 : am_at (am_m 83) 12 = some (.aload 4, 0) := by decide +kernel
theorem at_83_14 : am_at (am_m 83) 14 = some (.getfield 147, 771) := by decide +kernel
theorem at_83_17 : am_at (am_m 83) 17 = some (.if_icmp .lt 13, 30) := by decide +kernel
theorem at_83_20 : am_at (am_m 83) 20 = some (.new 177, 102) := by decide +kernel
theorem at_83_30 : am_at (am_m 83) 30 = some (.iload_n 3, 0) := by decide +kernel
theorem at_83_31 : am_at (am_m 83) 31 = some (.ifCond .lt 8, 39) := by decide +kernel
theorem at_83_34 : am_at (am_m 83) 34 = some (.iload_n 3, 0) := by decide +kernel
theorem at_83_35 : am_at (am_m 83) 35 = some (.iconst 4, 0) := by decide +kernel
theorem at_83_36 : am_at (am_m 83) 36 = some (.if_icmp .le 13, 49) := by decide +kernel
theorem at_83_39 : am_at (am_m 83) 39 = some (.new 114, 100) := by decide +kernel
theorem at_83_49 : am_at (am_m 83) 49 = some (.aload 4, 0) := by decide +kernel
theorem at_83_51 : am_at (am_m 83) 51 = some (.iload_n 2, 0) := by decide +kernel
theorem at_83_52 : am_at (am_m 83) 52 = some (.iload_n 3, 0) := by decide +kernel
theorem at_83_53 : am_at (am_m 83) 53 = some (.invokevirtual 182, 54) := by decide +kernel
theorem at_83_56 : am_at (am_m 83) 56 = some (.ireturn, 0) := by decide +kernel
theorem at_84_0 : am_at (am_m 84) 0 = some (.aload_n 3, 0) := by decide +kernel
theorem at_84_1 : am_at (am_m 84) 1 = some (.iconst 0, 0) := by decide +kernel
theorem at_84_2 : am_at (am_m 84) 2 = some (.aload_n 0, 0) := by decide +kernel
theorem at_84_3 : am_at (am_m 84) 3 = some (.iload_n 1, 0) := by decide +kernel
theorem at_84_4 : am_at (am_m 84) 4 = some (.iload_n 2, 0) := by decide +kernel
theorem at_84_5 : am_at (am_m 84) 5 = some (.invokevirtual 37, 85) := by decide +kernel
theorem at_84_8 : am_at (am_m 84) 8 = some (.ifCond .eq 7, 15) := by decide +kernel
theorem at_84_11 : am_at (am_m 84) 11 = some (.lconst 1, 0) := by decide +kernel
theorem at_84_12 : am_at (am_m 84) 12 = some (.goto 4, 16) := by decide +kernel
theorem at_84_15 : am_at (am_m 84) 15 = some (.lconst 0, 0) := by decide +kernel
theorem at_84_16 : am_at (am_m 84) 16 = some (.lastore, 0) := by decide +kernel
theorem at_84_17 : am_at (am_m 84) 17 = some (.goto 7, 24) := by decide +kernel
theorem at_84_22 : am_at (am_m 84) 22 = some (.iconst 1, 0) := by decide +kernel
theorem at_84_23 : am_at (am_m 84) 23 = some (.ireturn, 0) := by decide +kernel
theorem at_84_24 : am_at (am_m 84) 24 = some (.iconst 0, 0) := by decide +kernel
theorem at_84_25 : am_at (am_m 84) 25 = some (.ireturn, 0) := by decide +kernel
theorem at_85_0 : am_at (am_m 85) 0 = some (.aload_n 0, 0) := by decide +kernel
theorem at_85_1 : am_at (am_m 85) 1 = some (.iload_n 1, 0) := by decide +kernel
theorem at_85_2 : am_at (am_m 85) 2 = some (.invokevirtual 132, 63) := by decide +kernel
theorem at_85_5 : am_at (am_m 85) 5 = some (.astore_n 3, 0) := by decide +kernel
theorem at_85_6 : am_at (am_m 85) 6 = some (.aload_n 3, 0) := by decide +kernel
theorem at_85_7 : am_at (am_m 85) 7 = some (.aload_n 0, 0) := by decide +kernel
theorem at_85_8 : am_at (am_m 85) 8 = some (.iload_n 2, 0) := by decide +kernel
theorem at_85_9 : am_at (am_m 85) 9 = some (.invokevirtual 132, 63) := by decide +kernel
theorem at_85_12 : am_at (am_m 85) 12 = some (.invokevirtual 186, 86) := by decide +kernel
theorem at_85_15 : am_at (am_m 85) 15 = some (.ireturn, 0) := by decide +kernel
theorem at_86_0 : am_at (am_m 86) 0 = some (.aload_n 0, 0) := by decide +kernel
theorem at_86_1 : am_at (am_m 86) 1 = some (.getfield 9, 769) := by decide +kernel
theorem at_86_4 : am_at (am_m 86) 4 = some (.aload_n 1, 0) := by decide +kernel
theorem at_86_5 : am_at (am_m 86) 5 = some (.getfield 9, 769) := by decide +kernel
theorem at_86_8 : am_at (am_m 86) 8 = some (.if_icmp .ne 25, 33) := by decide +kernel
theorem at_86_11 : am_at (am_m 86) 11 = some (.aload_n 0, 0) := by decide +kernel
theorem at_86_12 : am_at (am_m 86) 12 = some (.getfield 15, 770) := by decide +kernel
theorem at_86_15 : am_at (am_m 86) 15 = some (.aload_n 1, 0) := by decide +kernel
theorem at_86_16 : am_at (am_m 86) 16 = some (.getfield 15, 770) := by decide +kernel
theorem at_86_19 : am_at (am_m 86) 19 = some (.if_icmp .ne 14, 33) := by decide +kernel
theorem at_86_22 : am_at (am_m 86) 22 = some (.aload_n 0, 0) := by decide +kernel
theorem at_86_23 : am_at (am_m 86) 23 = some (.getfield 18, 771) := by decide +kernel
theorem at_86_26 : am_at (am_m 86) 26 = some (.aload_n 1, 0) := by decide +kernel
theorem at_86_27 : am_at (am_m 86) 27 = some (.getfield 18, 771) := by decide +kernel
theorem at_86_30 : am_at (am_m 86) 30 = some (.if_icmp .eq 5, 35) := by decide +kernel
theorem at_86_33 : am_at (am_m 86) 33 = some (.iconst 0, 0) := by decide +kernel
theorem at_86_34 : am_at (am_m 86) 34 = some (.ireturn, 0) := by decide +kernel
theorem at_86_35 : am_at (am_m 86) 35 = some (.iconst 0, 0) := by decide +kernel
theorem at_86_36 : am_at (am_m 86) 36 = some (.istore_n 2, 0) := by decide +kernel
theorem at_86_37 : am_at (am_m 86) 37 = some (.iload_n 2, 0) := by decide +kernel
theorem at_86_38 : am_at (am_m 86) 38 = some (.aload_n 0, 0) := by decide +kernel
theorem at_86_39 : am_at (am_m 86) 39 = some (.getfield 18, 771) := by decide +kernel
theorem at_86_42 : am_at (am_m 86) 42 = some (.aload_n 0, 0) := by decide +kernel
theorem at_86_43 : am_at (am_m 86) 43 = some (.getfield 21, 772) := by decide +kernel
theorem at_86_46 : am_at (am_m 86) 46 = some (.imul, 0) := by decide +kernel
theorem at_86_47 : am_at (am_m 86) 47 = some (.if_icmp .ge 26, 73) := by decide +kernel
theorem at_86_50 : am_at (am_m 86) 50 = some (.aload_n 0, 0) := by decide +kernel
theorem at_86_51 : am_at (am_m 86) 51 = some (.getfield 43, 768) := by decide +kernel
theorem at_86_54 : am_at (am_m 86) 54 = some (.iload_n 2, 0) := by decide +kernel
theorem at_86_55 : am_at (am_m 86) 55 = some (.iaload, 0) := by decide +kernel
theorem at_86_56 : am_at (am_m 86) 56 = some (.aload_n 1, 0) := by decide +kernel
theorem at_86_57 : am_at (am_m 86) 57 = some (.getfield 43, 768) := by decide +kernel
theorem at_86_60 : am_at (am_m 86) 60 = some (.iload_n 2, 0) := by decide +kernel
theorem at_86_61 : am_at (am_m 86) 61 = some (.iaload, 0) := by decide +kernel
theorem at_86_62 : am_at (am_m 86) 62 = some (.if_icmp .eq 5, 67) := by decide +kernel
theorem at_86_65 : am_at (am_m 86) 65 = some (.iconst 0, 0) := by decide +kernel
theorem at_86_66 : am_at (am_m 86) 66 = some (.ireturn, 0) := by decide +kernel
theorem at_86_67 : am_at (am_m 86) 67 = some (.iinc 2 1, 0) := by decide +kernel
theorem at_86_70 : am_at (am_m 86) 70 = some (.goto (-33), 37) := by decide +kernel
theorem at_86_73 : am_at (am_m 86) 73 = some (.iconst 1, 0) := by decide +kernel
theorem at_86_74 : am_at (am_m 86) 74 = some (.ireturn, 0) := by decide +kernel
theorem at_87_0 : am_at (am_m 87) 0 = some (.aload_n 2, 0) := by decide +kernel
theorem at_87_1 : am_at (am_m 87) 1 = some (.iconst 0, 0) := by decide +kernel
theorem at_87_2 : am_at (am_m 87) 2 = some (.aload_n 0, 0) := by decide +kernel
theorem at_87_3 : am_at (am_m 87) 3 = some (.iload_n 1, 0) := by decide +kernel
theorem at_87_4 : am_at (am_m 87) 4 = some (.invokevirtual 41, 88) := by decide +kernel
theorem at_87_7 : am_at (am_m 87) 7 = some (.lastore, 0) := by decide +kernel
theorem at_87_8 : am_at (am_m 87) 8 = some (.goto 6, 14) := by decide +kernel
theorem at_87_12 : am_at (am_m 87) 12 = some (.iconst 1, 0) := by decide +kernel
theorem at_87_13 : am_at (am_m 87) 13 = some (.ireturn, 0) := by decide +kernel
theorem at_87_14 : am_at (am_m 87) 14 = some (.iconst 0, 0) := by decide +kernel
theorem at_87_15 : am_at (am_m 87) 15 = some (.ireturn, 0) := by decide +kernel
theorem at_88_0 : am_at (am_m 88) 0 = some (.iload_n 1, 0) := by decide +kernel
theorem at_88_1 : am_at (am_m 88) 1 = some (.iconst 1, 0) := by decide +kernel
theorem at_88_2 : am_at (am_m 88) 2 = some (.if_icmp .lt 9, 11) := by decide +kernel
theorem at_88_5 : am_at (am_m 88) 5 = some (.iload_n 1, 0) := by decide +kernel
theorem at_88_6 : am_at (am_m 88) 6 = some (.bipush 12, 0) := by decide +kernel
theorem at_88_8 : am_at (am_m 88) 8 = some (.if_icmp .le 13, 21) := by decide +kernel
theorem at_88_11 : am_at (am_m 88) 11 = some (.new 114, 100) := by decide +kernel
theorem at_88_21 : am_at (am_m 88) 21 = some (.aload_n 0, 0) := by decide +kernel
theorem at_88_22 : am_at (am_m 88) 22 = some (.getfield 47, 2822) := by decide +kernel
theorem at_88_25 : am_at (am_m 88) 25 = some (.iconst 0, 0) := by decide +kernel
theorem at_88_26 : am_at (am_m 88) 26 = some (.iload_n 1, 0) := by decide +kernel
theorem at_88_27 : am_at (am_m 88) 27 = some (.invokevirtual 192, 15) := by decide +kernel
theorem at_88_30 : am_at (am_m 88) 30 = some (.lreturn, 0) := by decide +kernel
theorem at_89_0 : am_at (am_m 89) 0 = some (.aload 4, 0) := by decide +kernel
theorem at_89_2 : am_at (am_m 89) 2 = some (.iconst 0, 0) := by decide +kernel
theorem at_89_3 : am_at (am_m 89) 3 = some (.aload_n 0, 0) := by decide +kernel
theorem at_89_4 : am_at (am_m 89) 4 = some (.iload_n 1, 0) := by decide +kernel
theorem at_89_5 : am_at (am_m 89) 5 = some (.lload_n 2, 0) := by decide +kernel
theorem at_89_6 : am_at (am_m 89) 6 = some (.invokevirtual 44, 90) := by decide +kernel
theorem at_89_9 : am_at (am_m 89) 9 = some (.i2l, 0) := by decide +kernel
theorem at_89_10 : am_at (am_m 89) 10 = some (.lastore, 0) := by decide +kernel
theorem at_89_11 : am_at (am_m 89) 11 = some (.goto 11, 22) := by decide +kernel
theorem at_89_16 : am_at (am_m 89) 16 = some (.iconst 1, 0) := by decide +kernel
theorem at_89_17 : am_at (am_m 89) 17 = some (.ireturn, 0) := by decide +kernel
theorem at_89_20 : am_at (am_m 89) 20 = some (.iconst 2, 0) := by decide +kernel
theorem at_89_21 : am_at (am_m 89) 21 = some (.ireturn, 0) := by decide +kernel
theorem at_89_22 : am_at (am_m 89) 22 = some (.iconst 0, 0) := by decide +kernel
theorem at_89_23 : am_at (am_m 89) 23 = some (.ireturn, 0) := by decide +kernel
theorem at_90_0 : am_at (am_m 90) 0 = some (.iload_n 1, 0) := by decide +kernel
theorem at_90_1 : am_at (am_m 90) 1 = some (.iconst 1, 0) := by decide +kernel
theorem at_90_2 : am_at (am_m 90) 2 = some (.if_icmp .lt 29, 31) := by decide +kernel
theorem at_90_5 : am_at (am_m 90) 5 = some (.iload_n 1, 0) := by decide +kernel
theorem at_90_6 : am_at (am_m 90) 6 = some (.bipush 12, 0) := by decide +kernel
theorem at_90_8 : am_at (am_m 90) 8 = some (.if_icmp .gt 23, 31) := by decide +kernel
theorem at_90_11 : am_at (am_m 90) 11 = some (.lload_n 2, 0) := by decide +kernel
theorem at_90_12 : am_at (am_m 90) 12 = some (.lconst 0, 0) := by decide +kernel
theorem at_90_13 : am_at (am_m 90) 13 = some (.lcmp, 0) := by decide +kernel
theorem at_90_14 : am_at (am_m 90) 14 = some (.ifCond .lt 17, 31) := by decide +kernel
theorem at_90_17 : am_at (am_m 90) 17 = some (.lload_n 2, 0) := by decide +kernel
theorem at_90_18 : am_at (am_m 90) 18 = some (.aload_n 0, 0) := by decide +kernel
theorem at_90_19 : am_at (am_m 90) 19 = some (.getfield 47, 2822) := by decide +kernel
theorem at_90_22 : am_at (am_m 90) 22 = some (.iconst 0, 0) := by decide +kernel
theorem at_90_23 : am_at (am_m 90) 23 = some (.iload_n 1, 0) := by decide +kernel
theorem at_90_24 : am_at (am_m 90) 24 = some (.invokevirtual 192, 15) := by decide +kernel
theorem at_90_27 : am_at (am_m 90) 27 = some (.lcmp, 0) := by decide +kernel
theorem at_90_28 : am_at (am_m 90) 28 = some (.ifCond .lt 13, 41) := by decide +kernel
theorem at_90_31 : am_at (am_m 90) 31 = some (.new 114, 100) := by decide +kernel
theorem at_90_41 : am_at (am_m 90) 41 = some (.aload_n 0, 0) := by decide +kernel
theorem at_90_42 : am_at (am_m 90) 42 = some (.iconst 1, 0) := by decide +kernel
theorem at_90_43 : am_at (am_m 90) 43 = some (.invokevirtual 121, 32) := by decide +kernel
theorem at_90_46 : am_at (am_m 90) 46 = some (.aload_n 0, 0) := by decide +kernel
theorem at_90_47 : am_at (am_m 90) 47 = some (.getfield 47, 2822) := by decide +kernel
theorem at_90_50 : am_at (am_m 90) 50 = some (.iconst 0, 0) := by decide +kernel
theorem at_90_51 : am_at (am_m 90) 51 = some (.iload_n 1, 0) := by decide +kernel
theorem at_90_52 : am_at (am_m 90) 52 = some (.lload_n 2, 0) := by decide +kernel
theorem at_90_53 : am_at (am_m 90) 53 = some (.aload_n 0, 0) := by decide +kernel
theorem at_90_54 : am_at (am_m 90) 54 = some (.getfield 90, 2831) := by decide +kernel
theorem at_90_57 : am_at (am_m 90) 57 = some (.invokevirtual 198, 91) := by decide +kernel
theorem at_90_60 : am_at (am_m 90) 60 = some (.aload_n 0, 0) := by decide +kernel
theorem at_90_61 : am_at (am_m 90) 61 = some (.aload_n 0, 0) := by decide +kernel
theorem at_90_62 : am_at (am_m 90) 62 = some (.getfield 90, 2831) := by decide +kernel
theorem at_90_65 : am_at (am_m 90) 65 = some (.iconst 1, 0) := by decide +kernel
theorem at_90_66 : am_at (am_m 90) 66 = some (.iconst (-1), 0) := by decide +kernel
theorem at_90_67 : am_at (am_m 90) 67 = some (.iconst (-1), 0) := by decide +kernel
theorem at_90_68 : am_at (am_m 90) 68 = some (.iconst (-1), 0) := by decide +kernel
theorem at_90_69 : am_at (am_m 90) 69 = some (.iconst (-1), 0) := by decide +kernel
theorem at_90_70 : am_at (am_m 90) 70 = some (.lconst 0, 0) := by decide +kernel
theorem at_90_71 : am_at (am_m 90) 71 = some (.invokevirtual 128, 59) := by decide +kernel
theorem at_90_74 : am_at (am_m 90) 74 = some (.ireturn, 0) := by decide +kernel
theorem at_91_0 : am_at (am_m 91) 0 = some (.aload_n 0, 0) := by decide +kernel
theorem at_91_1 : am_at (am_m 91) 1 = some (.aload 5, 0) := by decide +kernel
theorem at_91_3 : am_at (am_m 91) 3 = some (.putfield 25, 1027) := by decide +kernel
theorem at_91_6 : am_at (am_m 91) 6 = some (.aload_n 0, 0) := by decide +kernel
theorem at_91_7 : am_at (am_m 91) 7 = some (.getfield 25, 1027) := by decide +kernel
theorem at_91_10 : am_at (am_m 91) 10 = some (.iconst 0, 0) := by decide +kernel
theorem at_91_11 : am_at (am_m 91) 11 = some (.iconst 0, 0) := by decide +kernel
theorem at_91_12 : am_at (am_m 91) 12 = some (.invokevirtual 81, 34) := by decide +kernel
theorem at_91_15 : am_at (am_m 91) 15 = some (.aload_n 0, 0) := by decide +kernel
theorem at_91_16 : am_at (am_m 91) 16 = some (.iload_n 1, 0) := by decide +kernel
theorem at_91_17 : am_at (am_m 91) 17 = some (.iload_n 2, 0) := by decide +kernel
theorem at_91_18 : am_at (am_m 91) 18 = some (.lload_n 3, 0) := by decide +kernel
theorem at_91_19 : am_at (am_m 91) 19 = some (.iconst 1, 0) := by decide +kernel
theorem at_91_20 : am_at (am_m 91) 20 = some (.invokevirtual 87, 92) := by decide +kernel
theorem at_91_23 : am_at (am_m 91) 23 = some (.return_, 0) := by decide +kernel
theorem at_92_0 : am_at (am_m 92) 0 = some (.iload 5, 0) := by decide +kernel
theorem at_92_2 : am_at (am_m 92) 2 = some (.bipush 12, 0) := by decide +kernel
theorem at_92_4 : am_at (am_m 92) 4 = some (.if_icmp .le 4, 8) := by decide +kernel
theorem at_92_7 : am_at (am_m 92) 7 = some (.return_, 0) := by decide +kernel
theorem at_92_8 : am_at (am_m 92) 8 = some (.iconst 0, 0) := by decide +kernel
theorem at_92_9 : am_at (am_m 92) 9 = some (.istore 6, 0) := by decide +kernel
theorem at_92_11 : am_at (am_m 92) 11 = some (.lload_n 3, 0) := by decide +kernel
theorem at_92_12 : am_at (am_m 92) 12 = some (.lstore 7, 0) := by decide +kernel
theorem at_92_14 : am_at (am_m 92) 14 = some (.iload 6, 0) := by decide +kernel
theorem at_92_16 : am_at (am_m 92) 16 = some (.bipush 20, 0) := by decide +kernel
theorem at_92_18 : am_at (am_m 92) 18 = some (.if_icmp .ge 36, 54) := by decide +kernel
theorem at_92_21 : am_at (am_m 92) 21 = some (.lload 7, 0) := by decide +kernel
theorem at_92_23 : am_at (am_m 92) 23 = some (.aload_n 0, 0) := by decide +kernel
theorem at_92_24 : am_at (am_m 92) 24 = some (.iload_n 1, 0) := by decide +kernel
theorem at_92_25 : am_at (am_m 92) 25 = some (.iload 6, 0) := by decide +kernel
theorem at_92_27 : am_at (am_m 92) 27 = some (.iload_n 2, 0) := by decide +kernel
theorem at_92_28 : am_at (am_m 92) 28 = some (.invokevirtual 91, 93) := by decide +kernel
theorem at_92_31 : am_at (am_m 92) 31 = some (.lcmp, 0) := by decide +kernel
theorem at_92_32 : am_at (am_m 92) 32 = some (.ifCond .lt 22, 54) := by decide +kernel
theorem at_92_35 : am_at (am_m 92) 35 = some (.lload 7, 0) := by decide +kernel
theorem at_92_37 : am_at (am_m 92) 37 = some (.aload_n 0, 0) := by decide +kernel
theorem at_92_38 : am_at (am_m 92) 38 = some (.iload_n 1, 0) := by decide +kernel
theorem at_92_39 : am_at (am_m 92) 39 = some (.iload 6, 0) := by decide +kernel
theorem at_92_41 : am_at (am_m 92) 41 = some (.iload_n 2, 0) := by decide +kernel
theorem at_92_42 : am_at (am_m 92) 42 = some (.invokevirtual 91, 93) := by decide +kernel
theorem at_92_45 : am_at (am_m 92) 45 = some (.lsub, 0) := by decide +kernel
theorem at_92_46 : am_at (am_m 92) 46 = some (.lstore 7, 0) := by decide +kernel
theorem at_92_48 : am_at (am_m 92) 48 = some (.iinc 6 1, 0) := by decide +kernel
theorem at_92_51 : am_at (am_m 92) 51 = some (.goto (-37), 14) := by decide +kernel
theorem at_92_54 : am_at (am_m 92) 54 = some (.aload_n 0, 0) := by decide +kernel
theorem at_92_55 : am_at (am_m 92) 55 = some (.getfield 25, 1027) := by decide +kernel
theorem at_92_58 : am_at (am_m 92) 58 = some (.iload 6, 0) := by decide +kernel
theorem at_92_60 : am_at (am_m 92) 60 = some (.iload 6, 0) := by decide +kernel
theorem at_92_62 : am_at (am_m 92) 62 = some (.ifCond .ne 9, 71) := by decide +kernel
theorem at_92_65 : am_at (am_m 92) 65 = some (.lload 7, 0) := by decide +kernel
theorem at_92_67 : am_at (am_m 92) 67 = some (.l2i, 0) := by decide +kernel
theorem at_92_68 : am_at (am_m 92) 68 = some (.goto 4, 72) := by decide +kernel
theorem at_92_71 : am_at (am_m 92) 71 = some (.iconst 0, 0) := by decide +kernel
theorem at_92_72 : am_at (am_m 92) 72 = some (.invokevirtual 94, 41) := by decide +kernel
theorem at_92_75 : am_at (am_m 92) 75 = some (.pop, 0) := by decide +kernel
theorem at_92_76 : am_at (am_m 92) 76 = some (.iload_n 1, 0) := by decide +kernel
theorem at_92_77 : am_at (am_m 92) 77 = some (.iload 6, 0) := by decide +kernel
theorem at_92_79 : am_at (am_m 92) 79 = some (.iconst 0, 0) := by decide +kernel
theorem at_92_80 : am_at (am_m 92) 80 = some (.invokestatic 64, 12) := by decide +kernel
theorem at_92_83 : am_at (am_m 92) 83 = some (.istore 9, 0) := by decide +kernel
theorem at_92_85 : am_at (am_m 92) 85 = some (.iload 6, 0) := by decide +kernel
theorem at_92_87 : am_at (am_m 92) 87 = some (.invokestatic 68, 14) := by decide +kernel
theorem at_92_90 : am_at (am_m 92) 90 = some (.iconst 1, 0) := by decide +kernel
theorem at_92_91 : am_at (am_m 92) 91 = some (.if_icmp .ne 21, 112) := by decide +kernel
theorem at_92_94 : am_at (am_m 92) 94 = some (.aload_n 0, 0) := by decide +kernel
theorem at_92_95 : am_at (am_m 92) 95 = some (.iload 9, 0) := by decide +kernel
theorem at_92_97 : am_at (am_m 92) 97 = some (.iload_n 2, 0) := by decide +kernel
theorem at_92_98 : am_at (am_m 92) 98 = some (.iconst 1, 0) := by decide +kernel
theorem at_92_99 : am_at (am_m 92) 99 = some (.isub, 0) := by decide +kernel
theorem at_92_100 : am_at (am_m 92) 100 = some (.lload 7, 0) := by decide +kernel
theorem at_92_102 : am_at (am_m 92) 102 = some (.iload 5, 0) := by decide +kernel
theorem at_92_104 : am_at (am_m 92) 104 = some (.iconst 1, 0) := by decide +kernel
theorem at_92_105 : am_at (am_m 92) 105 = some (.iadd, 0) := by decide +kernel
theorem at_92_106 : am_at (am_m 92) 106 = some (.invokevirtual 87, 92) := by decide +kernel
theorem at_92_109 : am_at (am_m 92) 109 = some (.goto 68, 177) := by decide +kernel
theorem at_92_112 : am_at (am_m 92) 112 = some (.iload 6, 0) := by decide +kernel
theorem at_92_114 : am_at (am_m 92) 114 = some (.invokestatic 68, 14) := by decide +kernel
theorem at_92_117 : am_at (am_m 92) 117 = some (.iconst 2, 0) := by decide +kernel
theorem at_92_118 : am_at (am_m 92) 118 = some (.if_icmp .ne 28, 146) := by decide +kernel
theorem at_92_121 : am_at (am_m 92) 121 = some (.aload_n 0, 0) := by decide +kernel
theorem at_92_122 : am_at (am_m 92) 122 = some (.iload 9, 0) := by decide +kernel
theorem at_92_124 : am_at (am_m 92) 124 = some (.iload_n 1, 0) := by decide +kernel
theorem at_92_125 : am_at (am_m 92) 125 = some (.iload 6, 0) := by decide +kernel
theorem at_92_127 : am_at (am_m 92) 127 = some (.iconst 1, 0) := by decide +kernel
theorem at_92_128 : am_at (am_m 92) 128 = some (.invokestatic 64, 12) := by decide +kernel
theorem at_92_131 : am_at (am_m 92) 131 = some (.iload_n 2, 0) := by decide +kernel
theorem at_92_132 : am_at (am_m 92) 132 = some (.iconst 1, 0) := by decide +kernel
theorem at_92_133 : am_at (am_m 92) 133 = some (.isub, 0) := by decide +kernel
theorem at_92_134 : am_at (am_m 92) 134 = some (.lload 7, 0) := by decide +kernel
theorem at_92_136 : am_at (am_m 92) 136 = some (.iload 5, 0) := by decide +kernel
theorem at_92_138 : am_at (am_m 92) 138 = some (.iconst 1, 0) := by decide +kernel
theorem at_92_139 : am_at (am_m 92) 139 = some (.iadd, 0) := by decide +kernel
theorem at_92_140 : am_at (am_m 92) 140 = some (.invokevirtual 97, 94) := by decide +kernel
theorem at_92_143 : am_at (am_m 92) 143 = some (.goto 34, 177) := by decide +kernel
theorem at_92_146 : am_at (am_m 92) 146 = some (.iload 6, 0) := by decide +kernel
theorem at_92_148 : am_at (am_m 92) 148 = some (.invokestatic 68, 14) := by decide +kernel
theorem at_92_151 : am_at (am_m 92) 151 = some (.iconst 3, 0) := by decide +kernel
theorem at_92_152 : am_at (am_m 92) 152 = some (.if_icmp .ne 25, 177) := by decide +kernel
theorem at_92_155 : am_at (am_m 92) 155 = some (.aload_n 0, 0) := by decide +kernel
theorem at_92_156 : am_at (am_m 92) 156 = some (.iload 9, 0) := by decide +kernel
theorem at_92_158 : am_at (am_m 92) 158 = some (.iload_n 1, 0) := by decide +kernel
theorem at_92_159 : am_at (am_m 92) 159 = some (.iload 6, 0) := by decide +kernel
theorem at_92_161 : am_at (am_m 92) 161 = some (.iconst 1, 0) := by decide +kernel
theorem at_92_162 : am_at (am_m 92) 162 = some (.invokestatic 64, 12) := by decide +kernel
theorem at_92_165 : am_at (am_m 92) 165 = some (.iload_n 2, 0) := by decide +kernel
theorem at_92_166 : am_at (am_m 92) 166 = some (.iconst 1, 0) := by decide +kernel
theorem at_92_167 : am_at (am_m 92) 167 = some (.isub, 0) := by decide +kernel
theorem at_92_168 : am_at (am_m 92) 168 = some (.lload 7, 0) := by decide +kernel
theorem at_92_170 : am_at (am_m 92) 170 = some (.iload 5, 0) := by decide +kernel
theorem at_92_172 : am_at (am_m 92) 172 = some (.iconst 1, 0) := by decide +kernel
theorem at_92_173 : am_at (am_m 92) 173 = some (.iadd, 0) := by decide +kernel
theorem at_92_174 : am_at (am_m 92) 174 = some (.invokevirtual 101, 95) := by decide +kernel
theorem at_92_177 : am_at (am_m 92) 177 = some (.return_, 0) := by decide +kernel
theorem at_93_0 : am_at (am_m 93) 0 = some (.iload_n 3, 0) := by decide +kernel
theorem at_93_1 : am_at (am_m 93) 1 = some (.ifCond .le 28, 29) := by decide +kernel
theorem at_93_4 : am_at (am_m 93) 4 = some (.iload_n 3, 0) := by decide +kernel
theorem at_93_5 : am_at (am_m 93) 5 = some (.bipush 13, 0) := by decide +kernel
theorem at_93_7 : am_at (am_m 93) 7 = some (.if_icmp .ge 22, 29) := by decide +kernel
theorem at_93_10 : am_at (am_m 93) 10 = some (.aload_n 0, 0) := by decide +kernel
theorem at_93_11 : am_at (am_m 93) 11 = some (.getfield 11, 1024) := by decide +kernel
theorem at_93_14 : am_at (am_m 93) 14 = some (.iload_n 1, 0) := by decide +kernel
theorem at_93_15 : am_at (am_m 93) 15 = some (.bipush 21, 0) := by decide +kernel
theorem at_93_17 : am_at (am_m 93) 17 = some (.imul, 0) := by decide +kernel
theorem at_93_18 : am_at (am_m 93) 18 = some (.iload_n 2, 0) := by decide +kernel
theorem at_93_19 : am_at (am_m 93) 19 = some (.iadd, 0) := by decide +kernel
theorem at_93_20 : am_at (am_m 93) 20 = some (.bipush 13, 0) := by decide +kernel
theorem at_93_22 : am_at (am_m 93) 22 = some (.imul, 0) := by decide +kernel
theorem at_93_23 : am_at (am_m 93) 23 = some (.iload_n 3, 0) := by decide +kernel
theorem at_93_24 : am_at (am_m 93) 24 = some (.iadd, 0) := by decide +kernel
theorem at_93_25 : am_at (am_m 93) 25 = some (.laload, 0) := by decide +kernel
theorem at_93_26 : am_at (am_m 93) 26 = some (.goto 4, 30) := by decide +kernel
theorem at_93_29 : am_at (am_m 93) 29 = some (.lconst 0, 0) := by decide +kernel
theorem at_93_30 : am_at (am_m 93) 30 = some (.lreturn, 0) := by decide +kernel
theorem at_94_0 : am_at (am_m 94) 0 = some (.lload 4, 0) := by decide +kernel
theorem at_94_2 : am_at (am_m 94) 2 = some (.lstore 7, 0) := by decide +kernel
theorem at_94_4 : am_at (am_m 94) 4 = some (.iconst 1, 0) := by decide +kernel
theorem at_94_5 : am_at (am_m 94) 5 = some (.istore 9, 0) := by decide +kernel
theorem at_94_7 : am_at (am_m 94) 7 = some (.iload 9, 0) := by decide +kernel
theorem at_94_9 : am_at (am_m 94) 9 = some (.iload_n 3, 0) := by decide +kernel
theorem at_94_10 : am_at (am_m 94) 10 = some (.if_icmp .ge 85, 95) := by decide +kernel
theorem at_94_13 : am_at (am_m 94) 13 = some (.aload_n 0, 0) := by decide +kernel
theorem at_94_14 : am_at (am_m 94) 14 = some (.iload_n 2, 0) := by decide +kernel
theorem at_94_15 : am_at (am_m 94) 15 = some (.iload_n 3, 0) := by decide +kernel
theorem at_94_16 : am_at (am_m 94) 16 = some (.iload 9, 0) := by decide +kernel
theorem at_94_18 : am_at (am_m 94) 18 = some (.isub, 0) := by decide +kernel
theorem at_94_19 : am_at (am_m 94) 19 = some (.invokevirtual 74, 15) := by decide +kernel
theorem at_94_22 : am_at (am_m 94) 22 = some (.lstore 10, 0) := by decide +kernel
theorem at_94_24 : am_at (am_m 94) 24 = some (.aload_n 0, 0) := by decide +kernel
theorem at_94_25 : am_at (am_m 94) 25 = some (.iload_n 1, 0) := by decide +kernel
theorem at_94_26 : am_at (am_m 94) 26 = some (.iload 9, 0) := by decide +kernel
theorem at_94_28 : am_at (am_m 94) 28 = some (.invokevirtual 74, 15) := by decide +kernel
theorem at_94_31 : am_at (am_m 94) 31 = some (.lload 10, 0) := by decide +kernel
theorem at_94_33 : am_at (am_m 94) 33 = some (.lmul, 0) := by decide +kernel
theorem at_94_34 : am_at (am_m 94) 34 = some (.lstore 12, 0) := by decide +kernel
theorem at_94_36 : am_at (am_m 94) 36 = some (.lload 7, 0) := by decide +kernel
theorem at_94_38 : am_at (am_m 94) 38 = some (.lload 12, 0) := by decide +kernel
theorem at_94_40 : am_at (am_m 94) 40 = some (.lcmp, 0) := by decide +kernel
theorem at_94_41 : am_at (am_m 94) 41 = some (.ifCond .ge 41, 82) := by decide +kernel
theorem at_94_44 : am_at (am_m 94) 44 = some (.lload 10, 0) := by decide +kernel
theorem at_94_46 : am_at (am_m 94) 46 = some (.lconst 0, 0) := by decide +kernel
theorem at_94_47 : am_at (am_m 94) 47 = some (.lcmp, 0) := by decide +kernel
theorem at_94_48 : am_at (am_m 94) 48 = some (.ifCond .le 34, 82) := by decide +kernel
theorem at_94_51 : am_at (am_m 94) 51 = some (.aload_n 0, 0) := by decide +kernel
theorem at_94_52 : am_at (am_m 94) 52 = some (.iload_n 1, 0) := by decide +kernel
theorem at_94_53 : am_at (am_m 94) 53 = some (.iload 9, 0) := by decide +kernel
theorem at_94_55 : am_at (am_m 94) 55 = some (.lload 7, 0) := by decide +kernel
theorem at_94_57 : am_at (am_m 94) 57 = some (.lload 10, 0) := by decide +kernel
theorem at_94_59 : am_at (am_m 94) 59 = some (.ldiv, 0) := by decide +kernel
theorem at_94_60 : am_at (am_m 94) 60 = some (.iload 6, 0) := by decide +kernel
theorem at_94_62 : am_at (am_m 94) 62 = some (.invokevirtual 87, 92) := by decide +kernel
theorem at_94_65 : am_at (am_m 94) 65 = some (.aload_n 0, 0) := by decide +kernel
theorem at_94_66 : am_at (am_m 94) 66 = some (.iload_n 2, 0) := by decide +kernel
theorem at_94_67 : am_at (am_m 94) 67 = some (.iload_n 3, 0) := by decide +kernel
theorem at_94_68 : am_at (am_m 94) 68 = some (.iload 9, 0) := by decide +kernel
theorem at_94_70 : am_at (am_m 94) 70 = some (.isub, 0) := by decide +kernel
theorem at_94_71 : am_at (am_m 94) 71 = some (.lload 7, 0) := by decide +kernel
theorem at_94_73 : am_at (am_m 94) 73 = some (.lload 10, 0) := by decide +kernel
theorem at_94_75 : am_at (am_m 94) 75 = some (.lrem, 0) := by decide +kernel
theorem at_94_76 : am_at (am_m 94) 76 = some (.iload 6, 0) := by decide +kernel
theorem at_94_78 : am_at (am_m 94) 78 = some (.invokevirtual 87, 92) := by decide +kernel
theorem at_94_81 : am_at (am_m 94) 81 = some (.return_, 0) := by decide +kernel
theorem at_94_82 : am_at (am_m 94) 82 = some (.lload 7, 0) := by decide +kernel
theorem at_94_84 : am_at (am_m 94) 84 = some (.lload 12, 0) := by decide +kernel
theorem at_94_86 : am_at (am_m 94) 86 = some (.lsub, 0) := by decide +kernel
theorem at_94_87 : am_at (am_m 94) 87 = some (.lstore 7, 0) := by decide +kernel
theorem at_94_89 : am_at (am_m 94) 89 = some (.iinc 9 1, 0) := by decide +kernel
theorem at_94_92 : am_at (am_m 94) 92 = some (.goto (-85), 7) := by decide +kernel
theorem at_94_95 : am_at (am_m 94) 95 = some (.return_, 0) := by decide +kernel
theorem at_95_0 : am_at (am_m 95) 0 = some (.lload 4, 0) := by decide +kernel
theorem at_95_2 : am_at (am_m 95) 2 = some (.lstore 7, 0) := by decide +kernel
theorem at_95_4 : am_at (am_m 95) 4 = some (.iconst 1, 0) := by decide +kernel
theorem at_95_5 : am_at (am_m 95) 5 = some (.istore 9, 0) := by decide +kernel
theorem at_95_7 : am_at (am_m 95) 7 = some (.iload 9, 0) := by decide +kernel
theorem at_95_9 : am_at (am_m 95) 9 = some (.iload_n 3, 0) := by decide +kernel
theorem at_95_10 : am_at (am_m 95) 10 = some (.iconst 1, 0) := by decide +kernel
theorem at_95_11 : am_at (am_m 95) 11 = some (.isub, 0) := by decide +kernel
theorem at_95_12 : am_at (am_m 95) 12 = some (.if_icmp .ge 145, 157) := by decide +kernel
theorem at_95_15 : am_at (am_m 95) 15 = some (.iconst 1, 0) := by decide +kernel
theorem at_95_16 : am_at (am_m 95) 16 = some (.istore 10, 0) := by decide +kernel
theorem at_95_18 : am_at (am_m 95) 18 = some (.iload 10, 0) := by decide +kernel
theorem at_95_20 : am_at (am_m 95) 20 = some (.iload_n 3, 0) := by decide +kernel
theorem at_95_21 : am_at (am_m 95) 21 = some (.iload 9, 0) := by decide +kernel
theorem at_95_23 : am_at (am_m 95) 23 = some (.isub, 0) := by decide +kernel
theorem at_95_24 : am_at (am_m 95) 24 = some (.if_icmp .ge 127, 151) := by decide +kernel
theorem at_95_27 : am_at (am_m 95) 27 = some (.aload_n 0, 0) := by decide +kernel
theorem at_95_28 : am_at (am_m 95) 28 = some (.iload_n 2, 0) := by decide +kernel
theorem at_95_29 : am_at (am_m 95) 29 = some (.iload_n 3, 0) := by decide +kernel
theorem at_95_30 : am_at (am_m 95) 30 = some (.iload 9, 0) := by decide +kernel
theorem at_95_32 : am_at (am_m 95) 32 = some (.isub, 0) := by decide +kernel
theorem at_95_33 : am_at (am_m 95) 33 = some (.iload 10, 0) := by decide +kernel
theorem at_95_35 : am_at (am_m 95) 35 = some (.isub, 0) := by decide +kernel
theorem at_95_36 : am_at (am_m 95) 36 = some (.invokevirtual 74, 15) := by decide +kernel
theorem at_95_39 : am_at (am_m 95) 39 = some (.lstore 11, 0) := by decide +kernel
theorem at_95_41 : am_at (am_m 95) 41 = some (.aload_n 0, 0) := by decide +kernel
theorem at_95_42 : am_at (am_m 95) 42 = some (.iload_n 2, 0) := by decide +kernel
theorem at_95_43 : am_at (am_m 95) 43 = some (.iload 10, 0) := by decide +kernel
theorem at_95_45 : am_at (am_m 95) 45 = some (.invokevirtual 74, 15) := by decide +kernel
theorem at_95_48 : am_at (am_m 95) 48 = some (.lload 11, 0) := by decide +kernel
theorem at_95_50 : am_at (am_m 95) 50 = some (.lmul, 0) := by decide +kernel
theorem at_95_51 : am_at (am_m 95) 51 = some (.lstore 13, 0) := by decide +kernel
theorem at_95_53 : am_at (am_m 95) 53 = some (.aload_n 0, 0) := by decide +kernel
theorem at_95_54 : am_at (am_m 95) 54 = some (.iload_n 1, 0) := by decide +kernel
theorem at_95_55 : am_at (am_m 95) 55 = some (.iload 9, 0) := by decide +kernel
theorem at_95_57 : am_at (am_m 95) 57 = some (.invokevirtual 74, 15) := by decide +kernel
theorem at_95_60 : am_at (am_m 95) 60 = some (.lload 13, 0) := by decide +kernel
theorem at_95_62 : am_at (am_m 95) 62 = some (.lmul, 0) := by decide +kernel
theorem at_95_63 : am_at (am_m 95) 63 = some (.lstore 15, 0) := by decide +kernel
theorem at_95_65 : am_at (am_m 95) 65 = some (.lload 7, 0) := by decide +kernel
theorem at_95_67 : am_at (am_m 95) 67 = some (.lload 15, 0) := by decide +kernel
theorem at_95_69 : am_at (am_m 95) 69 = some (.lcmp, 0) := by decide +kernel
theorem at_95_70 : am_at (am_m 95) 70 = some (.ifCond .ge 68, 138) := by decide +kernel
theorem at_95_73 : am_at (am_m 95) 73 = some (.lload 11, 0) := by decide +kernel
theorem at_95_75 : am_at (am_m 95) 75 = some (.lconst 0, 0) := by decide +kernel
theorem at_95_76 : am_at (am_m 95) 76 = some (.lcmp, 0) := by decide +kernel
theorem at_95_77 : am_at (am_m 95) 77 = some (.ifCond .le 61, 138) := by decide +kernel
theorem at_95_80 : am_at (am_m 95) 80 = some (.lload 13, 0) := by decide +kernel
theorem at_95_82 : am_at (am_m 95) 82 = some (.lconst 0, 0) := by decide +kernel
theorem at_95_83 : am_at (am_m 95) 83 = some (.lcmp, 0) := by decide +kernel
theorem at_95_84 : am_at (am_m 95) 84 = some (.ifCond .le 54, 138) := by decide +kernel
theorem at_95_87 : am_at (am_m 95) 87 = some (.aload_n 0, 0) := by decide +kernel
theorem at_95_88 : am_at (am_m 95) 88 = some (.iload_n 1, 0) := by decide +kernel
theorem at_95_89 : am_at (am_m 95) 89 = some (.iload 9, 0) := by decide +kernel
theorem at_95_91 : am_at (am_m 95) 91 = some (.lload 7, 0) := by decide +kernel
theorem at_95_93 : am_at (am_m 95) 93 = some (.lload 13, 0) := by decide +kernel
theorem at_95_95 : am_at (am_m 95) 95 = some (.ldiv, 0) := by decide +kernel
theorem at_95_96 : am_at (am_m 95) 96 = some (.iload 6, 0) := by decide +kernel
theorem at_95_98 : am_at (am_m 95) 98 = some (.invokevirtual 87, 92) := by decide +kernel
theorem at_95_101 : am_at (am_m 95) 101 = some (.aload_n 0, 0) := by decide +kernel
theorem at_95_102 : am_at (am_m 95) 102 = some (.iload_n 2, 0) := by decide +kernel
theorem at_95_103 : am_at (am_m 95) 103 = some (.iload 10, 0) := by decide +kernel
theorem at_95_105 : am_at (am_m 95) 105 = some (.lload 7, 0) := by decide +kernel
theorem at_95_107 : am_at (am_m 95) 107 = some (.lload 13, 0) := by decide +kernel
theorem at_95_109 : am_at (am_m 95) 109 = some (.lrem, 0) := by decide +kernel
theorem at_95_110 : am_at (am_m 95) 110 = some (.lload 11, 0) := by decide +kernel
theorem at_95_112 : am_at (am_m 95) 112 = some (.ldiv, 0) := by decide +kernel
theorem at_95_113 : am_at (am_m 95) 113 = some (.iload 6, 0) := by decide +kernel
theorem at_95_115 : am_at (am_m 95) 115 = some (.invokevirtual 87, 92) := by decide +kernel
theorem at_95_118 : am_at (am_m 95) 118 = some (.aload_n 0, 0) := by decide +kernel
theorem at_95_119 : am_at (am_m 95) 119 = some (.iload_n 2, 0) := by decide +kernel
theorem at_95_120 : am_at (am_m 95) 120 = some (.iload_n 3, 0) := by decide +kernel
theorem at_95_121 : am_at (am_m 95) 121 = some (.iload 9, 0) := by decide +kernel
theorem at_95_123 : am_at (am_m 95) 123 = some (.isub, 0) := by decide +kernel
theorem at_95_124 : am_at (am_m 95) 124 = some (.iload 10, 0) := by decide +kernel
theorem at_95_126 : am_at (am_m 95) 126 = some (.isub, 0) := by decide +kernel
theorem at_95_127 : am_at (am_m 95) 127 = some (.lload 7, 0) := by decide +kernel
theorem at_95_129 : am_at (am_m 95) 129 = some (.lload 11, 0) := by decide +kernel
theorem at_95_131 : am_at (am_m 95) 131 = some (.lrem, 0) := by decide +kernel
theorem at_95_132 : am_at (am_m 95) 132 = some (.iload 6, 0) := by decide +kernel
theorem at_95_134 : am_at (am_m 95) 134 = some (.invokevirtual 87, 92) := by decide +kernel
theorem at_95_137 : am_at (am_m 95) 137 = some (.return_, 0) := by decide +kernel
theorem at_95_138 : am_at (am_m 95) 138 = some (.lload 7, 0) := by decide +kernel
theorem at_95_140 : am_at (am_m 95) 140 = some (.lload 15, 0) := by decide +kernel
theorem at_95_142 : am_at (am_m 95) 142 = some (.lsub, 0) := by decide +kernel
theorem at_95_143 : am_at (am_m 95) 143 = some (.lstore 7, 0) := by decide +kernel
theorem at_95_145 : am_at (am_m 95) 145 = some (.iinc 10 1, 0) := by decide +kernel
theorem at_95_148 : am_at (am_m 95) 148 = some (.goto (-130), 18) := by decide +kernel
theorem at_95_151 : am_at (am_m 95) 151 = some (.iinc 9 1, 0) := by decide +kernel
theorem at_95_154 : am_at (am_m 95) 154 = some (.goto (-147), 7) := by decide +kernel
theorem at_95_157 : am_at (am_m 95) 157 = some (.return_, 0) := by decide +kernel
theorem at_96_0 : am_at (am_m 96) 0 = some (.aload_n 2, 0) := by decide +kernel
theorem at_96_1 : am_at (am_m 96) 1 = some (.iconst 0, 0) := by decide +kernel
theorem at_96_2 : am_at (am_m 96) 2 = some (.aload_n 0, 0) := by decide +kernel
theorem at_96_3 : am_at (am_m 96) 3 = some (.iload_n 1, 0) := by decide +kernel
theorem at_96_4 : am_at (am_m 96) 4 = some (.invokevirtual 48, 97) := by decide +kernel
theorem at_96_7 : am_at (am_m 96) 7 = some (.lastore, 0) := by decide +kernel
theorem at_96_8 : am_at (am_m 96) 8 = some (.goto 9, 17) := by decide +kernel
theorem at_96_12 : am_at (am_m 96) 12 = some (.iconst 1, 0) := by decide +kernel
theorem at_96_13 : am_at (am_m 96) 13 = some (.ireturn, 0) := by decide +kernel
theorem at_96_15 : am_at (am_m 96) 15 = some (.iconst 2, 0) := by decide +kernel
theorem at_96_16 : am_at (am_m 96) 16 = some (.ireturn, 0) := by decide +kernel
theorem at_96_17 : am_at (am_m 96) 17 = some (.iconst 0, 0) := by decide +kernel
theorem at_96_18 : am_at (am_m 96) 18 = some (.ireturn, 0) := by decide +kernel
theorem at_97_0 : am_at (am_m 97) 0 = some (.aload_n 0, 0) := by decide +kernel
theorem at_97_1 : am_at (am_m 97) 1 = some (.iload_n 1, 0) := by decide +kernel
theorem at_97_2 : am_at (am_m 97) 2 = some (.invokevirtual 132, 63) := by decide +kernel
theorem at_97_5 : am_at (am_m 97) 5 = some (.astore_n 2, 0) := by decide +kernel
theorem at_97_6 : am_at (am_m 97) 6 = some (.aload_n 2, 0) := by decide +kernel
theorem at_97_7 : am_at (am_m 97) 7 = some (.getfield 144, 769) := by decide +kernel
theorem at_97_10 : am_at (am_m 97) 10 = some (.ifCond .ne 12, 22) := by decide +kernel
theorem at_97_13 : am_at (am_m 97) 13 = some (.aload_n 2, 0) := by decide +kernel
theorem at_97_14 : am_at (am_m 97) 14 = some (.getfield 147, 771) := by decide +kernel
theorem at_97_17 : am_at (am_m 97) 17 = some (.bipush 12, 0) := by decide +kernel
theorem at_97_19 : am_at (am_m 97) 19 = some (.if_icmp .le 13, 32) := by decide +kernel
theorem at_97_22 : am_at (am_m 97) 22 = some (.new 114, 100) := by decide +kernel
theorem at_97_32 : am_at (am_m 97) 32 = some (.aload_n 0, 0) := by decide +kernel
theorem at_97_33 : am_at (am_m 97) 33 = some (.getfield 47, 2822) := by decide +kernel
theorem at_97_36 : am_at (am_m 97) 36 = some (.aload_n 2, 0) := by decide +kernel
theorem at_97_37 : am_at (am_m 97) 37 = some (.invokevirtual 204, 98) := by decide +kernel
theorem at_97_40 : am_at (am_m 97) 40 = some (.lreturn, 0) := by decide +kernel
theorem at_98_0 : am_at (am_m 98) 0 = some (.iconst 0, 0) := by decide +kernel
theorem at_98_1 : am_at (am_m 98) 1 = some (.istore_n 2, 0) := by decide +kernel
theorem at_98_2 : am_at (am_m 98) 2 = some (.iload_n 2, 0) := by decide +kernel
theorem at_98_3 : am_at (am_m 98) 3 = some (.aload_n 1, 0) := by decide +kernel
theorem at_98_4 : am_at (am_m 98) 4 = some (.getfield 104, 771) := by decide +kernel
theorem at_98_7 : am_at (am_m 98) 7 = some (.if_icmp .ge 42, 49) := by decide +kernel
theorem at_98_10 : am_at (am_m 98) 10 = some (.aload_n 1, 0) := by decide +kernel
theorem at_98_11 : am_at (am_m 98) 11 = some (.iload_n 2, 0) := by decide +kernel
theorem at_98_12 : am_at (am_m 98) 12 = some (.iconst 0, 0) := by decide +kernel
theorem at_98_13 : am_at (am_m 98) 13 = some (.invokevirtual 107, 54) := by decide +kernel
theorem at_98_16 : am_at (am_m 98) 16 = some (.ifCond .ne 27, 43) := by decide +kernel
theorem at_98_19 : am_at (am_m 98) 19 = some (.aload_n 1, 0) := by decide +kernel
theorem at_98_20 : am_at (am_m 98) 20 = some (.iload_n 2, 0) := by decide +kernel
theorem at_98_21 : am_at (am_m 98) 21 = some (.iconst 1, 0) := by decide +kernel
theorem at_98_22 : am_at (am_m 98) 22 = some (.invokevirtual 107, 54) := by decide +kernel
theorem at_98_25 : am_at (am_m 98) 25 = some (.ifCond .lt 14, 39) := by decide +kernel
theorem at_98_28 : am_at (am_m 98) 28 = some (.aload_n 1, 0) := by decide +kernel
theorem at_98_29 : am_at (am_m 98) 29 = some (.iload_n 2, 0) := by decide +kernel
theorem at_98_30 : am_at (am_m 98) 30 = some (.iconst 1, 0) := by decide +kernel
theorem at_98_31 : am_at (am_m 98) 31 = some (.invokevirtual 107, 54) := by decide +kernel
theorem at_98_34 : am_at (am_m 98) 34 = some (.bipush 9, 0) := by decide +kernel
theorem at_98_36 : am_at (am_m 98) 36 = some (.if_icmp .le 7, 43) := by decide +kernel
theorem at_98_39 : am_at (am_m 98) 39 = some (.ldc2_w 111, 14) := by decide +kernel
theorem at_98_42 : am_at (am_m 98) 42 = some (.lreturn, 0) := by decide +kernel
theorem at_98_43 : am_at (am_m 98) 43 = some (.iinc 2 1, 0) := by decide +kernel
theorem at_98_46 : am_at (am_m 98) 46 = some (.goto (-44), 2) := by decide +kernel
theorem at_98_49 : am_at (am_m 98) 49 = some (.aload_n 0, 0) := by decide +kernel
theorem at_98_50 : am_at (am_m 98) 50 = some (.aload_n 1, 0) := by decide +kernel
theorem at_98_51 : am_at (am_m 98) 51 = some (.putfield 25, 1027) := by decide +kernel
theorem at_98_54 : am_at (am_m 98) 54 = some (.aload_n 0, 0) := by decide +kernel
theorem at_98_55 : am_at (am_m 98) 55 = some (.getfield 21, 1026) := by decide +kernel
theorem at_98_58 : am_at (am_m 98) 58 = some (.aload_n 1, 0) := by decide +kernel
theorem at_98_59 : am_at (am_m 98) 59 = some (.invokevirtual 113, 77) := by decide +kernel
theorem at_98_62 : am_at (am_m 98) 62 = some (.aload_n 0, 0) := by decide +kernel
theorem at_98_63 : am_at (am_m 98) 63 = some (.iconst 0, 0) := by decide +kernel
theorem at_98_64 : am_at (am_m 98) 64 = some (.iconst 0, 0) := by decide +kernel
theorem at_98_65 : am_at (am_m 98) 65 = some (.iconst 1, 0) := by decide +kernel
theorem at_98_66 : am_at (am_m 98) 66 = some (.invokevirtual 117, 99) := by decide +kernel
theorem at_98_69 : am_at (am_m 98) 69 = some (.lreturn, 0) := by decide +kernel
theorem at_99_0 : am_at (am_m 99) 0 = some (.iload_n 3, 0) := by decide +kernel
theorem at_99_1 : am_at (am_m 99) 1 = some (.bipush 12, 0) := by decide +kernel
theorem at_99_3 : am_at (am_m 99) 3 = some (.if_icmp .le 5, 8) := by decide +kernel
theorem at_99_6 : am_at (am_m 99) 6 = some (.lconst 0, 0) := by decide +kernel
theorem at_99_7 : am_at (am_m 99) 7 = some (.lreturn, 0) := by decide +kernel
theorem at_99_8 : am_at (am_m 99) 8 = some (.aload_n 0, 0) := by decide +kernel
theorem at_99_9 : am_at (am_m 99) 9 = some (.getfield 25, 1027) := by decide +kernel
theorem at_99_12 : am_at (am_m 99) 12 = some (.iload_n 2, 0) := by decide +kernel
theorem at_99_13 : am_at (am_m 99) 13 = some (.iconst 0, 0) := by decide +kernel
theorem at_99_14 : am_at (am_m 99) 14 = some (.invokevirtual 107, 54) := by decide +kernel
theorem at_99_17 : am_at (am_m 99) 17 = some (.istore 4, 0) := by decide +kernel
theorem at_99_19 : am_at (am_m 99) 19 = some (.aload_n 0, 0) := by decide +kernel
theorem at_99_20 : am_at (am_m 99) 20 = some (.getfield 21, 1026) := by decide +kernel
theorem at_99_23 : am_at (am_m 99) 23 = some (.iload_n 2, 0) := by decide +kernel
theorem at_99_24 : am_at (am_m 99) 24 = some (.invokevirtual 120, 100) := by decide +kernel
theorem at_99_27 : am_at (am_m 99) 27 = some (.iload_n 2, 0) := by decide +kernel
theorem at_99_28 : am_at (am_m 99) 28 = some (.isub, 0) := by decide +kernel
theorem at_99_29 : am_at (am_m 99) 29 = some (.istore 5, 0) := by decide +kernel
theorem at_99_31 : am_at (am_m 99) 31 = some (.iload_n 1, 0) := by decide +kernel
theorem at_99_32 : am_at (am_m 99) 32 = some (.iload 4, 0) := by decide +kernel
theorem at_99_34 : am_at (am_m 99) 34 = some (.iconst 0, 0) := by decide +kernel
theorem at_99_35 : am_at (am_m 99) 35 = some (.invokestatic 64, 12) := by decide +kernel
theorem at_99_38 : am_at (am_m 99) 38 = some (.istore 6, 0) := by decide +kernel
theorem at_99_40 : am_at (am_m 99) 40 = some (.iload_n 1, 0) := by decide +kernel
theorem at_99_41 : am_at (am_m 99) 41 = some (.iload 4, 0) := by decide +kernel
theorem at_99_43 : am_at (am_m 99) 43 = some (.iconst 1, 0) := by decide +kernel
theorem at_99_44 : am_at (am_m 99) 44 = some (.invokestatic 64, 12) := by decide +kernel
theorem at_99_47 : am_at (am_m 99) 47 = some (.istore 7, 0) := by decide +kernel
theorem at_99_49 : am_at (am_m 99) 49 = some (.lconst 0, 0) := by decide +kernel
theorem at_99_50 : am_at (am_m 99) 50 = some (.lstore 8, 0) := by decide +kernel
theorem at_99_52 : am_at (am_m 99) 52 = some (.iconst 0, 0) := by decide +kernel
theorem at_99_53 : am_at (am_m 99) 53 = some (.istore 10, 0) := by decide +kernel
theorem at_99_55 : am_at (am_m 99) 55 = some (.iload 10, 0) := by decide +kernel
theorem at_99_57 : am_at (am_m 99) 57 = some (.iload 4, 0) := by decide +kernel
theorem at_99_59 : am_at (am_m 99) 59 = some (.if_icmp .ge 23, 82) := by decide +kernel
theorem at_99_62 : am_at (am_m 99) 62 = some (.lload 8, 0) := by decide +kernel
theorem at_99_64 : am_at (am_m 99) 64 = some (.aload_n 0, 0) := by decide +kernel
theorem at_99_65 : am_at (am_m 99) 65 = some (.iload_n 1, 0) := by decide +kernel
theorem at_99_66 : am_at (am_m 99) 66 = some (.iload 10, 0) := by decide +kernel
theorem at_99_68 : am_at (am_m 99) 68 = some (.iload 5, 0) := by decide +kernel
theorem at_99_70 : am_at (am_m 99) 70 = some (.invokevirtual 91, 93) := by decide +kernel
theorem at_99_73 : am_at (am_m 99) 73 = some (.ladd, 0) := by decide +kernel
theorem at_99_74 : am_at (am_m 99) 74 = some (.lstore 8, 0) := by decide +kernel
theorem at_99_76 : am_at (am_m 99) 76 = some (.iinc 10 1, 0) := by decide +kernel
theorem at_99_79 : am_at (am_m 99) 79 = some (.goto (-24), 55) := by decide +kernel
theorem at_99_82 : am_at (am_m 99) 82 = some (.iload 4, 0) := by decide +kernel
theorem at_99_84 : am_at (am_m 99) 84 = some (.invokestatic 68, 14) := by decide +kernel
theorem at_99_87 : am_at (am_m 99) 87 = some (.ifCond .ne 17, 104) := by decide +kernel
theorem at_99_90 : am_at (am_m 99) 90 = some (.lload 8, 0) := by decide +kernel
theorem at_99_92 : am_at (am_m 99) 92 = some (.aload_n 0, 0) := by decide +kernel
theorem at_99_93 : am_at (am_m 99) 93 = some (.getfield 25, 1027) := by decide +kernel
theorem at_99_96 : am_at (am_m 99) 96 = some (.iload_n 2, 0) := by decide +kernel
theorem at_99_97 : am_at (am_m 99) 97 = some (.iconst 1, 0) := by decide +kernel
theorem at_99_98 : am_at (am_m 99) 98 = some (.invokevirtual 107, 54) := by decide +kernel
theorem at_99_101 : am_at (am_m 99) 101 = some (.i2l, 0) := by decide +kernel
theorem at_99_102 : am_at (am_m 99) 102 = some (.ladd, 0) := by decide +kernel
theorem at_99_103 : am_at (am_m 99) 103 = some (.lreturn, 0) := by decide +kernel
theorem at_99_104 : am_at (am_m 99) 104 = some (.aload_n 0, 0) := by decide +kernel
theorem at_99_105 : am_at (am_m 99) 105 = some (.getfield 21, 1026) := by decide +kernel
theorem at_99_108 : am_at (am_m 99) 108 = some (.iload_n 2, 0) := by decide +kernel
theorem at_99_109 : am_at (am_m 99) 109 = some (.iconst 1, 0) := by decide +kernel
theorem at_99_110 : am_at (am_m 99) 110 = some (.iadd, 0) := by decide +kernel
theorem at_99_111 : am_at (am_m 99) 111 = some (.invokevirtual 120, 100) := by decide +kernel
theorem at_99_114 : am_at (am_m 99) 114 = some (.istore 10, 0) := by decide +kernel
theorem at_99_116 : am_at (am_m 99) 116 = some (.iload 10, 0) := by decide +kernel
theorem at_99_118 : am_at (am_m 99) 118 = some (.iload_n 2, 0) := by decide +kernel
theorem at_99_119 : am_at (am_m 99) 119 = some (.isub, 0) := by decide +kernel
theorem at_99_120 : am_at (am_m 99) 120 = some (.iconst 1, 0) := by decide +kernel
theorem at_99_121 : am_at (am_m 99) 121 = some (.isub, 0) := by decide +kernel
theorem at_99_122 : am_at (am_m 99) 122 = some (.istore 11, 0) := by decide +kernel
theorem at_99_124 : am_at (am_m 99) 124 = some (.aload_n 0, 0) := by decide +kernel
theorem at_99_125 : am_at (am_m 99) 125 = some (.iload 6, 0) := by decide +kernel
theorem at_99_127 : am_at (am_m 99) 127 = some (.iload_n 2, 0) := by decide +kernel
theorem at_99_128 : am_at (am_m 99) 128 = some (.iconst 1, 0) := by decide +kernel
theorem at_99_129 : am_at (am_m 99) 129 = some (.iadd, 0) := by decide +kernel
theorem at_99_130 : am_at (am_m 99) 130 = some (.iload_n 3, 0) := by decide +kernel
theorem at_99_131 : am_at (am_m 99) 131 = some (.iconst 1, 0) := by decide +kernel
theorem at_99_132 : am_at (am_m 99) 132 = some (.iadd, 0) := by decide +kernel
theorem at_99_133 : am_at (am_m 99) 133 = some (.invokevirtual 117, 99) := by decide +kernel
theorem at_99_136 : am_at (am_m 99) 136 = some (.lstore 12, 0) := by decide +kernel
theorem at_99_138 : am_at (am_m 99) 138 = some (.iload 4, 0) := by decide +kernel
theorem at_99_140 : am_at (am_m 99) 140 = some (.invokestatic 68, 14) := by decide +kernel
theorem at_99_143 : am_at (am_m 99) 143 = some (.iconst 1, 0) := by decide +kernel
theorem at_99_144 : am_at (am_m 99) 144 = some (.if_icmp .ne 9, 153) := by decide +kernel
theorem at_99_147 : am_at (am_m 99) 147 = some (.lload 8, 0) := by decide +kernel
theorem at_99_149 : am_at (am_m 99) 149 = some (.lload 12, 0) := by decide +kernel
theorem at_99_151 : am_at (am_m 99) 151 = some (.ladd, 0) := by decide +kernel
theorem at_99_152 : am_at (am_m 99) 152 = some (.lreturn, 0) := by decide +kernel
theorem at_99_153 : am_at (am_m 99) 153 = some (.aload_n 0, 0) := by decide +kernel
theorem at_99_154 : am_at (am_m 99) 154 = some (.getfield 21, 1026) := by decide +kernel
theorem at_99_157 : am_at (am_m 99) 157 = some (.iload 10, 0) := by decide +kernel
theorem at_99_159 : am_at (am_m 99) 159 = some (.invokevirtual 120, 100) := by decide +kernel
theorem at_99_162 : am_at (am_m 99) 162 = some (.iload 10, 0) := by decide +kernel
theorem at_99_164 : am_at (am_m 99) 164 = some (.isub, 0) := by decide +kernel
theorem at_99_165 : am_at (am_m 99) 165 = some (.istore 14, 0) := by decide +kernel
theorem at_99_167 : am_at (am_m 99) 167 = some (.aload_n 0, 0) := by decide +kernel
theorem at_99_168 : am_at (am_m 99) 168 = some (.iload 7, 0) := by decide +kernel
theorem at_99_170 : am_at (am_m 99) 170 = some (.iload 10, 0) := by decide +kernel
theorem at_99_172 : am_at (am_m 99) 172 = some (.iload_n 3, 0) := by decide +kernel
theorem at_99_173 : am_at (am_m 99) 173 = some (.iconst 1, 0) := by decide +kernel
theorem at_99_174 : am_at (am_m 99) 174 = some (.iadd, 0) := by decide +kernel
theorem at_99_175 : am_at (am_m 99) 175 = some (.invokevirtual 117, 99) := by decide +kernel
theorem at_99_178 : am_at (am_m 99) 178 = some (.lstore 15, 0) := by decide +kernel
theorem at_99_180 : am_at (am_m 99) 180 = some (.iload 4, 0) := by decide +kernel
theorem at_99_182 : am_at (am_m 99) 182 = some (.invokestatic 68, 14) := by decide +kernel
theorem at_99_185 : am_at (am_m 99) 185 = some (.iconst 2, 0) := by decide +kernel
theorem at_99_186 : am_at (am_m 99) 186 = some (.if_icmp .ne 36, 222) := by decide +kernel
theorem at_99_189 : am_at (am_m 99) 189 = some (.lload 8, 0) := by decide +kernel
theorem at_99_191 : am_at (am_m 99) 191 = some (.aload_n 0, 0) := by decide +kernel
theorem at_99_192 : am_at (am_m 99) 192 = some (.iload 6, 0) := by decide +kernel
theorem at_99_194 : am_at (am_m 99) 194 = some (.iload 7, 0) := by decide +kernel
theorem at_99_196 : am_at (am_m 99) 196 = some (.iload 5, 0) := by decide +kernel
theorem at_99_198 : am_at (am_m 99) 198 = some (.iconst 1, 0) := by decide +kernel
theorem at_99_199 : am_at (am_m 99) 199 = some (.isub, 0) := by decide +kernel
theorem at_99_200 : am_at (am_m 99) 200 = some (.iload 11, 0) := by decide +kernel
theorem at_99_202 : am_at (am_m 99) 202 = some (.invokevirtual 123, 101) := by decide +kernel
theorem at_99_205 : am_at (am_m 99) 205 = some (.ladd, 0) := by decide +kernel
theorem at_99_206 : am_at (am_m 99) 206 = some (.lload 12, 0) := by decide +kernel
theorem at_99_208 : am_at (am_m 99) 208 = some (.aload_n 0, 0) := by decide +kernel
theorem at_99_209 : am_at (am_m 99) 209 = some (.iload 7, 0) := by decide +kernel
theorem at_99_211 : am_at (am_m 99) 211 = some (.iload 14, 0) := by decide +kernel
theorem at_99_213 : am_at (am_m 99) 213 = some (.invokevirtual 74, 15) := by decide +kernel
theorem at_99_216 : am_at (am_m 99) 216 = some (.lmul, 0) := by decide +kernel
theorem at_99_217 : am_at (am_m 99) 217 = some (.ladd, 0) := by decide +kernel
theorem at_99_218 : am_at (am_m 99) 218 = some (.lload 15, 0) := by decide +kernel
theorem at_99_220 : am_at (am_m 99) 220 = some (.ladd, 0) := by decide +kernel
theorem at_99_221 : am_at (am_m 99) 221 = some (.lreturn, 0) := by decide +kernel
theorem at_99_222 : am_at (am_m 99) 222 = some (.iload 5, 0) := by decide +kernel
theorem at_99_224 : am_at (am_m 99) 224 = some (.iconst 1, 0) := by decide +kernel
theorem at_99_225 : am_at (am_m 99) 225 = some (.isub, 0) := by decide +kernel
theorem at_99_226 : am_at (am_m 99) 226 = some (.iload 11, 0) := by decide +kernel
theorem at_99_228 : am_at (am_m 99) 228 = some (.isub, 0) := by decide +kernel
theorem at_99_229 : am_at (am_m 99) 229 = some (.iload 14, 0) := by decide +kernel
theorem at_99_231 : am_at (am_m 99) 231 = some (.isub, 0) := by decide +kernel
theorem at_99_232 : am_at (am_m 99) 232 = some (.istore 17, 0) := by decide +kernel
theorem at_99_234 : am_at (am_m 99) 234 = some (.aload_n 0, 0) := by decide +kernel
theorem at_99_235 : am_at (am_m 99) 235 = some (.iload 7, 0) := by decide +kernel
theorem at_99_237 : am_at (am_m 99) 237 = some (.iload 10, 0) := by decide +kernel
theorem at_99_239 : am_at (am_m 99) 239 = some (.iload 14, 0) := by decide +kernel
theorem at_99_241 : am_at (am_m 99) 241 = some (.iadd, 0) := by decide +kernel
theorem at_99_242 : am_at (am_m 99) 242 = some (.iload_n 3, 0) := by decide +kernel
theorem at_99_243 : am_at (am_m 99) 243 = some (.iconst 1, 0) := by decide +kernel
theorem at_99_244 : am_at (am_m 99) 244 = some (.iadd, 0) := by decide +kernel
theorem at_99_245 : am_at (am_m 99) 245 = some (.invokevirtual 117, 99) := by decide +kernel
theorem at_99_248 : am_at (am_m 99) 248 = some (.lstore 18, 0) := by decide +kernel
theorem at_99_250 : am_at (am_m 99) 250 = some (.lload 8, 0) := by decide +kernel
theorem at_99_252 : am_at (am_m 99) 252 = some (.aload_n 0, 0) := by decide +kernel
theorem at_99_253 : am_at (am_m 99) 253 = some (.iload 6, 0) := by decide +kernel
theorem at_99_255 : am_at (am_m 99) 255 = some (.iload 7, 0) := by decide +kernel
theorem at_99_257 : am_at (am_m 99) 257 = some (.iload 5, 0) := by decide +kernel
theorem at_99_259 : am_at (am_m 99) 259 = some (.iconst 1, 0) := by decide +kernel
theorem at_99_260 : am_at (am_m 99) 260 = some (.isub, 0) := by decide +kernel
theorem at_99_261 : am_at (am_m 99) 261 = some (.iload 11, 0) := by decide +kernel
theorem at_99_263 : am_at (am_m 99) 263 = some (.iload 14, 0) := by decide +kernel
theorem at_99_265 : am_at (am_m 99) 265 = some (.invokevirtual 127, 102) := by decide +kernel
theorem at_99_268 : am_at (am_m 99) 268 = some (.ladd, 0) := by decide +kernel
theorem at_99_269 : am_at (am_m 99) 269 = some (.lload 12, 0) := by decide +kernel
theorem at_99_271 : am_at (am_m 99) 271 = some (.aload_n 0, 0) := by decide +kernel
theorem at_99_272 : am_at (am_m 99) 272 = some (.iload 7, 0) := by decide +kernel
theorem at_99_274 : am_at (am_m 99) 274 = some (.iload 14, 0) := by decide +kernel
theorem at_99_276 : am_at (am_m 99) 276 = some (.invokevirtual 74, 15) := by decide +kernel
theorem at_99_279 : am_at (am_m 99) 279 = some (.lmul, 0) := by decide +kernel
theorem at_99_280 : am_at (am_m 99) 280 = some (.lload 15, 0) := by decide +kernel
theorem at_99_282 : am_at (am_m 99) 282 = some (.ladd, 0) := by decide +kernel
theorem at_99_283 : am_at (am_m 99) 283 = some (.aload_n 0, 0) := by decide +kernel
theorem at_99_284 : am_at (am_m 99) 284 = some (.iload 7, 0) := by decide +kernel
theorem at_99_286 : am_at (am_m 99) 286 = some (.iload 17, 0) := by decide +kernel
theorem at_99_288 : am_at (am_m 99) 288 = some (.invokevirtual 74, 15) := by decide +kernel
theorem at_99_291 : am_at (am_m 99) 291 = some (.lmul, 0) := by decide +kernel
theorem at_99_292 : am_at (am_m 99) 292 = some (.ladd, 0) := by decide +kernel
theorem at_99_293 : am_at (am_m 99) 293 = some (.lload 18, 0) := by decide +kernel
theorem at_99_295 : am_at (am_m 99) 295 = some (.ladd, 0) := by decide +kernel
theorem at_99_296 : am_at (am_m 99) 296 = some (.lreturn, 0) := by decide +kernel
theorem at_100_0 : am_at (am_m 100) 0 = some (.iload_n 1, 0) := by decide +kernel
theorem at_100_1 : am_at (am_m 100) 1 = some (.ifCond .lt 20, 21) := by decide +kernel
theorem at_100_4 : am_at (am_m 100) 4 = some (.iload_n 1, 0) := by decide +kernel
theorem at_100_5 : am_at (am_m 100) 5 = some (.aload_n 0, 0) := by decide +kernel
theorem at_100_6 : am_at (am_m 100) 6 = some (.getfield 34, 1799) := by decide +kernel
theorem at_100_9 : am_at (am_m 100) 9 = some (.if_icmp .ge 12, 21) := by decide +kernel
theorem at_100_12 : am_at (am_m 100) 12 = some (.aload_n 0, 0) := by decide +kernel
theorem at_100_13 : am_at (am_m 100) 13 = some (.getfield 9, 1792) := by decide +kernel
theorem at_100_16 : am_at (am_m 100) 16 = some (.iload_n 1, 0) := by decide +kernel
theorem at_100_17 : am_at (am_m 100) 17 = some (.iaload, 0) := by decide +kernel
theorem at_100_18 : am_at (am_m 100) 18 = some (.goto 7, 25) := by decide +kernel
theorem at_100_21 : am_at (am_m 100) 21 = some (.aload_n 0, 0) := by decide +kernel
theorem at_100_22 : am_at (am_m 100) 22 = some (.getfield 34, 1799) := by decide +kernel
theorem at_100_25 : am_at (am_m 100) 25 = some (.ireturn, 0) := by decide +kernel
theorem at_101_0 : am_at (am_m 101) 0 = some (.lconst 0, 0) := by decide +kernel
theorem at_101_1 : am_at (am_m 101) 1 = some (.lstore 5, 0) := by decide +kernel
theorem at_101_3 : am_at (am_m 101) 3 = some (.iconst 1, 0) := by decide +kernel
theorem at_101_4 : am_at (am_m 101) 4 = some (.istore 7, 0) := by decide +kernel
theorem at_101_6 : am_at (am_m 101) 6 = some (.iload 7, 0) := by decide +kernel
theorem at_101_8 : am_at (am_m 101) 8 = some (.iload 4, 0) := by decide +kernel
theorem at_101_10 : am_at (am_m 101) 10 = some (.if_icmp .ge 31, 41) := by decide +kernel
theorem at_101_13 : am_at (am_m 101) 13 = some (.lload 5, 0) := by decide +kernel
theorem at_101_15 : am_at (am_m 101) 15 = some (.aload_n 0, 0) := by decide +kernel
theorem at_101_16 : am_at (am_m 101) 16 = some (.iload_n 1, 0) := by decide +kernel
theorem at_101_17 : am_at (am_m 101) 17 = some (.iload 7, 0) := by decide +kernel
theorem at_101_19 : am_at (am_m 101) 19 = some (.invokevirtual 74, 15) := by decide +kernel
theorem at_101_22 : am_at (am_m 101) 22 = some (.aload_n 0, 0) := by decide +kernel
theorem at_101_23 : am_at (am_m 101) 23 = some (.iload_n 2, 0) := by decide +kernel
theorem at_101_24 : am_at (am_m 101) 24 = some (.iload_n 3, 0) := by decide +kernel
theorem at_101_25 : am_at (am_m 101) 25 = some (.iload 7, 0) := by decide +kernel
theorem at_101_27 : am_at (am_m 101) 27 = some (.isub, 0) := by decide +kernel
theorem at_101_28 : am_at (am_m 101) 28 = some (.invokevirtual 74, 15) := by decide +kernel
theorem at_101_31 : am_at (am_m 101) 31 = some (.lmul, 0) := by decide +kernel
theorem at_101_32 : am_at (am_m 101) 32 = some (.ladd, 0) := by decide +kernel
theorem at_101_33 : am_at (am_m 101) 33 = some (.lstore 5, 0) := by decide +kernel
theorem at_101_35 : am_at (am_m 101) 35 = some (.iinc 7 1, 0) := by decide +kernel
theorem at_101_38 : am_at (am_m 101) 38 = some (.goto (-32), 6) := by decide +kernel
theorem at_101_41 : am_at (am_m 101) 41 = some (.lload 5, 0) := by decide +kernel
theorem at_101_43 : am_at (am_m 101) 43 = some (.lreturn, 0) := by decide +kernel
theorem at_102_0 : am_at (am_m 102) 0 = some (.lconst 0, 0) := by decide +kernel
theorem at_102_1 : am_at (am_m 102) 1 = some (.lstore 6, 0) := by decide +kernel
theorem at_102_3 : am_at (am_m 102) 3 = some (.iconst 1, 0) := by decide +kernel
theorem at_102_4 : am_at (am_m 102) 4 = some (.istore 8, 0) := by decide +kernel
theorem at_102_6 : am_at (am_m 102) 6 = some (.iload 8, 0) := by decide +kernel
theorem at_102_8 : am_at (am_m 102) 8 = some (.iload 4, 0) := by decide +kernel
theorem at_102_10 : am_at (am_m 102) 10 = some (.if_icmp .ge 32, 42) := by decide +kernel
theorem at_102_13 : am_at (am_m 102) 13 = some (.lload 6, 0) := by decide +kernel
theorem at_102_15 : am_at (am_m 102) 15 = some (.aload_n 0, 0) := by decide +kernel
theorem at_102_16 : am_at (am_m 102) 16 = some (.iload_n 1, 0) := by decide +kernel
theorem at_102_17 : am_at (am_m 102) 17 = some (.iload 8, 0) := by decide +kernel
theorem at_102_19 : am_at (am_m 102) 19 = some (.invokevirtual 74, 15) := by decide +kernel
theorem at_102_22 : am_at (am_m 102) 22 = some (.aload_n 0, 0) := by decide +kernel
theorem at_102_23 : am_at (am_m 102) 23 = some (.iload_n 2, 0) := by decide +kernel
theorem at_102_24 : am_at (am_m 102) 24 = some (.iload_n 2, 0) := by decide +kernel
theorem at_102_25 : am_at (am_m 102) 25 = some (.iload_n 3, 0) := by decide +kernel
theorem at_102_26 : am_at (am_m 102) 26 = some (.iload 8, 0) := by decide +kernel
theorem at_102_28 : am_at (am_m 102) 28 = some (.isub, 0) := by decide +kernel
theorem at_102_29 : am_at (am_m 102) 29 = some (.invokevirtual 78, 16) := by decide +kernel
theorem at_102_32 : am_at (am_m 102) 32 = some (.lmul, 0) := by decide +kernel
theorem at_102_33 : am_at (am_m 102) 33 = some (.ladd, 0) := by decide +kernel
theorem at_102_34 : am_at (am_m 102) 34 = some (.lstore 6, 0) := by decide +kernel
theorem at_102_36 : am_at (am_m 102) 36 = some (.iinc 8 1, 0) := by decide +kernel
theorem at_102_39 : am_at (am_m 102) 39 = some (.goto (-33), 6) := by decide +kernel
theorem at_102_42 : am_at (am_m 102) 42 = some (.lload 6, 0) := by decide +kernel
theorem at_102_44 : am_at (am_m 102) 44 = some (.aload_n 0, 0) := by decide +kernel
theorem at_102_45 : am_at (am_m 102) 45 = some (.iload_n 1, 0) := by decide +kernel
theorem at_102_46 : am_at (am_m 102) 46 = some (.iload 4, 0) := by decide +kernel
theorem at_102_48 : am_at (am_m 102) 48 = some (.invokevirtual 74, 15) := by decide +kernel
theorem at_102_51 : am_at (am_m 102) 51 = some (.aload_n 0, 0) := by decide +kernel
theorem at_102_52 : am_at (am_m 102) 52 = some (.iload_n 2, 0) := by decide +kernel
theorem at_102_53 : am_at (am_m 102) 53 = some (.iload_n 2, 0) := by decide +kernel
theorem at_102_54 : am_at (am_m 102) 54 = some (.iload_n 3, 0) := by decide +kernel
theorem at_102_55 : am_at (am_m 102) 55 = some (.iload 4, 0) := by decide +kernel
theorem at_102_57 : am_at (am_m 102) 57 = some (.isub, 0) := by decide +kernel
theorem at_102_58 : am_at (am_m 102) 58 = some (.iload 5, 0) := by decide +kernel
theorem at_102_60 : am_at (am_m 102) 60 = some (.invokevirtual 123, 101) := by decide +kernel
theorem at_102_63 : am_at (am_m 102) 63 = some (.lmul, 0) := by decide +kernel
theorem at_102_64 : am_at (am_m 102) 64 = some (.ladd, 0) := by decide +kernel
theorem at_102_65 : am_at (am_m 102) 65 = some (.lreturn, 0) := by decide +kernel
theorem at_103_0 : am_at (am_m 103) 0 = some (.aload 7, 0) := by decide +kernel
theorem at_103_2 : am_at (am_m 103) 2 = some (.iconst 0, 0) := by decide +kernel
theorem at_103_3 : am_at (am_m 103) 3 = some (.aload_n 0, 0) := by decide +kernel
theorem at_103_4 : am_at (am_m 103) 4 = some (.iload_n 1, 0) := by decide +kernel
theorem at_103_5 : am_at (am_m 103) 5 = some (.iload_n 2, 0) := by decide +kernel
theorem at_103_6 : am_at (am_m 103) 6 = some (.iload_n 3, 0) := by decide +kernel
theorem at_103_7 : am_at (am_m 103) 7 = some (.iload 4, 0) := by decide +kernel
theorem at_103_9 : am_at (am_m 103) 9 = some (.iload 5, 0) := by decide +kernel
theorem at_103_11 : am_at (am_m 103) 11 = some (.iload 6, 0) := by decide +kernel
theorem at_103_13 : am_at (am_m 103) 13 = some (.invokevirtual 51, 104) := by decide +kernel
theorem at_103_16 : am_at (am_m 103) 16 = some (.i2l, 0) := by decide +kernel
theorem at_103_17 : am_at (am_m 103) 17 = some (.lastore, 0) := by decide +kernel
theorem at_103_18 : am_at (am_m 103) 18 = some (.goto 11, 29) := by decide +kernel
theorem at_103_23 : am_at (am_m 103) 23 = some (.iconst 1, 0) := by decide +kernel
theorem at_103_24 : am_at (am_m 103) 24 = some (.ireturn, 0) := by decide +kernel
theorem at_103_27 : am_at (am_m 103) 27 = some (.iconst 2, 0) := by decide +kernel
theorem at_103_28 : am_at (am_m 103) 28 = some (.ireturn, 0) := by decide +kernel
theorem at_103_29 : am_at (am_m 103) 29 = some (.iconst 0, 0) := by decide +kernel
theorem at_103_30 : am_at (am_m 103) 30 = some (.ireturn, 0) := by decide +kernel
theorem at_104_0 : am_at (am_m 104) 0 = some (.iload 5, 0) := by decide +kernel
theorem at_104_2 : am_at (am_m 104) 2 = some (.iconst 1, 0) := by decide +kernel
theorem at_104_3 : am_at (am_m 104) 3 = some (.if_icmp .lt 10, 13) := by decide +kernel
theorem at_104_6 : am_at (am_m 104) 6 = some (.iload 5, 0) := by decide +kernel
theorem at_104_8 : am_at (am_m 104) 8 = some (.bipush 9, 0) := by decide +kernel
theorem at_104_10 : am_at (am_m 104) 10 = some (.if_icmp .le 13, 23) := by decide +kernel
theorem at_104_13 : am_at (am_m 104) 13 = some (.new 114, 100) := by decide +kernel
theorem at_104_23 : am_at (am_m 104) 23 = some (.aload_n 0, 0) := by decide +kernel
theorem at_104_24 : am_at (am_m 104) 24 = some (.getfield 29, 2819) := by decide +kernel
theorem at_104_27 : am_at (am_m 104) 27 = some (.getfield 210, 513) := by decide +kernel
theorem at_104_30 : am_at (am_m 104) 30 = some (.bipush 24, 0) := by decide +kernel
theorem at_104_32 : am_at (am_m 104) 32 = some (.if_icmp .lt 13, 45) := by decide +kernel
theorem at_104_35 : am_at (am_m 104) 35 = some (.new 213, 101) := by decide +kernel
theorem at_104_45 : am_at (am_m 104) 45 = some (.aload_n 0, 0) := by decide +kernel
theorem at_104_46 : am_at (am_m 104) 46 = some (.getfield 72, 2826) := by decide +kernel
theorem at_104_49 : am_at (am_m 104) 49 = some (.iconst 0, 0) := by decide +kernel
theorem at_104_50 : am_at (am_m 104) 50 = some (.iload_n 1, 0) := by decide +kernel
theorem at_104_51 : am_at (am_m 104) 51 = some (.iastore, 0) := by decide +kernel
theorem at_104_52 : am_at (am_m 104) 52 = some (.aload_n 0, 0) := by decide +kernel
theorem at_104_53 : am_at (am_m 104) 53 = some (.getfield 72, 2826) := by decide +kernel
theorem at_104_56 : am_at (am_m 104) 56 = some (.iconst 1, 0) := by decide +kernel
theorem at_104_57 : am_at (am_m 104) 57 = some (.iload_n 2, 0) := by decide +kernel
theorem at_104_58 : am_at (am_m 104) 58 = some (.iastore, 0) := by decide +kernel
theorem at_104_59 : am_at (am_m 104) 59 = some (.aload_n 0, 0) := by decide +kernel
theorem at_104_60 : am_at (am_m 104) 60 = some (.getfield 72, 2826) := by decide +kernel
theorem at_104_63 : am_at (am_m 104) 63 = some (.iconst 2, 0) := by decide +kernel
theorem at_104_64 : am_at (am_m 104) 64 = some (.iload_n 3, 0) := by decide +kernel
theorem at_104_65 : am_at (am_m 104) 65 = some (.iastore, 0) := by decide +kernel
theorem at_104_66 : am_at (am_m 104) 66 = some (.aload_n 0, 0) := by decide +kernel
theorem at_104_67 : am_at (am_m 104) 67 = some (.getfield 72, 2826) := by decide +kernel
theorem at_104_70 : am_at (am_m 104) 70 = some (.iconst 3, 0) := by decide +kernel
theorem at_104_71 : am_at (am_m 104) 71 = some (.iload 4, 0) := by decide +kernel
theorem at_104_73 : am_at (am_m 104) 73 = some (.iastore, 0) := by decide +kernel
theorem at_104_74 : am_at (am_m 104) 74 = some (.aload_n 0, 0) := by decide +kernel
theorem at_104_75 : am_at (am_m 104) 75 = some (.getfield 72, 2826) := by decide +kernel
theorem at_104_78 : am_at (am_m 104) 78 = some (.iconst 4, 0) := by decide +kernel
theorem at_104_79 : am_at (am_m 104) 79 = some (.iload 5, 0) := by decide +kernel
theorem at_104_81 : am_at (am_m 104) 81 = some (.iastore, 0) := by decide +kernel
theorem at_104_82 : am_at (am_m 104) 82 = some (.aload_n 0, 0) := by decide +kernel
theorem at_104_83 : am_at (am_m 104) 83 = some (.getfield 72, 2826) := by decide +kernel
theorem at_104_86 : am_at (am_m 104) 86 = some (.iconst 5, 0) := by decide +kernel
theorem at_104_87 : am_at (am_m 104) 87 = some (.iload 6, 0) := by decide +kernel
theorem at_104_89 : am_at (am_m 104) 89 = some (.ifCond .eq 7, 96) := by decide +kernel
theorem at_104_92 : am_at (am_m 104) 92 = some (.iconst 1, 0) := by decide +kernel
theorem at_104_93 : am_at (am_m 104) 93 = some (.goto 4, 97) := by decide +kernel
theorem at_104_96 : am_at (am_m 104) 96 = some (.iconst 0, 0) := by decide +kernel
theorem at_104_97 : am_at (am_m 104) 97 = some (.iastore, 0) := by decide +kernel
theorem at_104_98 : am_at (am_m 104) 98 = some (.aload_n 0, 0) := by decide +kernel
theorem at_104_99 : am_at (am_m 104) 99 = some (.getfield 29, 2819) := by decide +kernel
theorem at_104_102 : am_at (am_m 104) 102 = some (.aload_n 0, 0) := by decide +kernel
theorem at_104_103 : am_at (am_m 104) 103 = some (.getfield 72, 2826) := by decide +kernel
theorem at_104_106 : am_at (am_m 104) 106 = some (.invokevirtual 218, 105) := by decide +kernel
theorem at_104_109 : am_at (am_m 104) 109 = some (.istore 7, 0) := by decide +kernel
theorem at_104_111 : am_at (am_m 104) 111 = some (.aload_n 0, 0) := by decide +kernel
theorem at_104_112 : am_at (am_m 104) 112 = some (.getfield 72, 2826) := by decide +kernel
theorem at_104_115 : am_at (am_m 104) 115 = some (.iconst 0, 0) := by decide +kernel
theorem at_104_116 : am_at (am_m 104) 116 = some (.invokestatic 222, 53) := by decide +kernel
theorem at_104_119 : am_at (am_m 104) 119 = some (.iload 7, 0) := by decide +kernel
theorem at_104_121 : am_at (am_m 104) 121 = some (.ireturn, 0) := by decide +kernel
theorem at_105_0 : am_at (am_m 105) 0 = some (.aload_n 1, 0) := by decide +kernel
theorem at_105_1 : am_at (am_m 105) 1 = some (.iconst 0, 0) := by decide +kernel
theorem at_105_2 : am_at (am_m 105) 2 = some (.aload_n 0, 0) := by decide +kernel
theorem at_105_3 : am_at (am_m 105) 3 = some (.getfield 9, 512) := by decide +kernel
theorem at_105_6 : am_at (am_m 105) 6 = some (.aload_n 0, 0) := by decide +kernel
theorem at_105_7 : am_at (am_m 105) 7 = some (.getfield 15, 513) := by decide +kernel
theorem at_105_10 : am_at (am_m 105) 10 = some (.bipush 15, 0) := by decide +kernel
theorem at_105_12 : am_at (am_m 105) 12 = some (.imul, 0) := by decide +kernel
theorem at_105_13 : am_at (am_m 105) 13 = some (.bipush 15, 0) := by decide +kernel
theorem at_105_15 : am_at (am_m 105) 15 = some (.invokestatic 39, 10000) := by decide +kernel
theorem at_105_18 : am_at (am_m 105) 18 = some (.aload_n 0, 0) := by decide +kernel
theorem at_105_19 : am_at (am_m 105) 19 = some (.dup, 0) := by decide +kernel
theorem at_105_20 : am_at (am_m 105) 20 = some (.getfield 15, 513) := by decide +kernel
theorem at_105_23 : am_at (am_m 105) 23 = some (.iconst 1, 0) := by decide +kernel
theorem at_105_24 : am_at (am_m 105) 24 = some (.iadd, 0) := by decide +kernel
theorem at_105_25 : am_at (am_m 105) 25 = some (.putfield 15, 513) := by decide +kernel
theorem at_105_28 : am_at (am_m 105) 28 = some (.aload_n 0, 0) := by decide +kernel
theorem at_105_29 : am_at (am_m 105) 29 = some (.getfield 15, 513) := by decide +kernel
theorem at_105_32 : am_at (am_m 105) 32 = some (.iconst 1, 0) := by decide +kernel
theorem at_105_33 : am_at (am_m 105) 33 = some (.isub, 0) := by decide +kernel
theorem at_105_34 : am_at (am_m 105) 34 = some (.ireturn, 0) := by decide +kernel
theorem at_106_0 : am_at (am_m 106) 0 = some (.aload_n 2, 0) := by decide +kernel
theorem at_106_1 : am_at (am_m 106) 1 = some (.iconst 0, 0) := by decide +kernel
theorem at_106_2 : am_at (am_m 106) 2 = some (.aload_n 0, 0) := by decide +kernel
theorem at_106_3 : am_at (am_m 106) 3 = some (.iload_n 1, 0) := by decide +kernel
theorem at_106_4 : am_at (am_m 106) 4 = some (.invokevirtual 55, 107) := by decide +kernel
theorem at_106_7 : am_at (am_m 106) 7 = some (.i2l, 0) := by decide +kernel
theorem at_106_8 : am_at (am_m 106) 8 = some (.lastore, 0) := by decide +kernel
theorem at_106_9 : am_at (am_m 106) 9 = some (.goto 6, 15) := by decide +kernel
theorem at_106_13 : am_at (am_m 106) 13 = some (.iconst 1, 0) := by decide +kernel
theorem at_106_14 : am_at (am_m 106) 14 = some (.ireturn, 0) := by decide +kernel
theorem at_106_15 : am_at (am_m 106) 15 = some (.iconst 0, 0) := by decide +kernel
theorem at_106_16 : am_at (am_m 106) 16 = some (.ireturn, 0) := by decide +kernel
theorem at_107_0 : am_at (am_m 107) 0 = some (.aload_n 0, 0) := by decide +kernel
theorem at_107_1 : am_at (am_m 107) 1 = some (.iload_n 1, 0) := by decide +kernel
theorem at_107_2 : am_at (am_m 107) 2 = some (.invokevirtual 228, 108) := by decide +kernel
theorem at_107_5 : am_at (am_m 107) 5 = some (.aload_n 0, 0) := by decide +kernel
theorem at_107_6 : am_at (am_m 107) 6 = some (.getfield 29, 2819) := by decide +kernel
theorem at_107_9 : am_at (am_m 107) 9 = some (.iload_n 1, 0) := by decide +kernel
theorem at_107_10 : am_at (am_m 107) 10 = some (.invokevirtual 231, 109) := by decide +kernel
theorem at_107_13 : am_at (am_m 107) 13 = some (.aload_n 0, 0) := by decide +kernel
theorem at_107_14 : am_at (am_m 107) 14 = some (.getfield 29, 2819) := by decide +kernel
theorem at_107_17 : am_at (am_m 107) 17 = some (.getfield 210, 513) := by decide +kernel
theorem at_107_20 : am_at (am_m 107) 20 = some (.ireturn, 0) := by decide +kernel
theorem at_108_0 : am_at (am_m 108) 0 = some (.iload_n 1, 0) := by decide +kernel
theorem at_108_1 : am_at (am_m 108) 1 = some (.ifCond .lt 14, 15) := by decide +kernel
theorem at_108_4 : am_at (am_m 108) 4 = some (.iload_n 1, 0) := by decide +kernel
theorem at_108_5 : am_at (am_m 108) 5 = some (.aload_n 0, 0) := by decide +kernel
theorem at_108_6 : am_at (am_m 108) 6 = some (.getfield 29, 2819) := by decide +kernel
theorem at_108_9 : am_at (am_m 108) 9 = some (.getfield 210, 513) := by decide +kernel
theorem at_108_12 : am_at (am_m 108) 12 = some (.if_icmp .lt 14, 26) := by decide +kernel
theorem at_108_15 : am_at (am_m 108) 15 = some (.new 177, 102) := by decide +kernel
theorem at_108_26 : am_at (am_m 108) 26 = some (.return_, 0) := by decide +kernel
theorem at_109_0 : am_at (am_m 109) 0 = some (.aload_n 0, 0) := by decide +kernel
theorem at_109_1 : am_at (am_m 109) 1 = some (.getfield 9, 512) := by decide +kernel
theorem at_109_4 : am_at (am_m 109) 4 = some (.iload_n 1, 0) := by decide +kernel
theorem at_109_5 : am_at (am_m 109) 5 = some (.iconst 1, 0) := by decide +kernel
theorem at_109_6 : am_at (am_m 109) 6 = some (.iadd, 0) := by decide +kernel
theorem at_109_7 : am_at (am_m 109) 7 = some (.bipush 15, 0) := by decide +kernel
theorem at_109_9 : am_at (am_m 109) 9 = some (.imul, 0) := by decide +kernel
theorem at_109_10 : am_at (am_m 109) 10 = some (.aload_n 0, 0) := by decide +kernel
theorem at_109_11 : am_at (am_m 109) 11 = some (.getfield 9, 512) := by decide +kernel
theorem at_109_14 : am_at (am_m 109) 14 = some (.iload_n 1, 0) := by decide +kernel
theorem at_109_15 : am_at (am_m 109) 15 = some (.bipush 15, 0) := by decide +kernel
theorem at_109_17 : am_at (am_m 109) 17 = some (.imul, 0) := by decide +kernel
theorem at_109_18 : am_at (am_m 109) 18 = some (.aload_n 0, 0) := by decide +kernel
theorem at_109_19 : am_at (am_m 109) 19 = some (.getfield 15, 513) := by decide +kernel
theorem at_109_22 : am_at (am_m 109) 22 = some (.iconst 1, 0) := by decide +kernel
theorem at_109_23 : am_at (am_m 109) 23 = some (.isub, 0) := by decide +kernel
theorem at_109_24 : am_at (am_m 109) 24 = some (.iload_n 1, 0) := by decide +kernel
theorem at_109_25 : am_at (am_m 109) 25 = some (.isub, 0) := by decide +kernel
theorem at_109_26 : am_at (am_m 109) 26 = some (.bipush 15, 0) := by decide +kernel
theorem at_109_28 : am_at (am_m 109) 28 = some (.imul, 0) := by decide +kernel
theorem at_109_29 : am_at (am_m 109) 29 = some (.invokestatic 39, 10000) := by decide +kernel
theorem at_109_32 : am_at (am_m 109) 32 = some (.aload_n 0, 0) := by decide +kernel
theorem at_109_33 : am_at (am_m 109) 33 = some (.dup, 0) := by decide +kernel
theorem at_109_34 : am_at (am_m 109) 34 = some (.getfield 15, 513) := by decide +kernel
theorem at_109_37 : am_at (am_m 109) 37 = some (.iconst 1, 0) := by decide +kernel
theorem at_109_38 : am_at (am_m 109) 38 = some (.isub, 0) := by decide +kernel
theorem at_109_39 : am_at (am_m 109) 39 = some (.putfield 15, 513) := by decide +kernel
theorem at_109_42 : am_at (am_m 109) 42 = some (.return_, 0) := by decide +kernel
theorem at_110_0 : am_at (am_m 110) 0 = some (.aload_n 3, 0) := by decide +kernel
theorem at_110_1 : am_at (am_m 110) 1 = some (.iconst 0, 0) := by decide +kernel
theorem at_110_2 : am_at (am_m 110) 2 = some (.aload_n 0, 0) := by decide +kernel
theorem at_110_3 : am_at (am_m 110) 3 = some (.iload_n 1, 0) := by decide +kernel
theorem at_110_4 : am_at (am_m 110) 4 = some (.iload_n 2, 0) := by decide +kernel
theorem at_110_5 : am_at (am_m 110) 5 = some (.invokevirtual 58, 111) := by decide +kernel
theorem at_110_8 : am_at (am_m 110) 8 = some (.i2l, 0) := by decide +kernel
theorem at_110_9 : am_at (am_m 110) 9 = some (.lastore, 0) := by decide +kernel
theorem at_110_10 : am_at (am_m 110) 10 = some (.goto 11, 21) := by decide +kernel
theorem at_110_15 : am_at (am_m 110) 15 = some (.iconst 1, 0) := by decide +kernel
theorem at_110_16 : am_at (am_m 110) 16 = some (.ireturn, 0) := by decide +kernel
theorem at_110_19 : am_at (am_m 110) 19 = some (.iconst 2, 0) := by decide +kernel
theorem at_110_20 : am_at (am_m 110) 20 = some (.ireturn, 0) := by decide +kernel
theorem at_110_21 : am_at (am_m 110) 21 = some (.iconst 0, 0) := by decide +kernel
theorem at_110_22 : am_at (am_m 110) 22 = some (.ireturn, 0) := by decide +kernel
theorem at_111_0 : am_at (am_m 111) 0 = some (.aload_n 0, 0) := by decide +kernel
theorem at_111_1 : am_at (am_m 111) 1 = some (.iload_n 1, 0) := by decide +kernel
theorem at_111_2 : am_at (am_m 111) 2 = some (.invokevirtual 228, 108) := by decide +kernel
theorem at_111_5 : am_at (am_m 111) 5 = some (.iload_n 2, 0) := by decide +kernel
theorem at_111_6 : am_at (am_m 111) 6 = some (.ifCond .lt 9, 15) := by decide +kernel
theorem at_111_9 : am_at (am_m 111) 9 = some (.iload_n 2, 0) := by decide +kernel
theorem at_111_10 : am_at (am_m 111) 10 = some (.bipush 15, 0) := by decide +kernel
theorem at_111_12 : am_at (am_m 111) 12 = some (.if_icmp .lt 13, 25) := by decide +kernel
theorem at_111_15 : am_at (am_m 111) 15 = some (.new 114, 100) := by decide +kernel
theorem at_111_25 : am_at (am_m 111) 25 = some (.aload_n 0, 0) := by decide +kernel
theorem at_111_26 : am_at (am_m 111) 26 = some (.getfield 29, 2819) := by decide +kernel
theorem at_111_29 : am_at (am_m 111) 29 = some (.iload_n 1, 0) := by decide +kernel
theorem at_111_30 : am_at (am_m 111) 30 = some (.iload_n 2, 0) := by decide +kernel
theorem at_111_31 : am_at (am_m 111) 31 = some (.invokevirtual 234, 112) := by decide +kernel
theorem at_111_34 : am_at (am_m 111) 34 = some (.ireturn, 0) := by decide +kernel
theorem at_112_0 : am_at (am_m 112) 0 = some (.iload_n 1, 0) := by decide +kernel
theorem at_112_1 : am_at (am_m 112) 1 = some (.bipush 15, 0) := by decide +kernel
theorem at_112_3 : am_at (am_m 112) 3 = some (.imul, 0) := by decide +kernel
theorem at_112_4 : am_at (am_m 112) 4 = some (.iload_n 2, 0) := by decide +kernel
theorem at_112_5 : am_at (am_m 112) 5 = some (.iadd, 0) := by decide +kernel
theorem at_112_6 : am_at (am_m 112) 6 = some (.istore_n 3, 0) := by decide +kernel
theorem at_112_7 : am_at (am_m 112) 7 = some (.iload_n 3, 0) := by decide +kernel
theorem at_112_8 : am_at (am_m 112) 8 = some (.ifCond .lt 21, 29) := by decide +kernel
theorem at_112_11 : am_at (am_m 112) 11 = some (.iload_n 3, 0) := by decide +kernel
theorem at_112_12 : am_at (am_m 112) 12 = some (.aload_n 0, 0) := by decide +kernel
theorem at_112_13 : am_at (am_m 112) 13 = some (.getfield 9, 512) := by decide +kernel
theorem at_112_16 : am_at (am_m 112) 16 = some (.arraylength, 0) := by decide +kernel
theorem at_112_17 : am_at (am_m 112) 17 = some (.if_icmp .ge 12, 29) := by decide +kernel
theorem at_112_20 : am_at (am_m 112) 20 = some (.aload_n 0, 0) := by decide +kernel
theorem at_112_21 : am_at (am_m 112) 21 = some (.getfield 9, 512) := by decide +kernel
theorem at_112_24 : am_at (am_m 112) 24 = some (.iload_n 3, 0) := by decide +kernel
theorem at_112_25 : am_at (am_m 112) 25 = some (.iaload, 0) := by decide +kernel
theorem at_112_26 : am_at (am_m 112) 26 = some (.goto 4, 30) := by decide +kernel
theorem at_112_29 : am_at (am_m 112) 29 = some (.iconst 0, 0) := by decide +kernel
theorem at_112_30 : am_at (am_m 112) 30 = some (.ireturn, 0) := by decide +kernel
theorem at_113_0 : am_at (am_m 113) 0 = some (.aload_n 3, 0) := by decide +kernel
theorem at_113_1 : am_at (am_m 113) 1 = some (.iconst 0, 0) := by decide +kernel
theorem at_113_2 : am_at (am_m 113) 2 = some (.aload_n 0, 0) := by decide +kernel
theorem at_113_3 : am_at (am_m 113) 3 = some (.iload_n 1, 0) := by decide +kernel
theorem at_113_4 : am_at (am_m 113) 4 = some (.iload_n 2, 0) := by decide +kernel
theorem at_113_5 : am_at (am_m 113) 5 = some (.invokevirtual 61, 114) := by decide +kernel
theorem at_113_8 : am_at (am_m 113) 8 = some (.i2l, 0) := by decide +kernel
theorem at_113_9 : am_at (am_m 113) 9 = some (.lastore, 0) := by decide +kernel
theorem at_113_10 : am_at (am_m 113) 10 = some (.goto 7, 17) := by decide +kernel
theorem at_113_15 : am_at (am_m 113) 15 = some (.iconst 1, 0) := by decide +kernel
theorem at_113_16 : am_at (am_m 113) 16 = some (.ireturn, 0) := by decide +kernel
theorem at_113_17 : am_at (am_m 113) 17 = some (.iconst 0, 0) := by decide +kernel
theorem at_113_18 : am_at (am_m 113) 18 = some (.ireturn, 0) := by decide +kernel
theorem at_114_0 : am_at (am_m 114) 0 = some (.aload_n 0, 0) := by decide +kernel
theorem at_114_1 : am_at (am_m 114) 1 = some (.iload_n 1, 0) := by decide +kernel
theorem at_114_2 : am_at (am_m 114) 2 = some (.invokevirtual 132, 63) := by decide +kernel
theorem at_114_5 : am_at (am_m 114) 5 = some (.astore_n 3, 0) := by decide +kernel
theorem at_114_6 : am_at (am_m 114) 6 = some (.aload_n 0, 0) := by decide +kernel
theorem at_114_7 : am_at (am_m 114) 7 = some (.iload_n 2, 0) := by decide +kernel
theorem at_114_8 : am_at (am_m 114) 8 = some (.invokevirtual 228, 108) := by decide +kernel
theorem at_114_11 : am_at (am_m 114) 11 = some (.aload_n 0, 0) := by decide +kernel
theorem at_114_12 : am_at (am_m 114) 12 = some (.getfield 29, 2819) := by decide +kernel
theorem at_114_15 : am_at (am_m 114) 15 = some (.getfield 237, 514) := by decide +kernel
theorem at_114_18 : am_at (am_m 114) 18 = some (.aload_n 3, 0) := by decide +kernel
theorem at_114_19 : am_at (am_m 114) 19 = some (.invokevirtual 241, 115) := by decide +kernel
theorem at_114_22 : am_at (am_m 114) 22 = some (.aload_n 0, 0) := by decide +kernel
theorem at_114_23 : am_at (am_m 114) 23 = some (.getfield 29, 2819) := by decide +kernel
theorem at_114_26 : am_at (am_m 114) 26 = some (.getfield 237, 514) := by decide +kernel
theorem at_114_29 : am_at (am_m 114) 29 = some (.aload_n 0, 0) := by decide +kernel
theorem at_114_30 : am_at (am_m 114) 30 = some (.getfield 29, 2819) := by decide +kernel
theorem at_114_33 : am_at (am_m 114) 33 = some (.getfield 247, 512) := by decide +kernel
theorem at_114_36 : am_at (am_m 114) 36 = some (.iload_n 2, 0) := by decide +kernel
theorem at_114_37 : am_at (am_m 114) 37 = some (.bipush 15, 0) := by decide +kernel
theorem at_114_39 : am_at (am_m 114) 39 = some (.imul, 0) := by decide +kernel
theorem at_114_40 : am_at (am_m 114) 40 = some (.invokevirtual 250, 116) := by decide +kernel
theorem at_114_43 : am_at (am_m 114) 43 = some (.aload_n 0, 0) := by decide +kernel
theorem at_114_44 : am_at (am_m 114) 44 = some (.invokevirtual 253, 128) := by decide +kernel
theorem at_114_47 : am_at (am_m 114) 47 = some (.ireturn, 0) := by decide +kernel
theorem at_115_0 : am_at (am_m 115) 0 = some (.aload_n 0, 0) := by decide +kernel
theorem at_115_1 : am_at (am_m 115) 1 = some (.aload_n 1, 0) := by decide +kernel
theorem at_115_2 : am_at (am_m 115) 2 = some (.putfield 24, 1540) := by decide +kernel
theorem at_115_5 : am_at (am_m 115) 5 = some (.aload_n 1, 0) := by decide +kernel
theorem at_115_6 : am_at (am_m 115) 6 = some (.getfield 63, 769) := by decide +kernel
theorem at_115_9 : am_at (am_m 115) 9 = some (.ifCond .ne 11, 20) := by decide +kernel
theorem at_115_12 : am_at (am_m 115) 12 = some (.aload_n 0, 0) := by decide +kernel
theorem at_115_13 : am_at (am_m 115) 13 = some (.getfield 31, 1541) := by decide +kernel
theorem at_115_16 : am_at (am_m 115) 16 = some (.aload_n 1, 0) := by decide +kernel
theorem at_115_17 : am_at (am_m 115) 17 = some (.invokevirtual 68, 77) := by decide +kernel
theorem at_115_20 : am_at (am_m 115) 20 = some (.return_, 0) := by decide +kernel
theorem at_116_0 : am_at (am_m 116) 0 = some (.aload_n 0, 0) := by decide +kernel
theorem at_116_1 : am_at (am_m 116) 1 = some (.iconst 0, 0) := by decide +kernel
theorem at_116_2 : am_at (am_m 116) 2 = some (.putfield 15, 1537) := by decide +kernel
theorem at_116_5 : am_at (am_m 116) 5 = some (.aload_n 0, 0) := by decide +kernel
theorem at_116_6 : am_at (am_m 116) 6 = some (.iconst 0, 0) := by decide +kernel
theorem at_116_7 : am_at (am_m 116) 7 = some (.putfield 18, 1538) := by decide +kernel
theorem at_116_10 : am_at (am_m 116) 10 = some (.aload_n 0, 0) := by decide +kernel
theorem at_116_11 : am_at (am_m 116) 11 = some (.iconst 0, 0) := by decide +kernel
theorem at_116_12 : am_at (am_m 116) 12 = some (.putfield 21, 1539) := by decide +kernel
theorem at_116_15 : am_at (am_m 116) 15 = some (.aload_n 0, 0) := by decide +kernel
theorem at_116_16 : am_at (am_m 116) 16 = some (.getfield 24, 1540) := by decide +kernel
theorem at_116_19 : am_at (am_m 116) 19 = some (.ifnull 16, 35) := by decide +kernel
theorem at_116_22 : am_at (am_m 116) 22 = some (.iload_n 2, 0) := by decide +kernel
theorem at_116_23 : am_at (am_m 116) 23 = some (.ifCond .lt 12, 35) := by decide +kernel
theorem at_116_26 : am_at (am_m 116) 26 = some (.iload_n 2, 0) := by decide +kernel
theorem at_116_27 : am_at (am_m 116) 27 = some (.bipush 15, 0) := by decide +kernel
theorem at_116_29 : am_at (am_m 116) 29 = some (.iadd, 0) := by decide +kernel
theorem at_116_30 : am_at (am_m 116) 30 = some (.aload_n 1, 0) := by decide +kernel
theorem at_116_31 : am_at (am_m 116) 31 = some (.arraylength, 0) := by decide +kernel
theorem at_116_32 : am_at (am_m 116) 32 = some (.if_icmp .le 4, 36) := by decide +kernel
theorem at_116_35 : am_at (am_m 116) 35 = some (.return_, 0) := by decide +kernel
theorem at_116_36 : am_at (am_m 116) 36 = some (.aload_n 0, 0) := by decide +kernel
theorem at_116_37 : am_at (am_m 116) 37 = some (.aload_n 1, 0) := by decide +kernel
theorem at_116_38 : am_at (am_m 116) 38 = some (.iload_n 2, 0) := by decide +kernel
theorem at_116_39 : am_at (am_m 116) 39 = some (.iaload, 0) := by decide +kernel
theorem at_116_40 : am_at (am_m 116) 40 = some (.putfield 35, 1542) := by decide +kernel
theorem at_116_43 : am_at (am_m 116) 43 = some (.aload_n 0, 0) := by decide +kernel
theorem at_116_44 : am_at (am_m 116) 44 = some (.aload_n 1, 0) := by decide +kernel
theorem at_116_45 : am_at (am_m 116) 45 = some (.iload_n 2, 0) := by decide +kernel
theorem at_116_46 : am_at (am_m 116) 46 = some (.iconst 1, 0) := by decide +kernel
theorem at_116_47 : am_at (am_m 116) 47 = some (.iadd, 0) := by decide +kernel
theorem at_116_48 : am_at (am_m 116) 48 = some (.iaload, 0) := by decide +kernel
theorem at_116_49 : am_at (am_m 116) 49 = some (.putfield 38, 1543) := by decide +kernel
theorem at_116_52 : am_at (am_m 116) 52 = some (.aload_n 0, 0) := by decide +kernel
theorem at_116_53 : am_at (am_m 116) 53 = some (.aload_n 1, 0) := by decide +kernel
theorem at_116_54 : am_at (am_m 116) 54 = some (.iload_n 2, 0) := by decide +kernel
theorem at_116_55 : am_at (am_m 116) 55 = some (.iconst 2, 0) := by decide +kernel
theorem at_116_56 : am_at (am_m 116) 56 = some (.iadd, 0) := by decide +kernel
theorem at_116_57 : am_at (am_m 116) 57 = some (.iaload, 0) := by decide +kernel
theorem at_116_58 : am_at (am_m 116) 58 = some (.putfield 41, 1544) := by decide +kernel
theorem at_116_61 : am_at (am_m 116) 61 = some (.aload_n 0, 0) := by decide +kernel
theorem at_116_62 : am_at (am_m 116) 62 = some (.aload_n 1, 0) := by decide +kernel
theorem at_116_63 : am_at (am_m 116) 63 = some (.iload_n 2, 0) := by decide +kernel
theorem at_116_64 : am_at (am_m 116) 64 = some (.bipush 6, 0) := by decide +kernel
theorem at_116_66 : am_at (am_m 116) 66 = some (.iadd, 0) := by decide +kernel
theorem at_116_67 : am_at (am_m 116) 67 = some (.iaload, 0) := by decide +kernel
theorem at_116_68 : am_at (am_m 116) 68 = some (.bipush 8, 0) := by decide +kernel
theorem at_116_70 : am_at (am_m 116) 70 = some (.invokestatic 72, 38) := by decide +kernel
theorem at_116_73 : am_at (am_m 116) 73 = some (.putfield 48, 1546) := by decide +kernel
theorem at_116_76 : am_at (am_m 116) 76 = some (.aload_n 1, 0) := by decide +kernel
theorem at_116_77 : am_at (am_m 116) 77 = some (.iload_n 2, 0) := by decide +kernel
theorem at_116_78 : am_at (am_m 116) 78 = some (.bipush 7, 0) := by decide +kernel
theorem at_116_80 : am_at (am_m 116) 80 = some (.iadd, 0) := by decide +kernel
theorem at_116_81 : am_at (am_m 116) 81 = some (.aload_n 0, 0) := by decide +kernel
theorem at_116_82 : am_at (am_m 116) 82 = some (.getfield 44, 1545) := by decide +kernel
theorem at_116_85 : am_at (am_m 116) 85 = some (.iconst 0, 0) := by decide +kernel
theorem at_116_86 : am_at (am_m 116) 86 = some (.bipush 8, 0) := by decide +kernel
theorem at_116_88 : am_at (am_m 116) 88 = some (.invokestatic 78, 10000) := by decide +kernel
theorem at_116_91 : am_at (am_m 116) 91 = some (.aload_n 0, 0) := by decide +kernel
theorem at_116_92 : am_at (am_m 116) 92 = some (.getfield 24, 1540) := by decide +kernel
theorem at_116_95 : am_at (am_m 116) 95 = some (.getfield 63, 769) := by decide +kernel
theorem at_116_98 : am_at (am_m 116) 98 = some (.ifCond .ne 12, 110) := by decide +kernel
theorem at_116_101 : am_at (am_m 116) 101 = some (.aload_n 0, 0) := by decide +kernel
theorem at_116_102 : am_at (am_m 116) 102 = some (.iconst 0, 0) := by decide +kernel
theorem at_116_103 : am_at (am_m 116) 103 = some (.iconst 1, 0) := by decide +kernel
theorem at_116_104 : am_at (am_m 116) 104 = some (.invokevirtual 84, 117) := by decide +kernel
theorem at_116_107 : am_at (am_m 116) 107 = some (.goto 43, 150) := by decide +kernel
theorem at_116_110 : am_at (am_m 116) 110 = some (.aload_n 0, 0) := by decide +kernel
theorem at_116_111 : am_at (am_m 116) 111 = some (.getfield 24, 1540) := by decide +kernel
theorem at_116_114 : am_at (am_m 116) 114 = some (.getfield 63, 769) := by decide +kernel
theorem at_116_117 : am_at (am_m 116) 117 = some (.iconst 1, 0) := by decide +kernel
theorem at_116_118 : am_at (am_m 116) 118 = some (.if_icmp .ne 10, 128) := by decide +kernel
theorem at_116_121 : am_at (am_m 116) 121 = some (.aload_n 0, 0) := by decide +kernel
theorem at_116_122 : am_at (am_m 116) 122 = some (.invokevirtual 87, 123) := by decide +kernel
theorem at_116_125 : am_at (am_m 116) 125 = some (.goto 25, 150) := by decide +kernel
theorem at_116_128 : am_at (am_m 116) 128 = some (.aload_n 0, 0) := by decide +kernel
theorem at_116_129 : am_at (am_m 116) 129 = some (.getfield 24, 1540) := by decide +kernel
theorem at_116_132 : am_at (am_m 116) 132 = some (.getfield 63, 769) := by decide +kernel
theorem at_116_135 : am_at (am_m 116) 135 = some (.iconst 2, 0) := by decide +kernel
theorem at_116_136 : am_at (am_m 116) 136 = some (.if_icmp .ne 10, 146) := by decide +kernel
theorem at_116_139 : am_at (am_m 116) 139 = some (.aload_n 0, 0) := by decide +kernel
theorem at_116_140 : am_at (am_m 116) 140 = some (.invokevirtual 91, 124) := by decide +kernel
theorem at_116_143 : am_at (am_m 116) 143 = some (.goto 7, 150) := by decide +kernel
theorem at_116_146 : am_at (am_m 116) 146 = some (.aload_n 0, 0) := by decide +kernel
theorem at_116_147 : am_at (am_m 116) 147 = some (.invokevirtual 94, 126) := by decide +kernel
theorem at_116_150 : am_at (am_m 116) 150 = some (.istore_n 3, 0) := by decide +kernel
theorem at_116_151 : am_at (am_m 116) 151 = some (.aload_n 0, 0) := by decide +kernel
theorem at_116_152 : am_at (am_m 116) 152 = some (.aload_n 0, 0) := by decide +kernel
theorem at_116_153 : am_at (am_m 116) 153 = some (.getfield 15, 1537) := by decide +kernel
theorem at_116_156 : am_at (am_m 116) 156 = some (.ifCond .ne 7, 163) := by decide +kernel
theorem at_116_159 : am_at (am_m 116) 159 = some (.iload_n 3, 0) := by decide +kernel
theorem at_116_160 : am_at (am_m 116) 160 = some (.goto 4, 164) := by decide +kernel
theorem at_116_163 : am_at (am_m 116) 163 = some (.iconst 0, 0) := by decide +kernel
theorem at_116_164 : am_at (am_m 116) 164 = some (.putfield 21, 1539) := by decide +kernel
theorem at_116_167 : am_at (am_m 116) 167 = some (.return_, 0) := by decide +kernel
theorem at_117_0 : am_at (am_m 117) 0 = some (.iload_n 2, 0) := by decide +kernel
theorem at_117_1 : am_at (am_m 117) 1 = some (.bipush 12, 0) := by decide +kernel
theorem at_117_3 : am_at (am_m 117) 3 = some (.if_icmp .gt 17, 20) := by decide +kernel
theorem at_117_6 : am_at (am_m 117) 6 = some (.aload_n 0, 0) := by decide +kernel
theorem at_117_7 : am_at (am_m 117) 7 = some (.getfield 15, 1537) := by decide +kernel
theorem at_117_10 : am_at (am_m 117) 10 = some (.ifCond .ne 10, 20) := by decide +kernel
theorem at_117_13 : am_at (am_m 117) 13 = some (.aload_n 0, 0) := by decide +kernel
theorem at_117_14 : am_at (am_m 117) 14 = some (.invokevirtual 97, 118) := by decide +kernel
theorem at_117_17 : am_at (am_m 117) 17 = some (.ifCond .ne 5, 22) := by decide +kernel
theorem at_117_20 : am_at (am_m 117) 20 = some (.iconst 0, 0) := by decide +kernel
theorem at_117_21 : am_at (am_m 117) 21 = some (.ireturn, 0) := by decide +kernel
theorem at_117_22 : am_at (am_m 117) 22 = some (.aload_n 0, 0) := by decide +kernel
theorem at_117_23 : am_at (am_m 117) 23 = some (.getfield 24, 1540) := by decide +kernel
theorem at_117_26 : am_at (am_m 117) 26 = some (.iload_n 1, 0) := by decide +kernel
theorem at_117_27 : am_at (am_m 117) 27 = some (.iconst 0, 0) := by decide +kernel
theorem at_117_28 : am_at (am_m 117) 28 = some (.invokevirtual 101, 54) := by decide +kernel
theorem at_117_31 : am_at (am_m 117) 31 = some (.istore_n 3, 0) := by decide +kernel
theorem at_117_32 : am_at (am_m 117) 32 = some (.iload_n 3, 0) := by decide +kernel
theorem at_117_33 : am_at (am_m 117) 33 = some (.bipush 7, 0) := by decide +kernel
theorem at_117_35 : am_at (am_m 117) 35 = some (.if_icmp .ge 18, 53) := by decide +kernel
theorem at_117_38 : am_at (am_m 117) 38 = some (.aload_n 0, 0) := by decide +kernel
theorem at_117_39 : am_at (am_m 117) 39 = some (.iload_n 3, 0) := by decide +kernel
theorem at_117_40 : am_at (am_m 117) 40 = some (.aload_n 0, 0) := by decide +kernel
theorem at_117_41 : am_at (am_m 117) 41 = some (.getfield 24, 1540) := by decide +kernel
theorem at_117_44 : am_at (am_m 117) 44 = some (.iload_n 1, 0) := by decide +kernel
theorem at_117_45 : am_at (am_m 117) 45 = some (.iconst 1, 0) := by decide +kernel
theorem at_117_46 : am_at (am_m 117) 46 = some (.invokevirtual 101, 54) := by decide +kernel
theorem at_117_49 : am_at (am_m 117) 49 = some (.invokevirtual 104, 119) := by decide +kernel
theorem at_117_52 : am_at (am_m 117) 52 = some (.ireturn, 0) := by decide +kernel
theorem at_117_53 : am_at (am_m 117) 53 = some (.aload_n 0, 0) := by decide +kernel
theorem at_117_54 : am_at (am_m 117) 54 = some (.iload_n 1, 0) := by decide +kernel
theorem at_117_55 : am_at (am_m 117) 55 = some (.iconst 1, 0) := by decide +kernel
theorem at_117_56 : am_at (am_m 117) 56 = some (.iadd, 0) := by decide +kernel
theorem at_117_57 : am_at (am_m 117) 57 = some (.iload_n 2, 0) := by decide +kernel
theorem at_117_58 : am_at (am_m 117) 58 = some (.iconst 1, 0) := by decide +kernel
theorem at_117_59 : am_at (am_m 117) 59 = some (.iadd, 0) := by decide +kernel
theorem at_117_60 : am_at (am_m 117) 60 = some (.invokevirtual 84, 117) := by decide +kernel
theorem at_117_63 : am_at (am_m 117) 63 = some (.istore 4, 0) := by decide +kernel
theorem at_117_65 : am_at (am_m 117) 65 = some (.aload_n 0, 0) := by decide +kernel
theorem at_117_66 : am_at (am_m 117) 66 = some (.getfield 31, 1541) := by decide +kernel
theorem at_117_69 : am_at (am_m 117) 69 = some (.iload_n 1, 0) := by decide +kernel
theorem at_117_70 : am_at (am_m 117) 70 = some (.iconst 1, 0) := by decide +kernel
theorem at_117_71 : am_at (am_m 117) 71 = some (.iadd, 0) := by decide +kernel
theorem at_117_72 : am_at (am_m 117) 72 = some (.invokevirtual 107, 100) := by decide +kernel
theorem at_117_75 : am_at (am_m 117) 75 = some (.istore 5, 0) := by decide +kernel
theorem at_117_77 : am_at (am_m 117) 77 = some (.aload_n 0, 0) := by decide +kernel
theorem at_117_78 : am_at (am_m 117) 78 = some (.getfield 15, 1537) := by decide +kernel
theorem at_117_81 : am_at (am_m 117) 81 = some (.ifCond .ne 25, 106) := by decide +kernel
theorem at_117_84 : am_at (am_m 117) 84 = some (.iload_n 3, 0) := by decide +kernel
theorem at_117_85 : am_at (am_m 117) 85 = some (.bipush 17, 0) := by decide +kernel
theorem at_117_87 : am_at (am_m 117) 87 = some (.if_icmp .ne 8, 95) := by decide +kernel
theorem at_117_90 : am_at (am_m 117) 90 = some (.iload 4, 0) := by decide +kernel
theorem at_117_92 : am_at (am_m 117) 92 = some (.ifCond .eq 14, 106) := by decide +kernel
theorem at_117_95 : am_at (am_m 117) 95 = some (.iload_n 3, 0) := by decide +kernel
theorem at_117_96 : am_at (am_m 117) 96 = some (.bipush 18, 0) := by decide +kernel
theorem at_117_98 : am_at (am_m 117) 98 = some (.if_icmp .ne 11, 109) := by decide +kernel
theorem at_117_101 : am_at (am_m 117) 101 = some (.iload 4, 0) := by decide +kernel
theorem at_117_103 : am_at (am_m 117) 103 = some (.ifCond .eq 6, 109) := by decide +kernel
theorem at_117_106 : am_at (am_m 117) 106 = some (.iload 4, 0) := by decide +kernel
theorem at_117_108 : am_at (am_m 117) 108 = some (.ireturn, 0) := by decide +kernel
theorem at_117_109 : am_at (am_m 117) 109 = some (.iload_n 3, 0) := by decide +kernel
theorem at_117_110 : am_at (am_m 117) 110 = some (.bipush 10, 0) := by decide +kernel
theorem at_117_112 : am_at (am_m 117) 112 = some (.if_icmp .ge 11, 123) := by decide +kernel
theorem at_117_115 : am_at (am_m 117) 115 = some (.aload_n 0, 0) := by decide +kernel
theorem at_117_116 : am_at (am_m 117) 116 = some (.iload_n 3, 0) := by decide +kernel
theorem at_117_117 : am_at (am_m 117) 117 = some (.iload 4, 0) := by decide +kernel
theorem at_117_119 : am_at (am_m 117) 119 = some (.invokevirtual 111, 120) := by decide +kernel
theorem at_117_122 : am_at (am_m 117) 122 = some (.ireturn, 0) := by decide +kernel
theorem at_117_123 : am_at (am_m 117) 123 = some (.iload_n 3, 0) := by decide +kernel
theorem at_117_124 : am_at (am_m 117) 124 = some (.bipush 19, 0) := by decide +kernel
theorem at_117_126 : am_at (am_m 117) 126 = some (.if_icmp .ne 13, 139) := by decide +kernel
theorem at_117_129 : am_at (am_m 117) 129 = some (.aload_n 0, 0) := by decide +kernel
theorem at_117_130 : am_at (am_m 117) 130 = some (.iload 4, 0) := by decide +kernel
theorem at_117_132 : am_at (am_m 117) 132 = some (.iload 5, 0) := by decide +kernel
theorem at_117_134 : am_at (am_m 117) 134 = some (.iload_n 2, 0) := by decide +kernel
theorem at_117_135 : am_at (am_m 117) 135 = some (.invokevirtual 114, 121) := by decide +kernel
theorem at_117_138 : am_at (am_m 117) 138 = some (.ireturn, 0) := by decide +kernel
theorem at_117_139 : am_at (am_m 117) 139 = some (.iload_n 3, 0) := by decide +kernel
theorem at_117_140 : am_at (am_m 117) 140 = some (.bipush 20, 0) := by decide +kernel
theorem at_117_142 : am_at (am_m 117) 142 = some (.if_icmp .ne 25, 167) := by decide +kernel
theorem at_117_145 : am_at (am_m 117) 145 = some (.iload 4, 0) := by decide +kernel
theorem at_117_147 : am_at (am_m 117) 147 = some (.ifCond .ne 20, 167) := by decide +kernel
theorem at_117_150 : am_at (am_m 117) 150 = some (.aload_n 0, 0) := by decide +kernel
theorem at_117_151 : am_at (am_m 117) 151 = some (.aload_n 0, 0) := by decide +kernel
theorem at_117_152 : am_at (am_m 117) 152 = some (.getfield 31, 1541) := by decide +kernel
theorem at_117_155 : am_at (am_m 117) 155 = some (.iload 5, 0) := by decide +kernel
theorem at_117_157 : am_at (am_m 117) 157 = some (.invokevirtual 107, 100) := by decide +kernel
theorem at_117_160 : am_at (am_m 117) 160 = some (.iload_n 2, 0) := by decide +kernel
theorem at_117_161 : am_at (am_m 117) 161 = some (.iconst 1, 0) := by decide +kernel
theorem at_117_162 : am_at (am_m 117) 162 = some (.iadd, 0) := by decide +kernel
theorem at_117_163 : am_at (am_m 117) 163 = some (.invokevirtual 84, 117) := by decide +kernel
theorem at_117_166 : am_at (am_m 117) 166 = some (.ireturn, 0) := by decide +kernel
theorem at_117_167 : am_at (am_m 117) 167 = some (.aload_n 0, 0) := by decide +kernel
theorem at_117_168 : am_at (am_m 117) 168 = some (.iload 5, 0) := by decide +kernel
theorem at_117_170 : am_at (am_m 117) 170 = some (.iload_n 2, 0) := by decide +kernel
theorem at_117_171 : am_at (am_m 117) 171 = some (.iconst 1, 0) := by decide +kernel
theorem at_117_172 : am_at (am_m 117) 172 = some (.iadd, 0) := by decide +kernel
theorem at_117_173 : am_at (am_m 117) 173 = some (.invokevirtual 84, 117) := by decide +kernel
theorem at_117_176 : am_at (am_m 117) 176 = some (.istore 6, 0) := by decide +kernel
theorem at_117_178 : am_at (am_m 117) 178 = some (.aload_n 0, 0) := by decide +kernel
theorem at_117_179 : am_at (am_m 117) 179 = some (.getfield 15, 1537) := by decide +kernel
theorem at_117_182 : am_at (am_m 117) 182 = some (.ifCond .ne 21, 203) := by decide +kernel
theorem at_117_185 : am_at (am_m 117) 185 = some (.iload_n 3, 0) := by decide +kernel
theorem at_117_186 : am_at (am_m 117) 186 = some (.bipush 17, 0) := by decide +kernel
theorem at_117_188 : am_at (am_m 117) 188 = some (.if_icmp .eq 15, 203) := by decide +kernel
theorem at_117_191 : am_at (am_m 117) 191 = some (.iload_n 3, 0) := by decide +kernel
theorem at_117_192 : am_at (am_m 117) 192 = some (.bipush 18, 0) := by decide +kernel
theorem at_117_194 : am_at (am_m 117) 194 = some (.if_icmp .eq 9, 203) := by decide +kernel
theorem at_117_197 : am_at (am_m 117) 197 = some (.iload_n 3, 0) := by decide +kernel
theorem at_117_198 : am_at (am_m 117) 198 = some (.bipush 20, 0) := by decide +kernel
theorem at_117_200 : am_at (am_m 117) 200 = some (.if_icmp .ne 8, 208) := by decide +kernel
theorem at_117_203 : am_at (am_m 117) 203 = some (.iload 6, 0) := by decide +kernel
theorem at_117_205 : am_at (am_m 117) 205 = some (.goto 12, 217) := by decide +kernel
theorem at_117_208 : am_at (am_m 117) 208 = some (.aload_n 0, 0) := by decide +kernel
theorem at_117_209 : am_at (am_m 117) 209 = some (.iload_n 3, 0) := by decide +kernel
theorem at_117_210 : am_at (am_m 117) 210 = some (.iload 4, 0) := by decide +kernel
theorem at_117_212 : am_at (am_m 117) 212 = some (.iload 6, 0) := by decide +kernel
theorem at_117_214 : am_at (am_m 117) 214 = some (.invokevirtual 118, 122) := by decide +kernel
theorem at_117_217 : am_at (am_m 117) 217 = some (.ireturn, 0) := by decide +kernel
theorem at_118_0 : am_at (am_m 118) 0 = some (.aload_n 0, 0) := by decide +kernel
theorem at_118_1 : am_at (am_m 118) 1 = some (.getfield 18, 1538) := by decide +kernel
theorem at_118_4 : am_at (am_m 118) 4 = some (.aload_n 0, 0) := by decide +kernel
theorem at_118_5 : am_at (am_m 118) 5 = some (.getfield 9, 1536) := by decide +kernel
theorem at_118_8 : am_at (am_m 118) 8 = some (.if_icmp .lt 10, 18) := by decide +kernel
theorem at_118_11 : am_at (am_m 118) 11 = some (.aload_n 0, 0) := by decide +kernel
theorem at_118_12 : am_at (am_m 118) 12 = some (.iconst 3, 0) := by decide +kernel
theorem at_118_13 : am_at (am_m 118) 13 = some (.putfield 15, 1537) := by decide +kernel
theorem at_118_16 : am_at (am_m 118) 16 = some (.iconst 0, 0) := by decide +kernel
theorem at_118_17 : am_at (am_m 118) 17 = some (.ireturn, 0) := by decide +kernel
theorem at_118_18 : am_at (am_m 118) 18 = some (.aload_n 0, 0) := by decide +kernel
theorem at_118_19 : am_at (am_m 118) 19 = some (.dup, 0) := by decide +kernel
theorem at_118_20 : am_at (am_m 118) 20 = some (.getfield 18, 1538) := by decide +kernel
theorem at_118_23 : am_at (am_m 118) 23 = some (.iconst 1, 0) := by decide +kernel
theorem at_118_24 : am_at (am_m 118) 24 = some (.iadd, 0) := by decide +kernel
theorem at_118_25 : am_at (am_m 118) 25 = some (.putfield 18, 1538) := by decide +kernel
theorem at_118_28 : am_at (am_m 118) 28 = some (.iconst 1, 0) := by decide +kernel
theorem at_118_29 : am_at (am_m 118) 29 = some (.ireturn, 0) := by decide +kernel
theorem at_119_0 : am_at (am_m 119) 0 = some (.iload_n 1, 0) := by decide +kernel
theorem at_119_1 : am_at (am_m 119) 1 = some (.tableswitch 69 1 6 #[39, 44, 49, 54, 59, 64], 0) := by decide +kernel
theorem at_119_40 : am_at (am_m 119) 40 = some (.aload_n 0, 0) := by decide +kernel
theorem at_119_41 : am_at (am_m 119) 41 = some (.getfield 35, 1542) := by decide +kernel
theorem at_119_44 : am_at (am_m 119) 44 = some (.ireturn, 0) := by decide +kernel
theorem at_119_45 : am_at (am_m 119) 45 = some (.aload_n 0, 0) := by decide +kernel
theorem at_119_46 : am_at (am_m 119) 46 = some (.getfield 38, 1543) := by decide +kernel
theorem at_119_49 : am_at (am_m 119) 49 = some (.ireturn, 0) := by decide +kernel
theorem at_119_50 : am_at (am_m 119) 50 = some (.aload_n 0, 0) := by decide +kernel
theorem at_119_51 : am_at (am_m 119) 51 = some (.getfield 41, 1544) := by decide +kernel
theorem at_119_54 : am_at (am_m 119) 54 = some (.ireturn, 0) := by decide +kernel
theorem at_119_55 : am_at (am_m 119) 55 = some (.aload_n 0, 0) := by decide +kernel
theorem at_119_56 : am_at (am_m 119) 56 = some (.getfield 48, 1546) := by decide +kernel
theorem at_119_59 : am_at (am_m 119) 59 = some (.ireturn, 0) := by decide +kernel
theorem at_119_60 : am_at (am_m 119) 60 = some (.aload_n 0, 0) := by decide +kernel
theorem at_119_61 : am_at (am_m 119) 61 = some (.getfield 51, 1547) := by decide +kernel
theorem at_119_64 : am_at (am_m 119) 64 = some (.ireturn, 0) := by decide +kernel
theorem at_119_65 : am_at (am_m 119) 65 = some (.aload_n 0, 0) := by decide +kernel
theorem at_119_66 : am_at (am_m 119) 66 = some (.getfield 54, 1548) := by decide +kernel
theorem at_119_69 : am_at (am_m 119) 69 = some (.ireturn, 0) := by decide +kernel
theorem at_119_70 : am_at (am_m 119) 70 = some (.iload_n 2, 0) := by decide +kernel
theorem at_119_71 : am_at (am_m 119) 71 = some (.ireturn, 0) := by decide +kernel
theorem at_120_0 : am_at (am_m 120) 0 = some (.iload_n 1, 0) := by decide +kernel
theorem at_120_1 : am_at (am_m 120) 1 = some (.bipush 9, 0) := by decide +kernel
theorem at_120_3 : am_at (am_m 120) 3 = some (.if_icmp .ne 7, 10) := by decide +kernel
theorem at_120_6 : am_at (am_m 120) 6 = some (.iconst 1, 0) := by decide +kernel
theorem at_120_7 : am_at (am_m 120) 7 = some (.iload_n 2, 0) := by decide +kernel
theorem at_120_8 : am_at (am_m 120) 8 = some (.isub, 0) := by decide +kernel
theorem at_120_9 : am_at (am_m 120) 9 = some (.ireturn, 0) := by decide +kernel
theorem at_120_10 : am_at (am_m 120) 10 = some (.iload_n 1, 0) := by decide +kernel
theorem at_120_11 : am_at (am_m 120) 11 = some (.bipush 7, 0) := by decide +kernel
theorem at_120_13 : am_at (am_m 120) 13 = some (.if_icmp .ne 6, 19) := by decide +kernel
theorem at_120_16 : am_at (am_m 120) 16 = some (.iload_n 2, 0) := by decide +kernel
theorem at_120_17 : am_at (am_m 120) 17 = some (.ineg, 0) := by decide +kernel
theorem at_120_18 : am_at (am_m 120) 18 = some (.ireturn, 0) := by decide +kernel
theorem at_120_19 : am_at (am_m 120) 19 = some (.iload_n 2, 0) := by decide +kernel
theorem at_120_20 : am_at (am_m 120) 20 = some (.ifCond .lt 11, 31) := by decide +kernel
theorem at_120_23 : am_at (am_m 120) 23 = some (.iload_n 2, 0) := by decide +kernel
theorem at_120_24 : am_at (am_m 120) 24 = some (.aload_n 0, 0) := by decide +kernel
theorem at_120_25 : am_at (am_m 120) 25 = some (.getfield 48, 1546) := by decide +kernel
theorem at_120_28 : am_at (am_m 120) 28 = some (.if_icmp .lt 10, 38) := by decide +kernel
theorem at_120_31 : am_at (am_m 120) 31 = some (.aload_n 0, 0) := by decide +kernel
theorem at_120_32 : am_at (am_m 120) 32 = some (.iconst 2, 0) := by decide +kernel
theorem at_120_33 : am_at (am_m 120) 33 = some (.putfield 15, 1537) := by decide +kernel
theorem at_120_36 : am_at (am_m 120) 36 = some (.iconst 0, 0) := by decide +kernel
theorem at_120_37 : am_at (am_m 120) 37 = some (.ireturn, 0) := by decide +kernel
theorem at_120_38 : am_at (am_m 120) 38 = some (.aload_n 0, 0) := by decide +kernel
theorem at_120_39 : am_at (am_m 120) 39 = some (.getfield 44, 1545) := by decide +kernel
theorem at_120_42 : am_at (am_m 120) 42 = some (.iload_n 2, 0) := by decide +kernel
theorem at_120_43 : am_at (am_m 120) 43 = some (.iaload, 0) := by decide +kernel
theorem at_120_44 : am_at (am_m 120) 44 = some (.ireturn, 0) := by decide +kernel
theorem at_121_0 : am_at (am_m 121) 0 = some (.iload_n 1, 0) := by decide +kernel
theorem at_121_1 : am_at (am_m 121) 1 = some (.istore 4, 0) := by decide +kernel
theorem at_121_3 : am_at (am_m 121) 3 = some (.iconst 0, 0) := by decide +kernel
theorem at_121_4 : am_at (am_m 121) 4 = some (.istore 5, 0) := by decide +kernel
theorem at_121_6 : am_at (am_m 121) 6 = some (.iload 5, 0) := by decide +kernel
theorem at_121_8 : am_at (am_m 121) 8 = some (.aload_n 0, 0) := by decide +kernel
theorem at_121_9 : am_at (am_m 121) 9 = some (.getfield 48, 1546) := by decide +kernel
theorem at_121_12 : am_at (am_m 121) 12 = some (.if_icmp .ge 43, 55) := by decide +kernel
theorem at_121_15 : am_at (am_m 121) 15 = some (.aload_n 0, 0) := by decide +kernel
theorem at_121_16 : am_at (am_m 121) 16 = some (.getfield 15, 1537) := by decide +kernel
theorem at_121_19 : am_at (am_m 121) 19 = some (.ifCond .ne 36, 55) := by decide +kernel
theorem at_121_22 : am_at (am_m 121) 22 = some (.aload_n 0, 0) := by decide +kernel
theorem at_121_23 : am_at (am_m 121) 23 = some (.iload 4, 0) := by decide +kernel
theorem at_121_25 : am_at (am_m 121) 25 = some (.putfield 51, 1547) := by decide +kernel
theorem at_121_28 : am_at (am_m 121) 28 = some (.aload_n 0, 0) := by decide +kernel
theorem at_121_29 : am_at (am_m 121) 29 = some (.aload_n 0, 0) := by decide +kernel
theorem at_121_30 : am_at (am_m 121) 30 = some (.getfield 44, 1545) := by decide +kernel
theorem at_121_33 : am_at (am_m 121) 33 = some (.iload 5, 0) := by decide +kernel
theorem at_121_35 : am_at (am_m 121) 35 = some (.iaload, 0) := by decide +kernel
theorem at_121_36 : am_at (am_m 121) 36 = some (.putfield 54, 1548) := by decide +kernel
theorem at_121_39 : am_at (am_m 121) 39 = some (.aload_n 0, 0) := by decide +kernel
theorem at_121_40 : am_at (am_m 121) 40 = some (.iload_n 2, 0) := by decide +kernel
theorem at_121_41 : am_at (am_m 121) 41 = some (.iload_n 3, 0) := by decide +kernel
theorem at_121_42 : am_at (am_m 121) 42 = some (.iconst 1, 0) := by decide +kernel
theorem at_121_43 : am_at (am_m 121) 43 = some (.iadd, 0) := by decide +kernel
theorem at_121_44 : am_at (am_m 121) 44 = some (.invokevirtual 84, 117) := by decide +kernel
theorem at_121_47 : am_at (am_m 121) 47 = some (.istore 4, 0) := by decide +kernel
theorem at_121_49 : am_at (am_m 121) 49 = some (.iinc 5 1, 0) := by decide +kernel
theorem at_121_52 : am_at (am_m 121) 52 = some (.goto (-46), 6) := by decide +kernel
theorem at_121_55 : am_at (am_m 121) 55 = some (.iload 4, 0) := by decide +kernel
theorem at_121_57 : am_at (am_m 121) 57 = some (.ireturn, 0) := by decide +kernel
theorem at_122_0 : am_at (am_m 122) 0 = some (.iload_n 1, 0) := by decide +kernel
theorem at_122_1 : am_at (am_m 122) 1 = some (.tableswitch 77 10 16 #[43, 47, 51, 77, 77, 55, 66], 0) := by decide +kernel
theorem at_122_44 : am_at (am_m 122) 44 = some (.iload_n 2, 0) := by decide +kernel
theorem at_122_45 : am_at (am_m 122) 45 = some (.iload_n 3, 0) := by decide +kernel
theorem at_122_46 : am_at (am_m 122) 46 = some (.iadd, 0) := by decide +kernel
theorem at_122_47 : am_at (am_m 122) 47 = some (.ireturn, 0) := by decide +kernel
theorem at_122_48 : am_at (am_m 122) 48 = some (.iload_n 2, 0) := by decide +kernel
theorem at_122_49 : am_at (am_m 122) 49 = some (.iload_n 3, 0) := by decide +kernel
theorem at_122_50 : am_at (am_m 122) 50 = some (.isub, 0) := by decide +kernel
theorem at_122_51 : am_at (am_m 122) 51 = some (.ireturn, 0) := by decide +kernel
theorem at_122_52 : am_at (am_m 122) 52 = some (.iload_n 2, 0) := by decide +kernel
theorem at_122_53 : am_at (am_m 122) 53 = some (.iload_n 3, 0) := by decide +kernel
theorem at_122_54 : am_at (am_m 122) 54 = some (.imul, 0) := by decide +kernel
theorem at_122_55 : am_at (am_m 122) 55 = some (.ireturn, 0) := by decide +kernel
theorem at_122_56 : am_at (am_m 122) 56 = some (.iload_n 2, 0) := by decide +kernel
theorem at_122_57 : am_at (am_m 122) 57 = some (.iload_n 3, 0) := by decide +kernel
theorem at_122_58 : am_at (am_m 122) 58 = some (.if_icmp .ge 7, 65) := by decide +kernel
theorem at_122_61 : am_at (am_m 122) 61 = some (.iconst 1, 0) := by decide +kernel
theorem at_122_62 : am_at (am_m 122) 62 = some (.goto 4, 66) := by decide +kernel
theorem at_122_65 : am_at (am_m 122) 65 = some (.iconst 0, 0) := by decide +kernel
theorem at_122_66 : am_at (am_m 122) 66 = some (.ireturn, 0) := by decide +kernel
theorem at_122_67 : am_at (am_m 122) 67 = some (.iload_n 2, 0) := by decide +kernel
theorem at_122_68 : am_at (am_m 122) 68 = some (.iload_n 3, 0) := by decide +kernel
theorem at_122_69 : am_at (am_m 122) 69 = some (.if_icmp .ne 7, 76) := by decide +kernel
theorem at_122_72 : am_at (am_m 122) 72 = some (.iconst 1, 0) := by decide +kernel
theorem at_122_73 : am_at (am_m 122) 73 = some (.goto 4, 77) := by decide +kernel
theorem at_122_76 : am_at (am_m 122) 76 = some (.iconst 0, 0) := by decide +kernel
theorem at_122_77 : am_at (am_m 122) 77 = some (.ireturn, 0) := by decide +kernel
theorem at_122_78 : am_at (am_m 122) 78 = some (.iload_n 3, 0) := by decide +kernel
theorem at_122_79 : am_at (am_m 122) 79 = some (.ifCond .ne 10, 89) := by decide +kernel
theorem at_122_82 : am_at (am_m 122) 82 = some (.aload_n 0, 0) := by decide +kernel
theorem at_122_83 : am_at (am_m 122) 83 = some (.iconst 1, 0) := by decide +kernel
theorem at_122_84 : am_at (am_m 122) 84 = some (.putfield 15, 1537) := by decide +kernel
theorem at_122_87 : am_at (am_m 122) 87 = some (.iconst 0, 0) := by decide +kernel
theorem at_122_88 : am_at (am_m 122) 88 = some (.ireturn, 0) := by decide +kernel
theorem at_122_89 : am_at (am_m 122) 89 = some (.iload_n 1, 0) := by decide +kernel
theorem at_122_90 : am_at (am_m 122) 90 = some (.bipush 13, 0) := by decide +kernel
theorem at_122_92 : am_at (am_m 122) 92 = some (.if_icmp .ne 9, 101) := by decide +kernel
theorem at_122_95 : am_at (am_m 122) 95 = some (.iload_n 2, 0) := by decide +kernel
theorem at_122_96 : am_at (am_m 122) 96 = some (.iload_n 3, 0) := by decide +kernel
theorem at_122_97 : am_at (am_m 122) 97 = some (.idiv, 0) := by decide +kernel
theorem at_122_98 : am_at (am_m 122) 98 = some (.goto 6, 104) := by decide +kernel
theorem at_122_101 : am_at (am_m 122) 101 = some (.iload_n 2, 0) := by decide +kernel
theorem at_122_102 : am_at (am_m 122) 102 = some (.iload_n 3, 0) := by decide +kernel
theorem at_122_103 : am_at (am_m 122) 103 = some (.irem, 0) := by decide +kernel
theorem at_122_104 : am_at (am_m 122) 104 = some (.ireturn, 0) := by decide +kernel
theorem at_123_0 : am_at (am_m 123) 0 = some (.aload_n 0, 0) := by decide +kernel
theorem at_123_1 : am_at (am_m 123) 1 = some (.iconst 0, 0) := by decide +kernel
theorem at_123_2 : am_at (am_m 123) 2 = some (.putfield 60, 1550) := by decide +kernel
theorem at_123_5 : am_at (am_m 123) 5 = some (.iconst 0, 0) := by decide +kernel
theorem at_123_6 : am_at (am_m 123) 6 = some (.istore_n 1, 0) := by decide +kernel
theorem at_123_7 : am_at (am_m 123) 7 = some (.iconst 0, 0) := by decide +kernel
theorem at_123_8 : am_at (am_m 123) 8 = some (.istore_n 2, 0) := by decide +kernel
theorem at_123_9 : am_at (am_m 123) 9 = some (.iload_n 2, 0) := by decide +kernel
theorem at_123_10 : am_at (am_m 123) 10 = some (.bipush 60, 0) := by decide +kernel
theorem at_123_12 : am_at (am_m 123) 12 = some (.if_icmp .ge 336, 348) := by decide +kernel
theorem at_123_15 : am_at (am_m 123) 15 = some (.iload_n 1, 0) := by decide +kernel
theorem at_123_16 : am_at (am_m 123) 16 = some (.aload_n 0, 0) := by decide +kernel
theorem at_123_17 : am_at (am_m 123) 17 = some (.getfield 24, 1540) := by decide +kernel
theorem at_123_20 : am_at (am_m 123) 20 = some (.getfield 121, 771) := by decide +kernel
theorem at_123_23 : am_at (am_m 123) 23 = some (.if_icmp .ge 325, 348) := by decide +kernel
theorem at_123_26 : am_at (am_m 123) 26 = some (.aload_n 0, 0) := by decide +kernel
theorem at_123_27 : am_at (am_m 123) 27 = some (.getfield 15, 1537) := by decide +kernel
theorem at_123_30 : am_at (am_m 123) 30 = some (.ifCond .ne 318, 348) := by decide +kernel
theorem at_123_33 : am_at (am_m 123) 33 = some (.aload_n 0, 0) := by decide +kernel
theorem at_123_34 : am_at (am_m 123) 34 = some (.getfield 24, 1540) := by decide +kernel
theorem at_123_37 : am_at (am_m 123) 37 = some (.iload_n 1, 0) := by decide +kernel
theorem at_123_38 : am_at (am_m 123) 38 = some (.iconst 0, 0) := by decide +kernel
theorem at_123_39 : am_at (am_m 123) 39 = some (.invokevirtual 101, 54) := by decide +kernel
theorem at_123_42 : am_at (am_m 123) 42 = some (.istore_n 3, 0) := by decide +kernel
theorem at_123_43 : am_at (am_m 123) 43 = some (.aload_n 0, 0) := by decide +kernel
theorem at_123_44 : am_at (am_m 123) 44 = some (.getfield 24, 1540) := by decide +kernel
theorem at_123_47 : am_at (am_m 123) 47 = some (.iload_n 1, 0) := by decide +kernel
theorem at_123_48 : am_at (am_m 123) 48 = some (.iconst 1, 0) := by decide +kernel
theorem at_123_49 : am_at (am_m 123) 49 = some (.invokevirtual 101, 54) := by decide +kernel
theorem at_123_52 : am_at (am_m 123) 52 = some (.istore 4, 0) := by decide +kernel
theorem at_123_54 : am_at (am_m 123) 54 = some (.aload_n 0, 0) := by decide +kernel
theorem at_123_55 : am_at (am_m 123) 55 = some (.getfield 60, 1550) := by decide +kernel
theorem at_123_58 : am_at (am_m 123) 58 = some (.iload_n 3, 0) := by decide +kernel
theorem at_123_59 : am_at (am_m 123) 59 = some (.invokestatic 124, 56) := by decide +kernel
theorem at_123_62 : am_at (am_m 123) 62 = some (.if_icmp .lt 24, 86) := by decide +kernel
theorem at_123_65 : am_at (am_m 123) 65 = some (.aload_n 0, 0) := by decide +kernel
theorem at_123_66 : am_at (am_m 123) 66 = some (.getfield 60, 1550) := by decide +kernel
theorem at_123_69 : am_at (am_m 123) 69 = some (.iload_n 3, 0) := by decide +kernel
theorem at_123_70 : am_at (am_m 123) 70 = some (.invokestatic 127, 55) := by decide +kernel
theorem at_123_73 : am_at (am_m 123) 73 = some (.iadd, 0) := by decide +kernel
theorem at_123_74 : am_at (am_m 123) 74 = some (.bipush 8, 0) := by decide +kernel
theorem at_123_76 : am_at (am_m 123) 76 = some (.if_icmp .gt 10, 86) := by decide +kernel
theorem at_123_79 : am_at (am_m 123) 79 = some (.aload_n 0, 0) := by decide +kernel
theorem at_123_80 : am_at (am_m 123) 80 = some (.invokevirtual 97, 118) := by decide +kernel
theorem at_123_83 : am_at (am_m 123) 83 = some (.ifCond .ne 5, 88) := by decide +kernel
theorem at_123_86 : am_at (am_m 123) 86 = some (.iconst 0, 0) := by decide +kernel
theorem at_123_87 : am_at (am_m 123) 87 = some (.ireturn, 0) := by decide +kernel
theorem at_123_88 : am_at (am_m 123) 88 = some (.iload_n 3, 0) := by decide +kernel
theorem at_123_89 : am_at (am_m 123) 89 = some (.iconst 4, 0) := by decide +kernel
theorem at_123_90 : am_at (am_m 123) 90 = some (.if_icmp .gt 22, 112) := by decide +kernel
theorem at_123_93 : am_at (am_m 123) 93 = some (.aload_n 0, 0) := by decide +kernel
theorem at_123_94 : am_at (am_m 123) 94 = some (.getfield 57, 1549) := by decide +kernel
theorem at_123_97 : am_at (am_m 123) 97 = some (.aload_n 0, 0) := by decide +kernel
theorem at_123_98 : am_at (am_m 123) 98 = some (.getfield 60, 1550) := by decide +kernel
theorem at_123_101 : am_at (am_m 123) 101 = some (.aload_n 0, 0) := by decide +kernel
theorem at_123_102 : am_at (am_m 123) 102 = some (.iload_n 3, 0) := by decide +kernel
theorem at_123_103 : am_at (am_m 123) 103 = some (.iload 4, 0) := by decide +kernel
theorem at_123_105 : am_at (am_m 123) 105 = some (.invokevirtual 104, 119) := by decide +kernel
theorem at_123_108 : am_at (am_m 123) 108 = some (.iastore, 0) := by decide +kernel
theorem at_123_109 : am_at (am_m 123) 109 = some (.goto 173, 282) := by decide +kernel
theorem at_123_112 : am_at (am_m 123) 112 = some (.iload_n 3, 0) := by decide +kernel
theorem at_123_113 : am_at (am_m 123) 113 = some (.bipush 6, 0) := by decide +kernel
theorem at_123_115 : am_at (am_m 123) 115 = some (.if_icmp .gt 35, 150) := by decide +kernel
theorem at_123_118 : am_at (am_m 123) 118 = some (.aload_n 0, 0) := by decide +kernel
theorem at_123_119 : am_at (am_m 123) 119 = some (.getfield 57, 1549) := by decide +kernel
theorem at_123_122 : am_at (am_m 123) 122 = some (.aload_n 0, 0) := by decide +kernel
theorem at_123_123 : am_at (am_m 123) 123 = some (.getfield 60, 1550) := by decide +kernel
theorem at_123_126 : am_at (am_m 123) 126 = some (.iconst 1, 0) := by decide +kernel
theorem at_123_127 : am_at (am_m 123) 127 = some (.isub, 0) := by decide +kernel
theorem at_123_128 : am_at (am_m 123) 128 = some (.aload_n 0, 0) := by decide +kernel
theorem at_123_129 : am_at (am_m 123) 129 = some (.iload_n 3, 0) := by decide +kernel
theorem at_123_130 : am_at (am_m 123) 130 = some (.iconst 2, 0) := by decide +kernel
theorem at_123_131 : am_at (am_m 123) 131 = some (.iadd, 0) := by decide +kernel
theorem at_123_132 : am_at (am_m 123) 132 = some (.aload_n 0, 0) := by decide +kernel
theorem at_123_133 : am_at (am_m 123) 133 = some (.getfield 57, 1549) := by decide +kernel
theorem at_123_136 : am_at (am_m 123) 136 = some (.aload_n 0, 0) := by decide +kernel
theorem at_123_137 : am_at (am_m 123) 137 = some (.getfield 60, 1550) := by decide +kernel
theorem at_123_140 : am_at (am_m 123) 140 = some (.iconst 1, 0) := by decide +kernel
theorem at_123_141 : am_at (am_m 123) 141 = some (.isub, 0) := by decide +kernel
theorem at_123_142 : am_at (am_m 123) 142 = some (.iaload, 0) := by decide +kernel
theorem at_123_143 : am_at (am_m 123) 143 = some (.invokevirtual 111, 120) := by decide +kernel
theorem at_123_146 : am_at (am_m 123) 146 = some (.iastore, 0) := by decide +kernel
theorem at_123_147 : am_at (am_m 123) 147 = some (.goto 135, 282) := by decide +kernel
theorem at_123_150 : am_at (am_m 123) 150 = some (.iload_n 3, 0) := by decide +kernel
theorem at_123_151 : am_at (am_m 123) 151 = some (.bipush 13, 0) := by decide +kernel
theorem at_123_153 : am_at (am_m 123) 153 = some (.if_icmp .gt 46, 199) := by decide +kernel
theorem at_123_156 : am_at (am_m 123) 156 = some (.aload_n 0, 0) := by decide +kernel
theorem at_123_157 : am_at (am_m 123) 157 = some (.getfield 57, 1549) := by decide +kernel
theorem at_123_160 : am_at (am_m 123) 160 = some (.aload_n 0, 0) := by decide +kernel
theorem at_123_161 : am_at (am_m 123) 161 = some (.getfield 60, 1550) := by decide +kernel
theorem at_123_164 : am_at (am_m 123) 164 = some (.iconst 2, 0) := by decide +kernel
theorem at_123_165 : am_at (am_m 123) 165 = some (.isub, 0) := by decide +kernel
theorem at_123_166 : am_at (am_m 123) 166 = some (.aload_n 0, 0) := by decide +kernel
theorem at_123_167 : am_at (am_m 123) 167 = some (.iload_n 3, 0) := by decide +kernel
theorem at_123_168 : am_at (am_m 123) 168 = some (.iconst 3, 0) := by decide +kernel
theorem at_123_169 : am_at (am_m 123) 169 = some (.iadd, 0) := by decide +kernel
theorem at_123_170 : am_at (am_m 123) 170 = some (.aload_n 0, 0) := by decide +kernel
theorem at_123_171 : am_at (am_m 123) 171 = some (.getfield 57, 1549) := by decide +kernel
theorem at_123_174 : am_at (am_m 123) 174 = some (.aload_n 0, 0) := by decide +kernel
theorem at_123_175 : am_at (am_m 123) 175 = some (.getfield 60, 1550) := by decide +kernel
theorem at_123_178 : am_at (am_m 123) 178 = some (.iconst 2, 0) := by decide +kernel
theorem at_123_179 : am_at (am_m 123) 179 = some (.isub, 0) := by decide +kernel
theorem at_123_180 : am_at (am_m 123) 180 = some (.iaload, 0) := by decide +kernel
theorem at_123_181 : am_at (am_m 123) 181 = some (.aload_n 0, 0) := by decide +kernel
theorem at_123_182 : am_at (am_m 123) 182 = some (.getfield 57, 1549) := by decide +kernel
theorem at_123_185 : am_at (am_m 123) 185 = some (.aload_n 0, 0) := by decide +kernel
theorem at_123_186 : am_at (am_m 123) 186 = some (.getfield 60, 1550) := by decide +kernel
theorem at_123_189 : am_at (am_m 123) 189 = some (.iconst 1, 0) := by decide +kernel
theorem at_123_190 : am_at (am_m 123) 190 = some (.isub, 0) := by decide +kernel
theorem at_123_191 : am_at (am_m 123) 191 = some (.iaload, 0) := by decide +kernel
theorem at_123_192 : am_at (am_m 123) 192 = some (.invokevirtual 118, 122) := by decide +kernel
theorem at_123_195 : am_at (am_m 123) 195 = some (.iastore, 0) := by decide +kernel
theorem at_123_196 : am_at (am_m 123) 196 = some (.goto 86, 282) := by decide +kernel
theorem at_123_199 : am_at (am_m 123) 199 = some (.iload_n 3, 0) := by decide +kernel
theorem at_123_200 : am_at (am_m 123) 200 = some (.bipush 14, 0) := by decide +kernel
theorem at_123_202 : am_at (am_m 123) 202 = some (.if_icmp .ne 26, 228) := by decide +kernel
theorem at_123_205 : am_at (am_m 123) 205 = some (.aload_n 0, 0) := by decide +kernel
theorem at_123_206 : am_at (am_m 123) 206 = some (.getfield 57, 1549) := by decide +kernel
theorem at_123_209 : am_at (am_m 123) 209 = some (.aload_n 0, 0) := by decide +kernel
theorem at_123_210 : am_at (am_m 123) 210 = some (.getfield 60, 1550) := by decide +kernel
theorem at_123_213 : am_at (am_m 123) 213 = some (.aload_n 0, 0) := by decide +kernel
theorem at_123_214 : am_at (am_m 123) 214 = some (.getfield 57, 1549) := by decide +kernel
theorem at_123_217 : am_at (am_m 123) 217 = some (.aload_n 0, 0) := by decide +kernel
theorem at_123_218 : am_at (am_m 123) 218 = some (.getfield 60, 1550) := by decide +kernel
theorem at_123_221 : am_at (am_m 123) 221 = some (.iconst 1, 0) := by decide +kernel
theorem at_123_222 : am_at (am_m 123) 222 = some (.isub, 0) := by decide +kernel
theorem at_123_223 : am_at (am_m 123) 223 = some (.iaload, 0) := by decide +kernel
theorem at_123_224 : am_at (am_m 123) 224 = some (.iastore, 0) := by decide +kernel
theorem at_123_225 : am_at (am_m 123) 225 = some (.goto 57, 282) := by decide +kernel
theorem at_123_228 : am_at (am_m 123) 228 = some (.iload_n 3, 0) := by decide +kernel
theorem at_123_229 : am_at (am_m 123) 229 = some (.bipush 15, 0) := by decide +kernel
theorem at_123_231 : am_at (am_m 123) 231 = some (.if_icmp .ne 51, 282) := by decide +kernel
theorem at_123_234 : am_at (am_m 123) 234 = some (.aload_n 0, 0) := by decide +kernel
theorem at_123_235 : am_at (am_m 123) 235 = some (.getfield 57, 1549) := by decide +kernel
theorem at_123_238 : am_at (am_m 123) 238 = some (.aload_n 0, 0) := by decide +kernel
theorem at_123_239 : am_at (am_m 123) 239 = some (.getfield 60, 1550) := by decide +kernel
theorem at_123_242 : am_at (am_m 123) 242 = some (.iconst 1, 0) := by decide +kernel
theorem at_123_243 : am_at (am_m 123) 243 = some (.isub, 0) := by decide +kernel
theorem at_123_244 : am_at (am_m 123) 244 = some (.iaload, 0) := by decide +kernel
theorem at_123_245 : am_at (am_m 123) 245 = some (.istore 5, 0) := by decide +kernel
theorem at_123_247 : am_at (am_m 123) 247 = some (.aload_n 0, 0) := by decide +kernel
theorem at_123_248 : am_at (am_m 123) 248 = some (.getfield 57, 1549) := by decide +kernel
theorem at_123_251 : am_at (am_m 123) 251 = some (.aload_n 0, 0) := by decide +kernel
theorem at_123_252 : am_at (am_m 123) 252 = some (.getfield 60, 1550) := by decide +kernel
theorem at_123_255 : am_at (am_m 123) 255 = some (.iconst 1, 0) := by decide +kernel
theorem at_123_256 : am_at (am_m 123) 256 = some (.isub, 0) := by decide +kernel
theorem at_123_257 : am_at (am_m 123) 257 = some (.aload_n 0, 0) := by decide +kernel
theorem at_123_258 : am_at (am_m 123) 258 = some (.getfield 57, 1549) := by decide +kernel
theorem at_123_261 : am_at (am_m 123) 261 = some (.aload_n 0, 0) := by decide +kernel
theorem at_123_262 : am_at (am_m 123) 262 = some (.getfield 60, 1550) := by decide +kernel
theorem at_123_265 : am_at (am_m 123) 265 = some (.iconst 2, 0) := by decide +kernel
theorem at_123_266 : am_at (am_m 123) 266 = some (.isub, 0) := by decide +kernel
theorem at_123_267 : am_at (am_m 123) 267 = some (.iaload, 0) := by decide +kernel
theorem at_123_268 : am_at (am_m 123) 268 = some (.iastore, 0) := by decide +kernel
theorem at_123_269 : am_at (am_m 123) 269 = some (.aload_n 0, 0) := by decide +kernel
theorem at_123_270 : am_at (am_m 123) 270 = some (.getfield 57, 1549) := by decide +kernel
theorem at_123_273 : am_at (am_m 123) 273 = some (.aload_n 0, 0) := by decide +kernel
theorem at_123_274 : am_at (am_m 123) 274 = some (.getfield 60, 1550) := by decide +kernel
theorem at_123_277 : am_at (am_m 123) 277 = some (.iconst 2, 0) := by decide +kernel
theorem at_123_278 : am_at (am_m 123) 278 = some (.isub, 0) := by decide +kernel
theorem at_123_279 : am_at (am_m 123) 279 = some (.iload 5, 0) := by decide +kernel
theorem at_123_281 : am_at (am_m 123) 281 = some (.iastore, 0) := by decide +kernel
theorem at_123_282 : am_at (am_m 123) 282 = some (.aload_n 0, 0) := by decide +kernel
theorem at_123_283 : am_at (am_m 123) 283 = some (.dup, 0) := by decide +kernel
theorem at_123_284 : am_at (am_m 123) 284 = some (.getfield 60, 1550) := by decide +kernel
theorem at_123_287 : am_at (am_m 123) 287 = some (.iload_n 3, 0) := by decide +kernel
theorem at_123_288 : am_at (am_m 123) 288 = some (.invokestatic 127, 55) := by decide +kernel
theorem at_123_291 : am_at (am_m 123) 291 = some (.iadd, 0) := by decide +kernel
theorem at_123_292 : am_at (am_m 123) 292 = some (.putfield 60, 1550) := by decide +kernel
theorem at_123_295 : am_at (am_m 123) 295 = some (.iload_n 3, 0) := by decide +kernel
theorem at_123_296 : am_at (am_m 123) 296 = some (.bipush 17, 0) := by decide +kernel
theorem at_123_298 : am_at (am_m 123) 298 = some (.if_icmp .eq 21, 319) := by decide +kernel
theorem at_123_301 : am_at (am_m 123) 301 = some (.iload_n 3, 0) := by decide +kernel
theorem at_123_302 : am_at (am_m 123) 302 = some (.bipush 18, 0) := by decide +kernel
theorem at_123_304 : am_at (am_m 123) 304 = some (.if_icmp .ne 19, 323) := by decide +kernel
theorem at_123_307 : am_at (am_m 123) 307 = some (.aload_n 0, 0) := by decide +kernel
theorem at_123_308 : am_at (am_m 123) 308 = some (.getfield 57, 1549) := by decide +kernel
theorem at_123_311 : am_at (am_m 123) 311 = some (.aload_n 0, 0) := by decide +kernel
theorem at_123_312 : am_at (am_m 123) 312 = some (.getfield 60, 1550) := by decide +kernel
theorem at_123_315 : am_at (am_m 123) 315 = some (.iaload, 0) := by decide +kernel
theorem at_123_316 : am_at (am_m 123) 316 = some (.ifCond .ne 7, 323) := by decide +kernel
theorem at_123_319 : am_at (am_m 123) 319 = some (.iconst 1, 0) := by decide +kernel
theorem at_123_320 : am_at (am_m 123) 320 = some (.goto 4, 324) := by decide +kernel
theorem at_123_323 : am_at (am_m 123) 323 = some (.iconst 0, 0) := by decide +kernel
theorem at_123_324 : am_at (am_m 123) 324 = some (.istore 5, 0) := by decide +kernel
theorem at_123_326 : am_at (am_m 123) 326 = some (.iload_n 1, 0) := by decide +kernel
theorem at_123_327 : am_at (am_m 123) 327 = some (.iload 5, 0) := by decide +kernel
theorem at_123_329 : am_at (am_m 123) 329 = some (.ifCond .eq 10, 339) := by decide +kernel
theorem at_123_332 : am_at (am_m 123) 332 = some (.iconst 1, 0) := by decide +kernel
theorem at_123_333 : am_at (am_m 123) 333 = some (.iload 4, 0) := by decide +kernel
theorem at_123_335 : am_at (am_m 123) 335 = some (.iadd, 0) := by decide +kernel
theorem at_123_336 : am_at (am_m 123) 336 = some (.goto 4, 340) := by decide +kernel
theorem at_123_339 : am_at (am_m 123) 339 = some (.iconst 1, 0) := by decide +kernel
theorem at_123_340 : am_at (am_m 123) 340 = some (.iadd, 0) := by decide +kernel
theorem at_123_341 : am_at (am_m 123) 341 = some (.istore_n 1, 0) := by decide +kernel
theorem at_123_342 : am_at (am_m 123) 342 = some (.iinc 2 1, 0) := by decide +kernel
theorem at_123_345 : am_at (am_m 123) 345 = some (.goto (-336), 9) := by decide +kernel
theorem at_123_348 : am_at (am_m 123) 348 = some (.aload_n 0, 0) := by decide +kernel
theorem at_123_349 : am_at (am_m 123) 349 = some (.getfield 60, 1550) := by decide +kernel
theorem at_123_352 : am_at (am_m 123) 352 = some (.ifCond .le 17, 369) := by decide +kernel
theorem at_123_355 : am_at (am_m 123) 355 = some (.aload_n 0, 0) := by decide +kernel
theorem at_123_356 : am_at (am_m 123) 356 = some (.getfield 57, 1549) := by decide +kernel
theorem at_123_359 : am_at (am_m 123) 359 = some (.aload_n 0, 0) := by decide +kernel
theorem at_123_360 : am_at (am_m 123) 360 = some (.getfield 60, 1550) := by decide +kernel
theorem at_123_363 : am_at (am_m 123) 363 = some (.iconst 1, 0) := by decide +kernel
theorem at_123_364 : am_at (am_m 123) 364 = some (.isub, 0) := by decide +kernel
theorem at_123_365 : am_at (am_m 123) 365 = some (.iaload, 0) := by decide +kernel
theorem at_123_366 : am_at (am_m 123) 366 = some (.goto 4, 370) := by decide +kernel
theorem at_123_369 : am_at (am_m 123) 369 = some (.iconst 0, 0) := by decide +kernel
theorem at_123_370 : am_at (am_m 123) 370 = some (.ireturn, 0) := by decide +kernel
theorem at_124_0 : am_at (am_m 124) 0 = some (.aload_n 0, 0) := by decide +kernel
theorem at_124_1 : am_at (am_m 124) 1 = some (.invokevirtual 97, 118) := by decide +kernel
theorem at_124_4 : am_at (am_m 124) 4 = some (.pop, 0) := by decide +kernel
theorem at_124_5 : am_at (am_m 124) 5 = some (.iconst 0, 0) := by decide +kernel
theorem at_124_6 : am_at (am_m 124) 6 = some (.istore_n 1, 0) := by decide +kernel
theorem at_124_7 : am_at (am_m 124) 7 = some (.iconst 0, 0) := by decide +kernel
theorem at_124_8 : am_at (am_m 124) 8 = some (.istore_n 2, 0) := by decide +kernel
theorem at_124_9 : am_at (am_m 124) 9 = some (.iload_n 2, 0) := by decide +kernel
theorem at_124_10 : am_at (am_m 124) 10 = some (.aload_n 0, 0) := by decide +kernel
theorem at_124_11 : am_at (am_m 124) 11 = some (.getfield 48, 1546) := by decide +kernel
theorem at_124_14 : am_at (am_m 124) 14 = some (.if_icmp .ge 44, 58) := by decide +kernel
theorem at_124_17 : am_at (am_m 124) 17 = some (.aload_n 0, 0) := by decide +kernel
theorem at_124_18 : am_at (am_m 124) 18 = some (.getfield 15, 1537) := by decide +kernel
theorem at_124_21 : am_at (am_m 124) 21 = some (.ifCond .ne 37, 58) := by decide +kernel
theorem at_124_24 : am_at (am_m 124) 24 = some (.aload_n 0, 0) := by decide +kernel
theorem at_124_25 : am_at (am_m 124) 25 = some (.invokevirtual 97, 118) := by decide +kernel
theorem at_124_28 : am_at (am_m 124) 28 = some (.ifCond .eq 24, 52) := by decide +kernel
theorem at_124_31 : am_at (am_m 124) 31 = some (.aload_n 0, 0) := by decide +kernel
theorem at_124_32 : am_at (am_m 124) 32 = some (.getfield 24, 1540) := by decide +kernel
theorem at_124_35 : am_at (am_m 124) 35 = some (.iload_n 1, 0) := by decide +kernel
theorem at_124_36 : am_at (am_m 124) 36 = some (.iconst 1, 0) := by decide +kernel
theorem at_124_37 : am_at (am_m 124) 37 = some (.aload_n 0, 0) := by decide +kernel
theorem at_124_38 : am_at (am_m 124) 38 = some (.getfield 44, 1545) := by decide +kernel
theorem at_124_41 : am_at (am_m 124) 41 = some (.iload_n 2, 0) := by decide +kernel
theorem at_124_42 : am_at (am_m 124) 42 = some (.iaload, 0) := by decide +kernel
theorem at_124_43 : am_at (am_m 124) 43 = some (.iconst 4, 0) := by decide +kernel
theorem at_124_44 : am_at (am_m 124) 44 = some (.invokestatic 130, 125) := by decide +kernel
theorem at_124_47 : am_at (am_m 124) 47 = some (.iadd, 0) := by decide +kernel
theorem at_124_48 : am_at (am_m 124) 48 = some (.invokevirtual 101, 54) := by decide +kernel
theorem at_124_51 : am_at (am_m 124) 51 = some (.istore_n 1, 0) := by decide +kernel
theorem at_124_52 : am_at (am_m 124) 52 = some (.iinc 2 1, 0) := by decide +kernel
theorem at_124_55 : am_at (am_m 124) 55 = some (.goto (-46), 9) := by decide +kernel
theorem at_124_58 : am_at (am_m 124) 58 = some (.aload_n 0, 0) := by decide +kernel
theorem at_124_59 : am_at (am_m 124) 59 = some (.getfield 24, 1540) := by decide +kernel
theorem at_124_62 : am_at (am_m 124) 62 = some (.iload_n 1, 0) := by decide +kernel
theorem at_124_63 : am_at (am_m 124) 63 = some (.iconst 0, 0) := by decide +kernel
theorem at_124_64 : am_at (am_m 124) 64 = some (.invokevirtual 101, 54) := by decide +kernel
theorem at_124_67 : am_at (am_m 124) 67 = some (.ireturn, 0) := by decide +kernel
theorem at_125_0 : am_at (am_m 125) 0 = some (.iload_n 0, 0) := by decide +kernel
theorem at_125_1 : am_at (am_m 125) 1 = some (.iload_n 1, 0) := by decide +kernel
theorem at_125_2 : am_at (am_m 125) 2 = some (.irem, 0) := by decide +kernel
theorem at_125_3 : am_at (am_m 125) 3 = some (.istore_n 2, 0) := by decide +kernel
theorem at_125_4 : am_at (am_m 125) 4 = some (.iload_n 0, 0) := by decide +kernel
theorem at_125_5 : am_at (am_m 125) 5 = some (.iload_n 1, 0) := by decide +kernel
theorem at_125_6 : am_at (am_m 125) 6 = some (.ixor, 0) := by decide +kernel
theorem at_125_7 : am_at (am_m 125) 7 = some (.ifCond .ge 11, 18) := by decide +kernel
theorem at_125_10 : am_at (am_m 125) 10 = some (.iload_n 2, 0) := by decide +kernel
theorem at_125_11 : am_at (am_m 125) 11 = some (.ifCond .eq 7, 18) := by decide +kernel
theorem at_125_14 : am_at (am_m 125) 14 = some (.iload_n 2, 0) := by decide +kernel
theorem at_125_15 : am_at (am_m 125) 15 = some (.iload_n 1, 0) := by decide +kernel
theorem at_125_16 : am_at (am_m 125) 16 = some (.iadd, 0) := by decide +kernel
theorem at_125_17 : am_at (am_m 125) 17 = some (.ireturn, 0) := by decide +kernel
theorem at_125_18 : am_at (am_m 125) 18 = some (.iload_n 2, 0) := by decide +kernel
theorem at_125_19 : am_at (am_m 125) 19 = some (.ireturn, 0) := by decide +kernel
theorem at_126_0 : am_at (am_m 126) 0 = some (.aload_n 0, 0) := by decide +kernel
theorem at_126_1 : am_at (am_m 126) 1 = some (.invokevirtual 97, 118) := by decide +kernel
theorem at_126_4 : am_at (am_m 126) 4 = some (.pop, 0) := by decide +kernel
theorem at_126_5 : am_at (am_m 126) 5 = some (.iconst 0, 0) := by decide +kernel
theorem at_126_6 : am_at (am_m 126) 6 = some (.istore_n 1, 0) := by decide +kernel
theorem at_126_7 : am_at (am_m 126) 7 = some (.iload_n 1, 0) := by decide +kernel
theorem at_126_8 : am_at (am_m 126) 8 = some (.bipush 8, 0) := by decide +kernel
theorem at_126_10 : am_at (am_m 126) 10 = some (.if_icmp .ge 33, 43) := by decide +kernel
theorem at_126_13 : am_at (am_m 126) 13 = some (.aload_n 0, 0) := by decide +kernel
theorem at_126_14 : am_at (am_m 126) 14 = some (.getfield 57, 1549) := by decide +kernel
theorem at_126_17 : am_at (am_m 126) 17 = some (.iload_n 1, 0) := by decide +kernel
theorem at_126_18 : am_at (am_m 126) 18 = some (.iload_n 1, 0) := by decide +kernel
theorem at_126_19 : am_at (am_m 126) 19 = some (.aload_n 0, 0) := by decide +kernel
theorem at_126_20 : am_at (am_m 126) 20 = some (.getfield 48, 1546) := by decide +kernel
theorem at_126_23 : am_at (am_m 126) 23 = some (.if_icmp .ge 12, 35) := by decide +kernel
theorem at_126_26 : am_at (am_m 126) 26 = some (.aload_n 0, 0) := by decide +kernel
theorem at_126_27 : am_at (am_m 126) 27 = some (.getfield 44, 1545) := by decide +kernel
theorem at_126_30 : am_at (am_m 126) 30 = some (.iload_n 1, 0) := by decide +kernel
theorem at_126_31 : am_at (am_m 126) 31 = some (.iaload, 0) := by decide +kernel
theorem at_126_32 : am_at (am_m 126) 32 = some (.goto 4, 36) := by decide +kernel
theorem at_126_35 : am_at (am_m 126) 35 = some (.iconst 0, 0) := by decide +kernel
theorem at_126_36 : am_at (am_m 126) 36 = some (.iastore, 0) := by decide +kernel
theorem at_126_37 : am_at (am_m 126) 37 = some (.iinc 1 1, 0) := by decide +kernel
theorem at_126_40 : am_at (am_m 126) 40 = some (.goto (-33), 7) := by decide +kernel
theorem at_126_43 : am_at (am_m 126) 43 = some (.iconst 0, 0) := by decide +kernel
theorem at_126_44 : am_at (am_m 126) 44 = some (.istore_n 1, 0) := by decide +kernel
theorem at_126_45 : am_at (am_m 126) 45 = some (.iload_n 1, 0) := by decide +kernel
theorem at_126_46 : am_at (am_m 126) 46 = some (.aload_n 0, 0) := by decide +kernel
theorem at_126_47 : am_at (am_m 126) 47 = some (.getfield 24, 1540) := by decide +kernel
theorem at_126_50 : am_at (am_m 126) 50 = some (.getfield 121, 771) := by decide +kernel
theorem at_126_53 : am_at (am_m 126) 53 = some (.if_icmp .ge 45, 98) := by decide +kernel
theorem at_126_56 : am_at (am_m 126) 56 = some (.aload_n 0, 0) := by decide +kernel
theorem at_126_57 : am_at (am_m 126) 57 = some (.getfield 15, 1537) := by decide +kernel
theorem at_126_60 : am_at (am_m 126) 60 = some (.ifCond .ne 38, 98) := by decide +kernel
theorem at_126_63 : am_at (am_m 126) 63 = some (.aload_n 0, 0) := by decide +kernel
theorem at_126_64 : am_at (am_m 126) 64 = some (.invokevirtual 97, 118) := by decide +kernel
theorem at_126_67 : am_at (am_m 126) 67 = some (.ifCond .eq 25, 92) := by decide +kernel
theorem at_126_70 : am_at (am_m 126) 70 = some (.aload_n 0, 0) := by decide +kernel
theorem at_126_71 : am_at (am_m 126) 71 = some (.aload_n 0, 0) := by decide +kernel
theorem at_126_72 : am_at (am_m 126) 72 = some (.getfield 24, 1540) := by decide +kernel
theorem at_126_75 : am_at (am_m 126) 75 = some (.iload_n 1, 0) := by decide +kernel
theorem at_126_76 : am_at (am_m 126) 76 = some (.iconst 0, 0) := by decide +kernel
theorem at_126_77 : am_at (am_m 126) 77 = some (.invokevirtual 101, 54) := by decide +kernel
theorem at_126_80 : am_at (am_m 126) 80 = some (.aload_n 0, 0) := by decide +kernel
theorem at_126_81 : am_at (am_m 126) 81 = some (.getfield 24, 1540) := by decide +kernel
theorem at_126_84 : am_at (am_m 126) 84 = some (.iload_n 1, 0) := by decide +kernel
theorem at_126_85 : am_at (am_m 126) 85 = some (.iconst 1, 0) := by decide +kernel
theorem at_126_86 : am_at (am_m 126) 86 = some (.invokevirtual 101, 54) := by decide +kernel
theorem at_126_89 : am_at (am_m 126) 89 = some (.invokevirtual 133, 127) := by decide +kernel
theorem at_126_92 : am_at (am_m 126) 92 = some (.iinc 1 1, 0) := by decide +kernel
theorem at_126_95 : am_at (am_m 126) 95 = some (.goto (-50), 45) := by decide +kernel
theorem at_126_98 : am_at (am_m 126) 98 = some (.aload_n 0, 0) := by decide +kernel
theorem at_126_99 : am_at (am_m 126) 99 = some (.getfield 24, 1540) := by decide +kernel
theorem at_126_102 : am_at (am_m 126) 102 = some (.getfield 137, 770) := by decide +kernel
theorem at_126_105 : am_at (am_m 126) 105 = some (.iconst 1, 0) := by decide +kernel
theorem at_126_106 : am_at (am_m 126) 106 = some (.isub, 0) := by decide +kernel
theorem at_126_107 : am_at (am_m 126) 107 = some (.iconst 2, 0) := by decide +kernel
theorem at_126_108 : am_at (am_m 126) 108 = some (.idiv, 0) := by decide +kernel
theorem at_126_109 : am_at (am_m 126) 109 = some (.istore_n 1, 0) := by decide +kernel
theorem at_126_110 : am_at (am_m 126) 110 = some (.iload_n 1, 0) := by decide +kernel
theorem at_126_111 : am_at (am_m 126) 111 = some (.ifCond .lt 21, 132) := by decide +kernel
theorem at_126_114 : am_at (am_m 126) 114 = some (.iload_n 1, 0) := by decide +kernel
theorem at_126_115 : am_at (am_m 126) 115 = some (.aload_n 0, 0) := by decide +kernel
theorem at_126_116 : am_at (am_m 126) 116 = some (.getfield 57, 1549) := by decide +kernel
theorem at_126_119 : am_at (am_m 126) 119 = some (.arraylength, 0) := by decide +kernel
theorem at_126_120 : am_at (am_m 126) 120 = some (.if_icmp .ge 12, 132) := by decide +kernel
theorem at_126_123 : am_at (am_m 126) 123 = some (.aload_n 0, 0) := by decide +kernel
theorem at_126_124 : am_at (am_m 126) 124 = some (.getfield 57, 1549) := by decide +kernel
theorem at_126_127 : am_at (am_m 126) 127 = some (.iload_n 1, 0) := by decide +kernel
theorem at_126_128 : am_at (am_m 126) 128 = some (.iaload, 0) := by decide +kernel
theorem at_126_129 : am_at (am_m 126) 129 = some (.goto 4, 133) := by decide +kernel
theorem at_126_132 : am_at (am_m 126) 132 = some (.iconst 0, 0) := by decide +kernel
theorem at_126_133 : am_at (am_m 126) 133 = some (.ireturn, 0) := by decide +kernel
theorem at_127_0 : am_at (am_m 127) 0 = some (.iload_n 1, 0) := by decide +kernel
theorem at_127_1 : am_at (am_m 127) 1 = some (.ifCond .lt 58, 59) := by decide +kernel
theorem at_127_4 : am_at (am_m 127) 4 = some (.iload_n 1, 0) := by decide +kernel
theorem at_127_5 : am_at (am_m 127) 5 = some (.iload_n 2, 0) := by decide +kernel
theorem at_127_6 : am_at (am_m 127) 6 = some (.if_icmp .ge 53, 59) := by decide +kernel
theorem at_127_9 : am_at (am_m 127) 9 = some (.iload_n 2, 0) := by decide +kernel
theorem at_127_10 : am_at (am_m 127) 10 = some (.aload_n 0, 0) := by decide +kernel
theorem at_127_11 : am_at (am_m 127) 11 = some (.getfield 57, 1549) := by decide +kernel
theorem at_127_14 : am_at (am_m 127) 14 = some (.arraylength, 0) := by decide +kernel
theorem at_127_15 : am_at (am_m 127) 15 = some (.if_icmp .ge 44, 59) := by decide +kernel
theorem at_127_18 : am_at (am_m 127) 18 = some (.aload_n 0, 0) := by decide +kernel
theorem at_127_19 : am_at (am_m 127) 19 = some (.getfield 57, 1549) := by decide +kernel
theorem at_127_22 : am_at (am_m 127) 22 = some (.iload_n 1, 0) := by decide +kernel
theorem at_127_23 : am_at (am_m 127) 23 = some (.iaload, 0) := by decide +kernel
theorem at_127_24 : am_at (am_m 127) 24 = some (.aload_n 0, 0) := by decide +kernel
theorem at_127_25 : am_at (am_m 127) 25 = some (.getfield 57, 1549) := by decide +kernel
theorem at_127_28 : am_at (am_m 127) 28 = some (.iload_n 2, 0) := by decide +kernel
theorem at_127_29 : am_at (am_m 127) 29 = some (.iaload, 0) := by decide +kernel
theorem at_127_30 : am_at (am_m 127) 30 = some (.if_icmp .le 29, 59) := by decide +kernel
theorem at_127_33 : am_at (am_m 127) 33 = some (.aload_n 0, 0) := by decide +kernel
theorem at_127_34 : am_at (am_m 127) 34 = some (.getfield 57, 1549) := by decide +kernel
theorem at_127_37 : am_at (am_m 127) 37 = some (.iload_n 1, 0) := by decide +kernel
theorem at_127_38 : am_at (am_m 127) 38 = some (.iaload, 0) := by decide +kernel
theorem at_127_39 : am_at (am_m 127) 39 = some (.istore_n 3, 0) := by decide +kernel
theorem at_127_40 : am_at (am_m 127) 40 = some (.aload_n 0, 0) := by decide +kernel
theorem at_127_41 : am_at (am_m 127) 41 = some (.getfield 57, 1549) := by decide +kernel
theorem at_127_44 : am_at (am_m 127) 44 = some (.iload_n 1, 0) := by decide +kernel
theorem at_127_45 : am_at (am_m 127) 45 = some (.aload_n 0, 0) := by decide +kernel
theorem at_127_46 : am_at (am_m 127) 46 = some (.getfield 57, 1549) := by decide +kernel
theorem at_127_49 : am_at (am_m 127) 49 = some (.iload_n 2, 0) := by decide +kernel
theorem at_127_50 : am_at (am_m 127) 50 = some (.iaload, 0) := by decide +kernel
theorem at_127_51 : am_at (am_m 127) 51 = some (.iastore, 0) := by decide +kernel
theorem at_127_52 : am_at (am_m 127) 52 = some (.aload_n 0, 0) := by decide +kernel
theorem at_127_53 : am_at (am_m 127) 53 = some (.getfield 57, 1549) := by decide +kernel
theorem at_127_56 : am_at (am_m 127) 56 = some (.iload_n 2, 0) := by decide +kernel
theorem at_127_57 : am_at (am_m 127) 57 = some (.iload_n 3, 0) := by decide +kernel
theorem at_127_58 : am_at (am_m 127) 58 = some (.iastore, 0) := by decide +kernel
theorem at_127_59 : am_at (am_m 127) 59 = some (.return_, 0) := by decide +kernel
theorem at_128_0 : am_at (am_m 128) 0 = some (.aload_n 0, 0) := by decide +kernel
theorem at_128_1 : am_at (am_m 128) 1 = some (.aload_n 0, 0) := by decide +kernel
theorem at_128_2 : am_at (am_m 128) 2 = some (.getfield 29, 2819) := by decide +kernel
theorem at_128_5 : am_at (am_m 128) 5 = some (.getfield 237, 514) := by decide +kernel
theorem at_128_8 : am_at (am_m 128) 8 = some (.getfield 503, 1539) := by decide +kernel
theorem at_128_11 : am_at (am_m 128) 11 = some (.putfield 78, 2828) := by decide +kernel
theorem at_128_14 : am_at (am_m 128) 14 = some (.aload_n 0, 0) := by decide +kernel
theorem at_128_15 : am_at (am_m 128) 15 = some (.aload_n 0, 0) := by decide +kernel
theorem at_128_16 : am_at (am_m 128) 16 = some (.getfield 29, 2819) := by decide +kernel
theorem at_128_19 : am_at (am_m 128) 19 = some (.getfield 237, 514) := by decide +kernel
theorem at_128_22 : am_at (am_m 128) 22 = some (.getfield 504, 1538) := by decide +kernel
theorem at_128_25 : am_at (am_m 128) 25 = some (.putfield 81, 2829) := by decide +kernel
theorem at_128_28 : am_at (am_m 128) 28 = some (.aload_n 0, 0) := by decide +kernel
theorem at_128_29 : am_at (am_m 128) 29 = some (.getfield 29, 2819) := by decide +kernel
theorem at_128_32 : am_at (am_m 128) 32 = some (.getfield 237, 514) := by decide +kernel
theorem at_128_35 : am_at (am_m 128) 35 = some (.getfield 507, 1537) := by decide +kernel
theorem at_128_38 : am_at (am_m 128) 38 = some (.ireturn, 0) := by decide +kernel
theorem at_129_0 : am_at (am_m 129) 0 = some (.aload 5, 0) := by decide +kernel
theorem at_129_2 : am_at (am_m 129) 2 = some (.iconst 0, 0) := by decide +kernel
theorem at_129_3 : am_at (am_m 129) 3 = some (.aload_n 0, 0) := by decide +kernel
theorem at_129_4 : am_at (am_m 129) 4 = some (.iload_n 1, 0) := by decide +kernel
theorem at_129_5 : am_at (am_m 129) 5 = some (.iload_n 2, 0) := by decide +kernel
theorem at_129_6 : am_at (am_m 129) 6 = some (.iload_n 3, 0) := by decide +kernel
theorem at_129_7 : am_at (am_m 129) 7 = some (.iload 4, 0) := by decide +kernel
theorem at_129_9 : am_at (am_m 129) 9 = some (.invokevirtual 64, 130) := by decide +kernel
theorem at_129_12 : am_at (am_m 129) 12 = some (.i2l, 0) := by decide +kernel
theorem at_129_13 : am_at (am_m 129) 13 = some (.lastore, 0) := by decide +kernel
theorem at_129_14 : am_at (am_m 129) 14 = some (.goto 7, 21) := by decide +kernel
theorem at_129_19 : am_at (am_m 129) 19 = some (.iconst 1, 0) := by decide +kernel
theorem at_129_20 : am_at (am_m 129) 20 = some (.ireturn, 0) := by decide +kernel
theorem at_129_21 : am_at (am_m 129) 21 = some (.iconst 0, 0) := by decide +kernel
theorem at_129_22 : am_at (am_m 129) 22 = some (.ireturn, 0) := by decide +kernel
theorem at_130_0 : am_at (am_m 130) 0 = some (.aload_n 0, 0) := by decide +kernel
theorem at_130_1 : am_at (am_m 130) 1 = some (.getfield 29, 2819) := by decide +kernel
theorem at_130_4 : am_at (am_m 130) 4 = some (.getfield 237, 514) := by decide +kernel
theorem at_130_7 : am_at (am_m 130) 7 = some (.aload_n 0, 0) := by decide +kernel
theorem at_130_8 : am_at (am_m 130) 8 = some (.iload_n 1, 0) := by decide +kernel
theorem at_130_9 : am_at (am_m 130) 9 = some (.invokevirtual 132, 63) := by decide +kernel
theorem at_130_12 : am_at (am_m 130) 12 = some (.invokevirtual 241, 115) := by decide +kernel
theorem at_130_15 : am_at (am_m 130) 15 = some (.aload_n 0, 0) := by decide +kernel
theorem at_130_16 : am_at (am_m 130) 16 = some (.getfield 72, 2826) := by decide +kernel
theorem at_130_19 : am_at (am_m 130) 19 = some (.iconst 0, 0) := by decide +kernel
theorem at_130_20 : am_at (am_m 130) 20 = some (.iload_n 2, 0) := by decide +kernel
theorem at_130_21 : am_at (am_m 130) 21 = some (.iastore, 0) := by decide +kernel
theorem at_130_22 : am_at (am_m 130) 22 = some (.aload_n 0, 0) := by decide +kernel
theorem at_130_23 : am_at (am_m 130) 23 = some (.getfield 72, 2826) := by decide +kernel
theorem at_130_26 : am_at (am_m 130) 26 = some (.iconst 1, 0) := by decide +kernel
theorem at_130_27 : am_at (am_m 130) 27 = some (.iload_n 3, 0) := by decide +kernel
theorem at_130_28 : am_at (am_m 130) 28 = some (.iastore, 0) := by decide +kernel
theorem at_130_29 : am_at (am_m 130) 29 = some (.aload_n 0, 0) := by decide +kernel
theorem at_130_30 : am_at (am_m 130) 30 = some (.getfield 72, 2826) := by decide +kernel
theorem at_130_33 : am_at (am_m 130) 33 = some (.iconst 2, 0) := by decide +kernel
theorem at_130_34 : am_at (am_m 130) 34 = some (.iload 4, 0) := by decide +kernel
theorem at_130_36 : am_at (am_m 130) 36 = some (.iastore, 0) := by decide +kernel
theorem at_130_37 : am_at (am_m 130) 37 = some (.aload_n 0, 0) := by decide +kernel
theorem at_130_38 : am_at (am_m 130) 38 = some (.getfield 29, 2819) := by decide +kernel
theorem at_130_41 : am_at (am_m 130) 41 = some (.getfield 237, 514) := by decide +kernel
theorem at_130_44 : am_at (am_m 130) 44 = some (.aload_n 0, 0) := by decide +kernel
theorem at_130_45 : am_at (am_m 130) 45 = some (.getfield 72, 2826) := by decide +kernel
theorem at_130_48 : am_at (am_m 130) 48 = some (.iconst 0, 0) := by decide +kernel
theorem at_130_49 : am_at (am_m 130) 49 = some (.invokevirtual 250, 116) := by decide +kernel
theorem at_130_52 : am_at (am_m 130) 52 = some (.aload_n 0, 0) := by decide +kernel
theorem at_130_53 : am_at (am_m 130) 53 = some (.invokevirtual 253, 128) := by decide +kernel
theorem at_130_56 : am_at (am_m 130) 56 = some (.ireturn, 0) := by decide +kernel
theorem at_131_0 : am_at (am_m 131) 0 = some (.aload_n 3, 0) := by decide +kernel
theorem at_131_1 : am_at (am_m 131) 1 = some (.iconst 0, 0) := by decide +kernel
theorem at_131_2 : am_at (am_m 131) 2 = some (.aload_n 0, 0) := by decide +kernel
theorem at_131_3 : am_at (am_m 131) 3 = some (.iload_n 1, 0) := by decide +kernel
theorem at_131_4 : am_at (am_m 131) 4 = some (.iload_n 2, 0) := by decide +kernel
theorem at_131_5 : am_at (am_m 131) 5 = some (.invokevirtual 68, 132) := by decide +kernel
theorem at_131_8 : am_at (am_m 131) 8 = some (.i2l, 0) := by decide +kernel
theorem at_131_9 : am_at (am_m 131) 9 = some (.lastore, 0) := by decide +kernel
theorem at_131_10 : am_at (am_m 131) 10 = some (.goto 7, 17) := by decide +kernel
theorem at_131_15 : am_at (am_m 131) 15 = some (.iconst 1, 0) := by decide +kernel
theorem at_131_16 : am_at (am_m 131) 16 = some (.ireturn, 0) := by decide +kernel
theorem at_131_17 : am_at (am_m 131) 17 = some (.iconst 0, 0) := by decide +kernel
theorem at_131_18 : am_at (am_m 131) 18 = some (.ireturn, 0) := by decide +kernel
theorem at_132_0 : am_at (am_m 132) 0 = some (.aload_n 0, 0) := by decide +kernel
theorem at_132_1 : am_at (am_m 132) 1 = some (.iload_n 1, 0) := by decide +kernel
theorem at_132_2 : am_at (am_m 132) 2 = some (.invokevirtual 132, 63) := by decide +kernel
theorem at_132_5 : am_at (am_m 132) 5 = some (.astore_n 3, 0) := by decide +kernel
theorem at_132_6 : am_at (am_m 132) 6 = some (.aload_n 0, 0) := by decide +kernel
theorem at_132_7 : am_at (am_m 132) 7 = some (.iload_n 2, 0) := by decide +kernel
theorem at_132_8 : am_at (am_m 132) 8 = some (.invokevirtual 228, 108) := by decide +kernel
theorem at_132_11 : am_at (am_m 132) 11 = some (.aload_n 0, 0) := by decide +kernel
theorem at_132_12 : am_at (am_m 132) 12 = some (.getfield 29, 2819) := by decide +kernel
theorem at_132_15 : am_at (am_m 132) 15 = some (.getfield 237, 514) := by decide +kernel
theorem at_132_18 : am_at (am_m 132) 18 = some (.aload_n 3, 0) := by decide +kernel
theorem at_132_19 : am_at (am_m 132) 19 = some (.invokevirtual 241, 115) := by decide +kernel
theorem at_132_22 : am_at (am_m 132) 22 = some (.aload_n 0, 0) := by decide +kernel
theorem at_132_23 : am_at (am_m 132) 23 = some (.getfield 29, 2819) := by decide +kernel
theorem at_132_26 : am_at (am_m 132) 26 = some (.iload_n 2, 0) := by decide +kernel
theorem at_132_27 : am_at (am_m 132) 27 = some (.invokevirtual 257, 133) := by decide +kernel
theorem at_132_30 : am_at (am_m 132) 30 = some (.ireturn, 0) := by decide +kernel
theorem at_133_0 : am_at (am_m 133) 0 = some (.aload_n 0, 0) := by decide +kernel
theorem at_133_1 : am_at (am_m 133) 1 = some (.getfield 22, 514) := by decide +kernel
theorem at_133_4 : am_at (am_m 133) 4 = some (.aload_n 0, 0) := by decide +kernel
theorem at_133_5 : am_at (am_m 133) 5 = some (.getfield 9, 512) := by decide +kernel
theorem at_133_8 : am_at (am_m 133) 8 = some (.iload_n 1, 0) := by decide +kernel
theorem at_133_9 : am_at (am_m 133) 9 = some (.bipush 15, 0) := by decide +kernel
theorem at_133_11 : am_at (am_m 133) 11 = some (.imul, 0) := by decide +kernel
theorem at_133_12 : am_at (am_m 133) 12 = some (.invokevirtual 65, 116) := by decide +kernel
theorem at_133_15 : am_at (am_m 133) 15 = some (.aload_n 0, 0) := by decide +kernel
theorem at_133_16 : am_at (am_m 133) 16 = some (.getfield 22, 514) := by decide +kernel
theorem at_133_19 : am_at (am_m 133) 19 = some (.getfield 69, 1537) := by decide +kernel
theorem at_133_22 : am_at (am_m 133) 22 = some (.ifCond .eq 8, 30) := by decide +kernel
theorem at_133_25 : am_at (am_m 133) 25 = some (.ldc 72, 18) := by decide +kernel
theorem at_133_27 : am_at (am_m 133) 27 = some (.goto 19, 46) := by decide +kernel
theorem at_133_30 : am_at (am_m 133) 30 = some (.aload_n 0, 0) := by decide +kernel
theorem at_133_31 : am_at (am_m 133) 31 = some (.getfield 22, 514) := by decide +kernel
theorem at_133_34 : am_at (am_m 133) 34 = some (.getfield 73, 1539) := by decide +kernel
theorem at_133_37 : am_at (am_m 133) 37 = some (.aload_n 0, 0) := by decide +kernel
theorem at_133_38 : am_at (am_m 133) 38 = some (.iload_n 1, 0) := by decide +kernel
theorem at_133_39 : am_at (am_m 133) 39 = some (.iconst 3, 0) := by decide +kernel
theorem at_133_40 : am_at (am_m 133) 40 = some (.invokevirtual 45, 112) := by decide +kernel
theorem at_133_43 : am_at (am_m 133) 43 = some (.invokestatic 76, 134) := by decide +kernel
theorem at_133_46 : am_at (am_m 133) 46 = some (.ireturn, 0) := by decide +kernel
theorem at_134_0 : am_at (am_m 134) 0 = some (.iload_n 0, 0) := by decide +kernel
theorem at_134_1 : am_at (am_m 134) 1 = some (.i2l, 0) := by decide +kernel
theorem at_134_2 : am_at (am_m 134) 2 = some (.iload_n 1, 0) := by decide +kernel
theorem at_134_3 : am_at (am_m 134) 3 = some (.i2l, 0) := by decide +kernel
theorem at_134_4 : am_at (am_m 134) 4 = some (.lsub, 0) := by decide +kernel
theorem at_134_5 : am_at (am_m 134) 5 = some (.invokestatic 53, 135) := by decide +kernel
theorem at_134_8 : am_at (am_m 134) 8 = some (.ldc2_w 59, 19) := by decide +kernel
theorem at_134_11 : am_at (am_m 134) 11 = some (.invokestatic 61, 136) := by decide +kernel
theorem at_134_14 : am_at (am_m 134) 14 = some (.l2i, 0) := by decide +kernel
theorem at_134_15 : am_at (am_m 134) 15 = some (.ireturn, 0) := by decide +kernel
theorem at_135_0 : am_at (am_m 135) 0 = some (.lload_n 0, 0) := by decide +kernel
theorem at_135_1 : am_at (am_m 135) 1 = some (.lconst 0, 0) := by decide +kernel
theorem at_135_2 : am_at (am_m 135) 2 = some (.lcmp, 0) := by decide +kernel
theorem at_135_3 : am_at (am_m 135) 3 = some (.ifCond .ge 8, 11) := by decide +kernel
theorem at_135_6 : am_at (am_m 135) 6 = some (.lload_n 0, 0) := by decide +kernel
theorem at_135_7 : am_at (am_m 135) 7 = some (.lneg, 0) := by decide +kernel
theorem at_135_8 : am_at (am_m 135) 8 = some (.goto 4, 12) := by decide +kernel
theorem at_135_11 : am_at (am_m 135) 11 = some (.lload_n 0, 0) := by decide +kernel
theorem at_135_12 : am_at (am_m 135) 12 = some (.lreturn, 0) := by decide +kernel
theorem at_136_0 : am_at (am_m 136) 0 = some (.lload_n 0, 0) := by decide +kernel
theorem at_136_1 : am_at (am_m 136) 1 = some (.lload_n 2, 0) := by decide +kernel
theorem at_136_2 : am_at (am_m 136) 2 = some (.lcmp, 0) := by decide +kernel
theorem at_136_3 : am_at (am_m 136) 3 = some (.ifCond .gt 7, 10) := by decide +kernel
theorem at_136_6 : am_at (am_m 136) 6 = some (.lload_n 0, 0) := by decide +kernel
theorem at_136_7 : am_at (am_m 136) 7 = some (.goto 4, 11) := by decide +kernel
theorem at_136_10 : am_at (am_m 136) 10 = some (.lload_n 2, 0) := by decide +kernel
theorem at_136_11 : am_at (am_m 136) 11 = some (.lreturn, 0) := by decide +kernel
theorem at_137_0 : am_at (am_m 137) 0 = some (.aload 4, 0) := by decide +kernel
theorem at_137_2 : am_at (am_m 137) 2 = some (.iconst 0, 0) := by decide +kernel
theorem at_137_3 : am_at (am_m 137) 3 = some (.aload_n 0, 0) := by decide +kernel
theorem at_137_4 : am_at (am_m 137) 4 = some (.iload_n 1, 0) := by decide +kernel
theorem at_137_5 : am_at (am_m 137) 5 = some (.iload_n 2, 0) := by decide +kernel
theorem at_137_6 : am_at (am_m 137) 6 = some (.iload_n 3, 0) := by decide +kernel
theorem at_137_7 : am_at (am_m 137) 7 = some (.invokevirtual 71, 138) := by decide +kernel
theorem at_137_10 : am_at (am_m 137) 10 = some (.lastore, 0) := by decide +kernel
theorem at_137_11 : am_at (am_m 137) 11 = some (.goto 11, 22) := by decide +kernel
theorem at_137_16 : am_at (am_m 137) 16 = some (.iconst 1, 0) := by decide +kernel
theorem at_137_17 : am_at (am_m 137) 17 = some (.ireturn, 0) := by decide +kernel
theorem at_137_20 : am_at (am_m 137) 20 = some (.iconst 2, 0) := by decide +kernel
theorem at_137_21 : am_at (am_m 137) 21 = some (.ireturn, 0) := by decide +kernel
theorem at_137_22 : am_at (am_m 137) 22 = some (.iconst 0, 0) := by decide +kernel
theorem at_137_23 : am_at (am_m 137) 23 = some (.ireturn, 0) := by decide +kernel
theorem at_138_0 : am_at (am_m 138) 0 = some (.aload_n 0, 0) := by decide +kernel
theorem at_138_1 : am_at (am_m 138) 1 = some (.iload_n 1, 0) := by decide +kernel
theorem at_138_2 : am_at (am_m 138) 2 = some (.invokevirtual 132, 63) := by decide +kernel
theorem at_138_5 : am_at (am_m 138) 5 = some (.astore 4, 0) := by decide +kernel
theorem at_138_7 : am_at (am_m 138) 7 = some (.aload_n 0, 0) := by decide +kernel
theorem at_138_8 : am_at (am_m 138) 8 = some (.iload_n 3, 0) := by decide +kernel
theorem at_138_9 : am_at (am_m 138) 9 = some (.invokevirtual 260, 139) := by decide +kernel
theorem at_138_12 : am_at (am_m 138) 12 = some (.aload_n 0, 0) := by decide +kernel
theorem at_138_13 : am_at (am_m 138) 13 = some (.getfield 29, 2819) := by decide +kernel
theorem at_138_16 : am_at (am_m 138) 16 = some (.aload_n 0, 0) := by decide +kernel
theorem at_138_17 : am_at (am_m 138) 17 = some (.getfield 29, 2819) := by decide +kernel
theorem at_138_20 : am_at (am_m 138) 20 = some (.aload 4, 0) := by decide +kernel
theorem at_138_22 : am_at (am_m 138) 22 = some (.iload_n 2, 0) := by decide +kernel
theorem at_138_23 : am_at (am_m 138) 23 = some (.invokevirtual 263, 140) := by decide +kernel
theorem at_138_26 : am_at (am_m 138) 26 = some (.aload_n 0, 0) := by decide +kernel
theorem at_138_27 : am_at (am_m 138) 27 = some (.getfield 29, 2819) := by decide +kernel
theorem at_138_30 : am_at (am_m 138) 30 = some (.iload_n 2, 0) := by decide +kernel
theorem at_138_31 : am_at (am_m 138) 31 = some (.invokevirtual 267, 142) := by decide +kernel
theorem at_138_34 : am_at (am_m 138) 34 = some (.invokevirtual 271, 143) := by decide +kernel
theorem at_138_37 : am_at (am_m 138) 37 = some (.aload_n 0, 0) := by decide +kernel
theorem at_138_38 : am_at (am_m 138) 38 = some (.getfield 29, 2819) := by decide +kernel
theorem at_138_41 : am_at (am_m 138) 41 = some (.iload_n 3, 0) := by decide +kernel
theorem at_138_42 : am_at (am_m 138) 42 = some (.invokevirtual 275, 144) := by decide +kernel
theorem at_138_45 : am_at (am_m 138) 45 = some (.lreturn, 0) := by decide +kernel
theorem at_139_0 : am_at (am_m 139) 0 = some (.iload_n 1, 0) := by decide +kernel
theorem at_139_1 : am_at (am_m 139) 1 = some (.ifCond .lt 8, 9) := by decide +kernel
theorem at_139_4 : am_at (am_m 139) 4 = some (.iload_n 1, 0) := by decide +kernel
theorem at_139_5 : am_at (am_m 139) 5 = some (.iconst 1, 0) := by decide +kernel
theorem at_139_6 : am_at (am_m 139) 6 = some (.if_icmp .le 14, 20) := by decide +kernel
theorem at_139_9 : am_at (am_m 139) 9 = some (.new 114, 100) := by decide +kernel
theorem at_139_20 : am_at (am_m 139) 20 = some (.return_, 0) := by decide +kernel
theorem at_140_0 : am_at (am_m 140) 0 = some (.aload_n 0, 0) := by decide +kernel
theorem at_140_1 : am_at (am_m 140) 1 = some (.getfield 22, 514) := by decide +kernel
theorem at_140_4 : am_at (am_m 140) 4 = some (.aload_n 1, 0) := by decide +kernel
theorem at_140_5 : am_at (am_m 140) 5 = some (.invokevirtual 79, 115) := by decide +kernel
theorem at_140_8 : am_at (am_m 140) 8 = some (.lconst 0, 0) := by decide +kernel
theorem at_140_9 : am_at (am_m 140) 9 = some (.lstore_n 3, 0) := by decide +kernel
theorem at_140_10 : am_at (am_m 140) 10 = some (.iconst 0, 0) := by decide +kernel
theorem at_140_11 : am_at (am_m 140) 11 = some (.istore 5, 0) := by decide +kernel
theorem at_140_13 : am_at (am_m 140) 13 = some (.iload 5, 0) := by decide +kernel
theorem at_140_15 : am_at (am_m 140) 15 = some (.aload_n 0, 0) := by decide +kernel
theorem at_140_16 : am_at (am_m 140) 16 = some (.getfield 15, 513) := by decide +kernel
theorem at_140_19 : am_at (am_m 140) 19 = some (.if_icmp .ge 38, 57) := by decide +kernel
theorem at_140_22 : am_at (am_m 140) 22 = some (.aload_n 0, 0) := by decide +kernel
theorem at_140_23 : am_at (am_m 140) 23 = some (.iload 5, 0) := by decide +kernel
theorem at_140_25 : am_at (am_m 140) 25 = some (.iload_n 2, 0) := by decide +kernel
theorem at_140_26 : am_at (am_m 140) 26 = some (.invokevirtual 49, 141) := by decide +kernel
theorem at_140_29 : am_at (am_m 140) 29 = some (.ifCond .eq 22, 51) := by decide +kernel
theorem at_140_32 : am_at (am_m 140) 32 = some (.lload_n 3, 0) := by decide +kernel
theorem at_140_33 : am_at (am_m 140) 33 = some (.aload_n 0, 0) := by decide +kernel
theorem at_140_34 : am_at (am_m 140) 34 = some (.iload 5, 0) := by decide +kernel
theorem at_140_36 : am_at (am_m 140) 36 = some (.iconst 4, 0) := by decide +kernel
theorem at_140_37 : am_at (am_m 140) 37 = some (.invokevirtual 45, 112) := by decide +kernel
theorem at_140_40 : am_at (am_m 140) 40 = some (.i2l, 0) := by decide +kernel
theorem at_140_41 : am_at (am_m 140) 41 = some (.aload_n 0, 0) := by decide +kernel
theorem at_140_42 : am_at (am_m 140) 42 = some (.iload 5, 0) := by decide +kernel
theorem at_140_44 : am_at (am_m 140) 44 = some (.invokevirtual 83, 133) := by decide +kernel
theorem at_140_47 : am_at (am_m 140) 47 = some (.i2l, 0) := by decide +kernel
theorem at_140_48 : am_at (am_m 140) 48 = some (.lmul, 0) := by decide +kernel
theorem at_140_49 : am_at (am_m 140) 49 = some (.ladd, 0) := by decide +kernel
theorem at_140_50 : am_at (am_m 140) 50 = some (.lstore_n 3, 0) := by decide +kernel
theorem at_140_51 : am_at (am_m 140) 51 = some (.iinc 5 1, 0) := by decide +kernel
theorem at_140_54 : am_at (am_m 140) 54 = some (.goto (-41), 13) := by decide +kernel
theorem at_140_57 : am_at (am_m 140) 57 = some (.lload_n 3, 0) := by decide +kernel
theorem at_140_58 : am_at (am_m 140) 58 = some (.lreturn, 0) := by decide +kernel
theorem at_141_0 : am_at (am_m 141) 0 = some (.aload_n 0, 0) := by decide +kernel
theorem at_141_1 : am_at (am_m 141) 1 = some (.iload_n 1, 0) := by decide +kernel
theorem at_141_2 : am_at (am_m 141) 2 = some (.iconst 5, 0) := by decide +kernel
theorem at_141_3 : am_at (am_m 141) 3 = some (.invokevirtual 45, 112) := by decide +kernel
theorem at_141_6 : am_at (am_m 141) 6 = some (.ifCond .eq 7, 13) := by decide +kernel
theorem at_141_9 : am_at (am_m 141) 9 = some (.iconst 1, 0) := by decide +kernel
theorem at_141_10 : am_at (am_m 141) 10 = some (.goto 4, 14) := by decide +kernel
theorem at_141_13 : am_at (am_m 141) 13 = some (.iconst 0, 0) := by decide +kernel
theorem at_141_14 : am_at (am_m 141) 14 = some (.iload_n 2, 0) := by decide +kernel
theorem at_141_15 : am_at (am_m 141) 15 = some (.if_icmp .ne 7, 22) := by decide +kernel
theorem at_141_18 : am_at (am_m 141) 18 = some (.iconst 1, 0) := by decide +kernel
theorem at_141_19 : am_at (am_m 141) 19 = some (.goto 4, 23) := by decide +kernel
theorem at_141_22 : am_at (am_m 141) 22 = some (.iconst 0, 0) := by decide +kernel
theorem at_141_23 : am_at (am_m 141) 23 = some (.ireturn, 0) := by decide +kernel
theorem at_142_0 : am_at (am_m 142) 0 = some (.lconst 0, 0) := by decide +kernel
theorem at_142_1 : am_at (am_m 142) 1 = some (.lstore_n 2, 0) := by decide +kernel
theorem at_142_2 : am_at (am_m 142) 2 = some (.iconst 0, 0) := by decide +kernel
theorem at_142_3 : am_at (am_m 142) 3 = some (.istore 4, 0) := by decide +kernel
theorem at_142_5 : am_at (am_m 142) 5 = some (.iload 4, 0) := by decide +kernel
theorem at_142_7 : am_at (am_m 142) 7 = some (.aload_n 0, 0) := by decide +kernel
theorem at_142_8 : am_at (am_m 142) 8 = some (.getfield 15, 513) := by decide +kernel
theorem at_142_11 : am_at (am_m 142) 11 = some (.if_icmp .ge 30, 41) := by decide +kernel
theorem at_142_14 : am_at (am_m 142) 14 = some (.aload_n 0, 0) := by decide +kernel
theorem at_142_15 : am_at (am_m 142) 15 = some (.iload 4, 0) := by decide +kernel
theorem at_142_17 : am_at (am_m 142) 17 = some (.iload_n 1, 0) := by decide +kernel
theorem at_142_18 : am_at (am_m 142) 18 = some (.invokevirtual 49, 141) := by decide +kernel
theorem at_142_21 : am_at (am_m 142) 21 = some (.ifCond .eq 14, 35) := by decide +kernel
theorem at_142_24 : am_at (am_m 142) 24 = some (.lload_n 2, 0) := by decide +kernel
theorem at_142_25 : am_at (am_m 142) 25 = some (.aload_n 0, 0) := by decide +kernel
theorem at_142_26 : am_at (am_m 142) 26 = some (.iload 4, 0) := by decide +kernel
theorem at_142_28 : am_at (am_m 142) 28 = some (.iconst 4, 0) := by decide +kernel
theorem at_142_29 : am_at (am_m 142) 29 = some (.invokevirtual 45, 112) := by decide +kernel
theorem at_142_32 : am_at (am_m 142) 32 = some (.i2l, 0) := by decide +kernel
theorem at_142_33 : am_at (am_m 142) 33 = some (.ladd, 0) := by decide +kernel
theorem at_142_34 : am_at (am_m 142) 34 = some (.lstore_n 2, 0) := by decide +kernel
theorem at_142_35 : am_at (am_m 142) 35 = some (.iinc 4 1, 0) := by decide +kernel
theorem at_142_38 : am_at (am_m 142) 38 = some (.goto (-33), 5) := by decide +kernel
theorem at_142_41 : am_at (am_m 142) 41 = some (.lload_n 2, 0) := by decide +kernel
theorem at_142_42 : am_at (am_m 142) 42 = some (.lconst 0, 0) := by decide +kernel
theorem at_142_43 : am_at (am_m 142) 43 = some (.lcmp, 0) := by decide +kernel
theorem at_142_44 : am_at (am_m 142) 44 = some (.ifCond .le 7, 51) := by decide +kernel
theorem at_142_47 : am_at (am_m 142) 47 = some (.lload_n 2, 0) := by decide +kernel
theorem at_142_48 : am_at (am_m 142) 48 = some (.goto 4, 52) := by decide +kernel
theorem at_142_51 : am_at (am_m 142) 51 = some (.lconst 1, 0) := by decide +kernel
theorem at_142_52 : am_at (am_m 142) 52 = some (.lreturn, 0) := by decide +kernel
theorem at_143_0 : am_at (am_m 143) 0 = some (.lload_n 1, 0) := by decide +kernel
theorem at_143_1 : am_at (am_m 143) 1 = some (.invokestatic 53, 135) := by decide +kernel
theorem at_143_4 : am_at (am_m 143) 4 = some (.lstore 5, 0) := by decide +kernel
theorem at_143_6 : am_at (am_m 143) 6 = some (.lload_n 3, 0) := by decide +kernel
theorem at_143_7 : am_at (am_m 143) 7 = some (.lstore 7, 0) := by decide +kernel
theorem at_143_9 : am_at (am_m 143) 9 = some (.iconst 0, 0) := by decide +kernel
theorem at_143_10 : am_at (am_m 143) 10 = some (.istore 9, 0) := by decide +kernel
theorem at_143_12 : am_at (am_m 143) 12 = some (.iload 9, 0) := by decide +kernel
theorem at_143_14 : am_at (am_m 143) 14 = some (.sipush 200, 0) := by decide +kernel
theorem at_143_17 : am_at (am_m 143) 17 = some (.if_icmp .ge 31, 48) := by decide +kernel
theorem at_143_20 : am_at (am_m 143) 20 = some (.lload 5, 0) := by decide +kernel
theorem at_143_22 : am_at (am_m 143) 22 = some (.lconst 0, 0) := by decide +kernel
theorem at_143_23 : am_at (am_m 143) 23 = some (.lcmp, 0) := by decide +kernel
theorem at_143_24 : am_at (am_m 143) 24 = some (.ifCond .eq 24, 48) := by decide +kernel
theorem at_143_27 : am_at (am_m 143) 27 = some (.lload 7, 0) := by decide +kernel
theorem at_143_29 : am_at (am_m 143) 29 = some (.lload 5, 0) := by decide +kernel
theorem at_143_31 : am_at (am_m 143) 31 = some (.lrem, 0) := by decide +kernel
theorem at_143_32 : am_at (am_m 143) 32 = some (.lstore 10, 0) := by decide +kernel
theorem at_143_34 : am_at (am_m 143) 34 = some (.lload 5, 0) := by decide +kernel
theorem at_143_36 : am_at (am_m 143) 36 = some (.lstore 7, 0) := by decide +kernel
theorem at_143_38 : am_at (am_m 143) 38 = some (.lload 10, 0) := by decide +kernel
theorem at_143_40 : am_at (am_m 143) 40 = some (.lstore 5, 0) := by decide +kernel
theorem at_143_42 : am_at (am_m 143) 42 = some (.iinc 9 1, 0) := by decide +kernel
theorem at_143_45 : am_at (am_m 143) 45 = some (.goto (-33), 12) := by decide +kernel
theorem at_143_48 : am_at (am_m 143) 48 = some (.aload_n 0, 0) := by decide +kernel
theorem at_143_49 : am_at (am_m 143) 49 = some (.lload 7, 0) := by decide +kernel
theorem at_143_51 : am_at (am_m 143) 51 = some (.lconst 0, 0) := by decide +kernel
theorem at_143_52 : am_at (am_m 143) 52 = some (.lcmp, 0) := by decide +kernel
theorem at_143_53 : am_at (am_m 143) 53 = some (.ifCond .le 10, 63) := by decide +kernel
theorem at_143_56 : am_at (am_m 143) 56 = some (.lload_n 1, 0) := by decide +kernel
theorem at_143_57 : am_at (am_m 143) 57 = some (.lload 7, 0) := by decide +kernel
theorem at_143_59 : am_at (am_m 143) 59 = some (.ldiv, 0) := by decide +kernel
theorem at_143_60 : am_at (am_m 143) 60 = some (.goto 4, 64) := by decide +kernel
theorem at_143_63 : am_at (am_m 143) 63 = some (.lload_n 1, 0) := by decide +kernel
theorem at_143_64 : am_at (am_m 143) 64 = some (.putfield 29, 516) := by decide +kernel
theorem at_143_67 : am_at (am_m 143) 67 = some (.aload_n 0, 0) := by decide +kernel
theorem at_143_68 : am_at (am_m 143) 68 = some (.lload 7, 0) := by decide +kernel
theorem at_143_70 : am_at (am_m 143) 70 = some (.lconst 0, 0) := by decide +kernel
theorem at_143_71 : am_at (am_m 143) 71 = some (.lcmp, 0) := by decide +kernel
theorem at_143_72 : am_at (am_m 143) 72 = some (.ifCond .le 10, 82) := by decide +kernel
theorem at_143_75 : am_at (am_m 143) 75 = some (.lload_n 3, 0) := by decide +kernel
theorem at_143_76 : am_at (am_m 143) 76 = some (.lload 7, 0) := by decide +kernel
theorem at_143_78 : am_at (am_m 143) 78 = some (.ldiv, 0) := by decide +kernel
theorem at_143_79 : am_at (am_m 143) 79 = some (.goto 4, 83) := by decide +kernel
theorem at_143_82 : am_at (am_m 143) 82 = some (.lload_n 3, 0) := by decide +kernel
theorem at_143_83 : am_at (am_m 143) 83 = some (.putfield 33, 517) := by decide +kernel
theorem at_143_86 : am_at (am_m 143) 86 = some (.return_, 0) := by decide +kernel
theorem at_144_0 : am_at (am_m 144) 0 = some (.iload_n 1, 0) := by decide +kernel
theorem at_144_1 : am_at (am_m 144) 1 = some (.ifCond .ne 10, 11) := by decide +kernel
theorem at_144_4 : am_at (am_m 144) 4 = some (.aload_n 0, 0) := by decide +kernel
theorem at_144_5 : am_at (am_m 144) 5 = some (.getfield 29, 516) := by decide +kernel
theorem at_144_8 : am_at (am_m 144) 8 = some (.goto 7, 15) := by decide +kernel
theorem at_144_11 : am_at (am_m 144) 11 = some (.aload_n 0, 0) := by decide +kernel
theorem at_144_12 : am_at (am_m 144) 12 = some (.getfield 33, 517) := by decide +kernel
theorem at_144_15 : am_at (am_m 144) 15 = some (.lreturn, 0) := by decide +kernel
theorem at_145_0 : am_at (am_m 145) 0 = some (.aload_n 3, 0) := by decide +kernel
theorem at_145_1 : am_at (am_m 145) 1 = some (.iconst 0, 0) := by decide +kernel
theorem at_145_2 : am_at (am_m 145) 2 = some (.aload_n 0, 0) := by decide +kernel
theorem at_145_3 : am_at (am_m 145) 3 = some (.iload_n 1, 0) := by decide +kernel
theorem at_145_4 : am_at (am_m 145) 4 = some (.iload_n 2, 0) := by decide +kernel
theorem at_145_5 : am_at (am_m 145) 5 = some (.invokevirtual 75, 146) := by decide +kernel
theorem at_145_8 : am_at (am_m 145) 8 = some (.lastore, 0) := by decide +kernel
theorem at_145_9 : am_at (am_m 145) 9 = some (.goto 11, 20) := by decide +kernel
theorem at_145_14 : am_at (am_m 145) 14 = some (.iconst 1, 0) := by decide +kernel
theorem at_145_15 : am_at (am_m 145) 15 = some (.ireturn, 0) := by decide +kernel
theorem at_145_18 : am_at (am_m 145) 18 = some (.iconst 2, 0) := by decide +kernel
theorem at_145_19 : am_at (am_m 145) 19 = some (.ireturn, 0) := by decide +kernel
theorem at_145_20 : am_at (am_m 145) 20 = some (.iconst 0, 0) := by decide +kernel
theorem at_145_21 : am_at (am_m 145) 21 = some (.ireturn, 0) := by decide +kernel
theorem at_146_0 : am_at (am_m 146) 0 = some (.aload_n 0, 0) := by decide +kernel
theorem at_146_1 : am_at (am_m 146) 1 = some (.iload_n 1, 0) := by decide +kernel
theorem at_146_2 : am_at (am_m 146) 2 = some (.invokevirtual 132, 63) := by decide +kernel
theorem at_146_5 : am_at (am_m 146) 5 = some (.astore_n 3, 0) := by decide +kernel
theorem at_146_6 : am_at (am_m 146) 6 = some (.aload_n 0, 0) := by decide +kernel
theorem at_146_7 : am_at (am_m 146) 7 = some (.iload_n 2, 0) := by decide +kernel
theorem at_146_8 : am_at (am_m 146) 8 = some (.invokevirtual 260, 139) := by decide +kernel
theorem at_146_11 : am_at (am_m 146) 11 = some (.aload_n 0, 0) := by decide +kernel
theorem at_146_12 : am_at (am_m 146) 12 = some (.getfield 29, 2819) := by decide +kernel
theorem at_146_15 : am_at (am_m 146) 15 = some (.iconst 0, 0) := by decide +kernel
theorem at_146_16 : am_at (am_m 146) 16 = some (.invokevirtual 267, 142) := by decide +kernel
theorem at_146_19 : am_at (am_m 146) 19 = some (.lstore 4, 0) := by decide +kernel
theorem at_146_21 : am_at (am_m 146) 21 = some (.aload_n 0, 0) := by decide +kernel
theorem at_146_22 : am_at (am_m 146) 22 = some (.getfield 29, 2819) := by decide +kernel
theorem at_146_25 : am_at (am_m 146) 25 = some (.iconst 1, 0) := by decide +kernel
theorem at_146_26 : am_at (am_m 146) 26 = some (.invokevirtual 267, 142) := by decide +kernel
theorem at_146_29 : am_at (am_m 146) 29 = some (.lstore 6, 0) := by decide +kernel
theorem at_146_31 : am_at (am_m 146) 31 = some (.aload_n 0, 0) := by decide +kernel
theorem at_146_32 : am_at (am_m 146) 32 = some (.getfield 29, 2819) := by decide +kernel
theorem at_146_35 : am_at (am_m 146) 35 = some (.aload_n 0, 0) := by decide +kernel
theorem at_146_36 : am_at (am_m 146) 36 = some (.getfield 29, 2819) := by decide +kernel
theorem at_146_39 : am_at (am_m 146) 39 = some (.aload_n 3, 0) := by decide +kernel
theorem at_146_40 : am_at (am_m 146) 40 = some (.iconst 1, 0) := by decide +kernel
theorem at_146_41 : am_at (am_m 146) 41 = some (.invokevirtual 263, 140) := by decide +kernel
theorem at_146_44 : am_at (am_m 146) 44 = some (.lload 4, 0) := by decide +kernel
theorem at_146_46 : am_at (am_m 146) 46 = some (.lmul, 0) := by decide +kernel
theorem at_146_47 : am_at (am_m 146) 47 = some (.aload_n 0, 0) := by decide +kernel
theorem at_146_48 : am_at (am_m 146) 48 = some (.getfield 29, 2819) := by decide +kernel
theorem at_146_51 : am_at (am_m 146) 51 = some (.aload_n 3, 0) := by decide +kernel
theorem at_146_52 : am_at (am_m 146) 52 = some (.iconst 0, 0) := by decide +kernel
theorem at_146_53 : am_at (am_m 146) 53 = some (.invokevirtual 263, 140) := by decide +kernel
theorem at_146_56 : am_at (am_m 146) 56 = some (.lload 6, 0) := by decide +kernel
theorem at_146_58 : am_at (am_m 146) 58 = some (.lmul, 0) := by decide +kernel
theorem at_146_59 : am_at (am_m 146) 59 = some (.lsub, 0) := by decide +kernel
theorem at_146_60 : am_at (am_m 146) 60 = some (.lload 4, 0) := by decide +kernel
theorem at_146_62 : am_at (am_m 146) 62 = some (.lload 6, 0) := by decide +kernel
theorem at_146_64 : am_at (am_m 146) 64 = some (.lmul, 0) := by decide +kernel
theorem at_146_65 : am_at (am_m 146) 65 = some (.invokevirtual 271, 143) := by decide +kernel
theorem at_146_68 : am_at (am_m 146) 68 = some (.aload_n 0, 0) := by decide +kernel
theorem at_146_69 : am_at (am_m 146) 69 = some (.getfield 29, 2819) := by decide +kernel
theorem at_146_72 : am_at (am_m 146) 72 = some (.iload_n 2, 0) := by decide +kernel
theorem at_146_73 : am_at (am_m 146) 73 = some (.invokevirtual 275, 144) := by decide +kernel
theorem at_146_76 : am_at (am_m 146) 76 = some (.lreturn, 0) := by decide +kernel
theorem at_147_0 : am_at (am_m 147) 0 = some (.aload_n 3, 0) := by decide +kernel
theorem at_147_1 : am_at (am_m 147) 1 = some (.iconst 0, 0) := by decide +kernel
theorem at_147_2 : am_at (am_m 147) 2 = some (.aload_n 0, 0) := by decide +kernel
theorem at_147_3 : am_at (am_m 147) 3 = some (.iload_n 1, 0) := by decide +kernel
theorem at_147_4 : am_at (am_m 147) 4 = some (.iload_n 2, 0) := by decide +kernel
theorem at_147_5 : am_at (am_m 147) 5 = some (.invokevirtual 79, 148) := by decide +kernel
theorem at_147_8 : am_at (am_m 147) 8 = some (.i2l, 0) := by decide +kernel
theorem at_147_9 : am_at (am_m 147) 9 = some (.lastore, 0) := by decide +kernel
theorem at_147_10 : am_at (am_m 147) 10 = some (.goto 7, 17) := by decide +kernel
theorem at_147_15 : am_at (am_m 147) 15 = some (.iconst 1, 0) := by decide +kernel
theorem at_147_16 : am_at (am_m 147) 16 = some (.ireturn, 0) := by decide +kernel
theorem at_147_17 : am_at (am_m 147) 17 = some (.iconst 0, 0) := by decide +kernel
theorem at_147_18 : am_at (am_m 147) 18 = some (.ireturn, 0) := by decide +kernel
theorem at_148_0 : am_at (am_m 148) 0 = some (.aload_n 0, 0) := by decide +kernel
theorem at_148_1 : am_at (am_m 148) 1 = some (.getfield 29, 2819) := by decide +kernel
theorem at_148_4 : am_at (am_m 148) 4 = some (.getfield 237, 514) := by decide +kernel
theorem at_148_7 : am_at (am_m 148) 7 = some (.aload_n 0, 0) := by decide +kernel
theorem at_148_8 : am_at (am_m 148) 8 = some (.iload_n 1, 0) := by decide +kernel
theorem at_148_9 : am_at (am_m 148) 9 = some (.invokevirtual 132, 63) := by decide +kernel
theorem at_148_12 : am_at (am_m 148) 12 = some (.invokevirtual 241, 115) := by decide +kernel
theorem at_148_15 : am_at (am_m 148) 15 = some (.iconst 0, 0) := by decide +kernel
theorem at_148_16 : am_at (am_m 148) 16 = some (.istore_n 3, 0) := by decide +kernel
theorem at_148_17 : am_at (am_m 148) 17 = some (.iconst 0, 0) := by decide +kernel
theorem at_148_18 : am_at (am_m 148) 18 = some (.istore 4, 0) := by decide +kernel
theorem at_148_20 : am_at (am_m 148) 20 = some (.iload 4, 0) := by decide +kernel
theorem at_148_22 : am_at (am_m 148) 22 = some (.aload_n 0, 0) := by decide +kernel
theorem at_148_23 : am_at (am_m 148) 23 = some (.getfield 29, 2819) := by decide +kernel
theorem at_148_26 : am_at (am_m 148) 26 = some (.getfield 210, 513) := by decide +kernel
theorem at_148_29 : am_at (am_m 148) 29 = some (.if_icmp .ge 37, 66) := by decide +kernel
theorem at_148_32 : am_at (am_m 148) 32 = some (.aload_n 0, 0) := by decide +kernel
theorem at_148_33 : am_at (am_m 148) 33 = some (.getfield 29, 2819) := by decide +kernel
theorem at_148_36 : am_at (am_m 148) 36 = some (.iload 4, 0) := by decide +kernel
theorem at_148_38 : am_at (am_m 148) 38 = some (.iload_n 2, 0) := by decide +kernel
theorem at_148_39 : am_at (am_m 148) 39 = some (.invokevirtual 279, 141) := by decide +kernel
theorem at_148_42 : am_at (am_m 148) 42 = some (.ifCond .eq 18, 60) := by decide +kernel
theorem at_148_45 : am_at (am_m 148) 45 = some (.aload_n 0, 0) := by decide +kernel
theorem at_148_46 : am_at (am_m 148) 46 = some (.getfield 29, 2819) := by decide +kernel
theorem at_148_49 : am_at (am_m 148) 49 = some (.iload 4, 0) := by decide +kernel
theorem at_148_51 : am_at (am_m 148) 51 = some (.invokevirtual 257, 133) := by decide +kernel
theorem at_148_54 : am_at (am_m 148) 54 = some (.ifCond .ne 6, 60) := by decide +kernel
theorem at_148_57 : am_at (am_m 148) 57 = some (.iinc 3 1, 0) := by decide +kernel
theorem at_148_60 : am_at (am_m 148) 60 = some (.iinc 4 1, 0) := by decide +kernel
theorem at_148_63 : am_at (am_m 148) 63 = some (.goto (-43), 20) := by decide +kernel
theorem at_148_66 : am_at (am_m 148) 66 = some (.iload_n 3, 0) := by decide +kernel
theorem at_148_67 : am_at (am_m 148) 67 = some (.ireturn, 0) := by decide +kernel
theorem at_149_0 : am_at (am_m 149) 0 = some (.aload_n 3, 0) := by decide +kernel
theorem at_149_1 : am_at (am_m 149) 1 = some (.iconst 0, 0) := by decide +kernel
theorem at_149_2 : am_at (am_m 149) 2 = some (.aload_n 0, 0) := by decide +kernel
theorem at_149_3 : am_at (am_m 149) 3 = some (.iload_n 1, 0) := by decide +kernel
theorem at_149_4 : am_at (am_m 149) 4 = some (.iload_n 2, 0) := by decide +kernel
theorem at_149_5 : am_at (am_m 149) 5 = some (.invokevirtual 83, 150) := by decide +kernel
theorem at_149_8 : am_at (am_m 149) 8 = some (.i2l, 0) := by decide +kernel
theorem at_149_9 : am_at (am_m 149) 9 = some (.lastore, 0) := by decide +kernel
theorem at_149_10 : am_at (am_m 149) 10 = some (.goto 7, 17) := by decide +kernel
theorem at_149_15 : am_at (am_m 149) 15 = some (.iconst 1, 0) := by decide +kernel
theorem at_149_16 : am_at (am_m 149) 16 = some (.ireturn, 0) := by decide +kernel
theorem at_149_17 : am_at (am_m 149) 17 = some (.iconst 0, 0) := by decide +kernel
theorem at_149_18 : am_at (am_m 149) 18 = some (.ireturn, 0) := by decide +kernel
theorem at_150_0 : am_at (am_m 150) 0 = some (.aload_n 0, 0) := by decide +kernel
theorem at_150_1 : am_at (am_m 150) 1 = some (.iload_n 1, 0) := by decide +kernel
theorem at_150_2 : am_at (am_m 150) 2 = some (.invokevirtual 132, 63) := by decide +kernel
theorem at_150_5 : am_at (am_m 150) 5 = some (.astore_n 3, 0) := by decide +kernel
theorem at_150_6 : am_at (am_m 150) 6 = some (.aload_n 0, 0) := by decide +kernel
theorem at_150_7 : am_at (am_m 150) 7 = some (.iload_n 2, 0) := by decide +kernel
theorem at_150_8 : am_at (am_m 150) 8 = some (.invokevirtual 132, 63) := by decide +kernel
theorem at_150_11 : am_at (am_m 150) 11 = some (.astore 4, 0) := by decide +kernel
theorem at_150_13 : am_at (am_m 150) 13 = some (.aload_n 0, 0) := by decide +kernel
theorem at_150_14 : am_at (am_m 150) 14 = some (.getfield 29, 2819) := by decide +kernel
theorem at_150_17 : am_at (am_m 150) 17 = some (.aload_n 3, 0) := by decide +kernel
theorem at_150_18 : am_at (am_m 150) 18 = some (.iconst 0, 0) := by decide +kernel
theorem at_150_19 : am_at (am_m 150) 19 = some (.invokevirtual 263, 140) := by decide +kernel
theorem at_150_22 : am_at (am_m 150) 22 = some (.aload_n 0, 0) := by decide +kernel
theorem at_150_23 : am_at (am_m 150) 23 = some (.getfield 29, 2819) := by decide +kernel
theorem at_150_26 : am_at (am_m 150) 26 = some (.aload 4, 0) := by decide +kernel
theorem at_150_28 : am_at (am_m 150) 28 = some (.iconst 0, 0) := by decide +kernel
theorem at_150_29 : am_at (am_m 150) 29 = some (.invokevirtual 263, 140) := by decide +kernel
theorem at_150_32 : am_at (am_m 150) 32 = some (.invokestatic 283, 151) := by decide +kernel
theorem at_150_35 : am_at (am_m 150) 35 = some (.istore 5, 0) := by decide +kernel
theorem at_150_37 : am_at (am_m 150) 37 = some (.iload 5, 0) := by decide +kernel
theorem at_150_39 : am_at (am_m 150) 39 = some (.ifCond .ne 17, 56) := by decide +kernel
theorem at_150_42 : am_at (am_m 150) 42 = some (.aload_n 3, 0) := by decide +kernel
theorem at_150_43 : am_at (am_m 150) 43 = some (.getfield 147, 771) := by decide +kernel
theorem at_150_46 : am_at (am_m 150) 46 = some (.aload 4, 0) := by decide +kernel
theorem at_150_48 : am_at (am_m 150) 48 = some (.getfield 147, 771) := by decide +kernel
theorem at_150_51 : am_at (am_m 150) 51 = some (.invokestatic 289, 152) := by decide +kernel
theorem at_150_54 : am_at (am_m 150) 54 = some (.istore 5, 0) := by decide +kernel
theorem at_150_56 : am_at (am_m 150) 56 = some (.iload 5, 0) := by decide +kernel
theorem at_150_58 : am_at (am_m 150) 58 = some (.ifCond .eq 8, 66) := by decide +kernel
theorem at_150_61 : am_at (am_m 150) 61 = some (.iload 5, 0) := by decide +kernel
theorem at_150_63 : am_at (am_m 150) 63 = some (.goto 8, 71) := by decide +kernel
theorem at_150_66 : am_at (am_m 150) 66 = some (.iload_n 1, 0) := by decide +kernel
theorem at_150_67 : am_at (am_m 150) 67 = some (.iload_n 2, 0) := by decide +kernel
theorem at_150_68 : am_at (am_m 150) 68 = some (.invokestatic 289, 152) := by decide +kernel
theorem at_150_71 : am_at (am_m 150) 71 = some (.ireturn, 0) := by decide +kernel
theorem at_151_0 : am_at (am_m 151) 0 = some (.lload_n 0, 0) := by decide +kernel
theorem at_151_1 : am_at (am_m 151) 1 = some (.lload_n 2, 0) := by decide +kernel
theorem at_151_2 : am_at (am_m 151) 2 = some (.lcmp, 0) := by decide +kernel
theorem at_151_3 : am_at (am_m 151) 3 = some (.ifCond .ge 7, 10) := by decide +kernel
theorem at_151_6 : am_at (am_m 151) 6 = some (.iconst (-1), 0) := by decide +kernel
theorem at_151_7 : am_at (am_m 151) 7 = some (.goto 14, 21) := by decide +kernel
theorem at_151_10 : am_at (am_m 151) 10 = some (.lload_n 0, 0) := by decide +kernel
theorem at_151_11 : am_at (am_m 151) 11 = some (.lload_n 2, 0) := by decide +kernel
theorem at_151_12 : am_at (am_m 151) 12 = some (.lcmp, 0) := by decide +kernel
theorem at_151_13 : am_at (am_m 151) 13 = some (.ifCond .ne 7, 20) := by decide +kernel
theorem at_151_16 : am_at (am_m 151) 16 = some (.iconst 0, 0) := by decide +kernel
theorem at_151_17 : am_at (am_m 151) 17 = some (.goto 4, 21) := by decide +kernel
theorem at_151_20 : am_at (am_m 151) 20 = some (.iconst 1, 0) := by decide +kernel
theorem at_151_21 : am_at (am_m 151) 21 = some (.ireturn, 0) := by decide +kernel
theorem at_152_0 : am_at (am_m 152) 0 = some (.iload_n 0, 0) := by decide +kernel
theorem at_152_1 : am_at (am_m 152) 1 = some (.iload_n 1, 0) := by decide +kernel
theorem at_152_2 : am_at (am_m 152) 2 = some (.if_icmp .ge 7, 9) := by decide +kernel
theorem at_152_5 : am_at (am_m 152) 5 = some (.iconst (-1), 0) := by decide +kernel
theorem at_152_6 : am_at (am_m 152) 6 = some (.goto 13, 19) := by decide +kernel
theorem at_152_9 : am_at (am_m 152) 9 = some (.iload_n 0, 0) := by decide +kernel
theorem at_152_10 : am_at (am_m 152) 10 = some (.iload_n 1, 0) := by decide +kernel
theorem at_152_11 : am_at (am_m 152) 11 = some (.if_icmp .ne 7, 18) := by decide +kernel
theorem at_152_14 : am_at (am_m 152) 14 = some (.iconst 0, 0) := by decide +kernel
theorem at_152_15 : am_at (am_m 152) 15 = some (.goto 4, 19) := by decide +kernel
theorem at_152_18 : am_at (am_m 152) 18 = some (.iconst 1, 0) := by decide +kernel
theorem at_152_19 : am_at (am_m 152) 19 = some (.ireturn, 0) := by decide +kernel
theorem at_153_0 : am_at (am_m 153) 0 = some (.aload_n 3, 0) := by decide +kernel
theorem at_153_1 : am_at (am_m 153) 1 = some (.iconst 0, 0) := by decide +kernel
theorem at_153_2 : am_at (am_m 153) 2 = some (.aload_n 0, 0) := by decide +kernel
theorem at_153_3 : am_at (am_m 153) 3 = some (.iload_n 1, 0) := by decide +kernel
theorem at_153_4 : am_at (am_m 153) 4 = some (.iload_n 2, 0) := by decide +kernel
theorem at_153_5 : am_at (am_m 153) 5 = some (.invokevirtual 86, 154) := by decide +kernel
theorem at_153_8 : am_at (am_m 153) 8 = some (.i2l, 0) := by decide +kernel
theorem at_153_9 : am_at (am_m 153) 9 = some (.lastore, 0) := by decide +kernel
theorem at_153_10 : am_at (am_m 153) 10 = some (.goto 7, 17) := by decide +kernel
theorem at_153_15 : am_at (am_m 153) 15 = some (.iconst 1, 0) := by decide +kernel
theorem at_153_16 : am_at (am_m 153) 16 = some (.ireturn, 0) := by decide +kernel
theorem at_153_17 : am_at (am_m 153) 17 = some (.iconst 0, 0) := by decide +kernel
theorem at_153_18 : am_at (am_m 153) 18 = some (.ireturn, 0) := by decide +kernel
theorem at_154_0 : am_at (am_m 154) 0 = some (.iload_n 1, 0) := by decide +kernel
theorem at_154_1 : am_at (am_m 154) 1 = some (.ifCond .lt 30, 31) := by decide +kernel
theorem at_154_4 : am_at (am_m 154) 4 = some (.iload_n 1, 0) := by decide +kernel
theorem at_154_5 : am_at (am_m 154) 5 = some (.aload_n 0, 0) := by decide +kernel
theorem at_154_6 : am_at (am_m 154) 6 = some (.getfield 33, 2820) := by decide +kernel
theorem at_154_9 : am_at (am_m 154) 9 = some (.arraylength, 0) := by decide +kernel
theorem at_154_10 : am_at (am_m 154) 10 = some (.if_icmp .ge 21, 31) := by decide +kernel
theorem at_154_13 : am_at (am_m 154) 13 = some (.iload_n 2, 0) := by decide +kernel
theorem at_154_14 : am_at (am_m 154) 14 = some (.getstatic 293, 16) := by decide +kernel
theorem at_154_17 : am_at (am_m 154) 17 = some (.iload_n 1, 0) := by decide +kernel
theorem at_154_18 : am_at (am_m 154) 18 = some (.iaload, 0) := by decide +kernel
theorem at_154_19 : am_at (am_m 154) 19 = some (.if_icmp .lt 12, 31) := by decide +kernel
theorem at_154_22 : am_at (am_m 154) 22 = some (.iload_n 2, 0) := by decide +kernel
theorem at_154_23 : am_at (am_m 154) 23 = some (.getstatic 296, 17) := by decide +kernel
theorem at_154_26 : am_at (am_m 154) 26 = some (.iload_n 1, 0) := by decide +kernel
theorem at_154_27 : am_at (am_m 154) 27 = some (.iaload, 0) := by decide +kernel
theorem at_154_28 : am_at (am_m 154) 28 = some (.if_icmp .le 14, 42) := by decide +kernel
theorem at_154_31 : am_at (am_m 154) 31 = some (.new 114, 100) := by decide +kernel
theorem at_154_42 : am_at (am_m 154) 42 = some (.aload_n 0, 0) := by decide +kernel
theorem at_154_43 : am_at (am_m 154) 43 = some (.getfield 33, 2820) := by decide +kernel
theorem at_154_46 : am_at (am_m 154) 46 = some (.iload_n 1, 0) := by decide +kernel
theorem at_154_47 : am_at (am_m 154) 47 = some (.iaload, 0) := by decide +kernel
theorem at_154_48 : am_at (am_m 154) 48 = some (.istore_n 3, 0) := by decide +kernel
theorem at_154_49 : am_at (am_m 154) 49 = some (.aload_n 0, 0) := by decide +kernel
theorem at_154_50 : am_at (am_m 154) 50 = some (.getfield 33, 2820) := by decide +kernel
theorem at_154_53 : am_at (am_m 154) 53 = some (.iload_n 1, 0) := by decide +kernel
theorem at_154_54 : am_at (am_m 154) 54 = some (.iload_n 2, 0) := by decide +kernel
theorem at_154_55 : am_at (am_m 154) 55 = some (.iastore, 0) := by decide +kernel
theorem at_154_56 : am_at (am_m 154) 56 = some (.aload_n 0, 0) := by decide +kernel
theorem at_154_57 : am_at (am_m 154) 57 = some (.getfield 29, 2819) := by decide +kernel
theorem at_154_60 : am_at (am_m 154) 60 = some (.aload_n 0, 0) := by decide +kernel
theorem at_154_61 : am_at (am_m 154) 61 = some (.getfield 33, 2820) := by decide +kernel
theorem at_154_64 : am_at (am_m 154) 64 = some (.iconst 0, 0) := by decide +kernel
theorem at_154_65 : am_at (am_m 154) 65 = some (.iaload, 0) := by decide +kernel
theorem at_154_66 : am_at (am_m 154) 66 = some (.invokevirtual 301, 155) := by decide +kernel
theorem at_154_69 : am_at (am_m 154) 69 = some (.iload_n 3, 0) := by decide +kernel
theorem at_154_70 : am_at (am_m 154) 70 = some (.ireturn, 0) := by decide +kernel
theorem at_155_0 : am_at (am_m 155) 0 = some (.aload_n 0, 0) := by decide +kernel
theorem at_155_1 : am_at (am_m 155) 1 = some (.getfield 22, 514) := by decide +kernel
theorem at_155_4 : am_at (am_m 155) 4 = some (.iload_n 1, 0) := by decide +kernel
theorem at_155_5 : am_at (am_m 155) 5 = some (.putfield 36, 1536) := by decide +kernel
theorem at_155_8 : am_at (am_m 155) 8 = some (.aload_n 0, 0) := by decide +kernel
theorem at_155_9 : am_at (am_m 155) 9 = some (.getfield 26, 515) := by decide +kernel
theorem at_155_12 : am_at (am_m 155) 12 = some (.iload_n 1, 0) := by decide +kernel
theorem at_155_13 : am_at (am_m 155) 13 = some (.putfield 36, 1536) := by decide +kernel
theorem at_155_16 : am_at (am_m 155) 16 = some (.return_, 0) := by decide +kernel
theorem at_156_0 : am_at (am_m 156) 0 = some (.aload_n 3, 0) := by decide +kernel
theorem at_156_1 : am_at (am_m 156) 1 = some (.iconst 0, 0) := by decide +kernel
theorem at_156_2 : am_at (am_m 156) 2 = some (.aload_n 0, 0) := by decide +kernel
theorem at_156_3 : am_at (am_m 156) 3 = some (.iload_n 1, 0) := by decide +kernel
theorem at_156_4 : am_at (am_m 156) 4 = some (.iload_n 2, 0) := by decide +kernel
theorem at_156_5 : am_at (am_m 156) 5 = some (.invokevirtual 89, 157) := by decide +kernel
theorem at_156_8 : am_at (am_m 156) 8 = some (.i2l, 0) := by decide +kernel
theorem at_156_9 : am_at (am_m 156) 9 = some (.lastore, 0) := by decide +kernel
theorem at_156_10 : am_at (am_m 156) 10 = some (.goto 11, 21) := by decide +kernel
theorem at_156_15 : am_at (am_m 156) 15 = some (.iconst 1, 0) := by decide +kernel
theorem at_156_16 : am_at (am_m 156) 16 = some (.ireturn, 0) := by decide +kernel
theorem at_156_19 : am_at (am_m 156) 19 = some (.iconst 2, 0) := by decide +kernel
theorem at_156_20 : am_at (am_m 156) 20 = some (.ireturn, 0) := by decide +kernel
theorem at_156_21 : am_at (am_m 156) 21 = some (.iconst 0, 0) := by decide +kernel
theorem at_156_22 : am_at (am_m 156) 22 = some (.ireturn, 0) := by decide +kernel
theorem at_157_0 : am_at (am_m 157) 0 = some (.aload_n 0, 0) := by decide +kernel
theorem at_157_1 : am_at (am_m 157) 1 = some (.iload_n 1, 0) := by decide +kernel
theorem at_157_2 : am_at (am_m 157) 2 = some (.invokevirtual 132, 63) := by decide +kernel
theorem at_157_5 : am_at (am_m 157) 5 = some (.astore_n 3, 0) := by decide +kernel
theorem at_157_6 : am_at (am_m 157) 6 = some (.aload_n 0, 0) := by decide +kernel
theorem at_157_7 : am_at (am_m 157) 7 = some (.iload_n 2, 0) := by decide +kernel
theorem at_157_8 : am_at (am_m 157) 8 = some (.invokevirtual 304, 158) := by decide +kernel
theorem at_157_11 : am_at (am_m 157) 11 = some (.aload_n 0, 0) := by decide +kernel
theorem at_157_12 : am_at (am_m 157) 12 = some (.getfield 54, 2823) := by decide +kernel
theorem at_157_15 : am_at (am_m 157) 15 = some (.aload_n 3, 0) := by decide +kernel
theorem at_157_16 : am_at (am_m 157) 16 = some (.aconst_null, 0) := by decide +kernel
theorem at_157_17 : am_at (am_m 157) 17 = some (.iload_n 2, 0) := by decide +kernel
theorem at_157_18 : am_at (am_m 157) 18 = some (.invokevirtual 307, 159) := by decide +kernel
theorem at_157_21 : am_at (am_m 157) 21 = some (.pop, 0) := by decide +kernel
theorem at_157_22 : am_at (am_m 157) 22 = some (.aload_n 0, 0) := by decide +kernel
theorem at_157_23 : am_at (am_m 157) 23 = some (.getfield 54, 2823) := by decide +kernel
theorem at_157_26 : am_at (am_m 157) 26 = some (.invokevirtual 311, 162) := by decide +kernel
theorem at_157_29 : am_at (am_m 157) 29 = some (.ireturn, 0) := by decide +kernel
theorem at_158_0 : am_at (am_m 158) 0 = some (.iload_n 1, 0) := by decide +kernel
theorem at_158_1 : am_at (am_m 158) 1 = some (.ifCond .lt 8, 9) := by decide +kernel
theorem at_158_4 : am_at (am_m 158) 4 = some (.iload_n 1, 0) := by decide +kernel
theorem at_158_5 : am_at (am_m 158) 5 = some (.iconst 4, 0) := by decide +kernel
theorem at_158_6 : am_at (am_m 158) 6 = some (.if_icmp .lt 14, 20) := by decide +kernel
theorem at_158_9 : am_at (am_m 158) 9 = some (.new 114, 100) := by decide +kernel
theorem at_158_20 : am_at (am_m 158) 20 = some (.return_, 0) := by decide +kernel
theorem at_159_0 : am_at (am_m 159) 0 = some (.aload_n 0, 0) := by decide +kernel
theorem at_159_1 : am_at (am_m 159) 1 = some (.aload_n 1, 0) := by decide +kernel
theorem at_159_2 : am_at (am_m 159) 2 = some (.putfield 36, 5) := by decide +kernel
theorem at_159_5 : am_at (am_m 159) 5 = some (.aload_n 0, 0) := by decide +kernel
theorem at_159_6 : am_at (am_m 159) 6 = some (.aload_n 2, 0) := by decide +kernel
theorem at_159_7 : am_at (am_m 159) 7 = some (.putfield 39, 6) := by decide +kernel
theorem at_159_10 : am_at (am_m 159) 10 = some (.aload_n 0, 0) := by decide +kernel
theorem at_159_11 : am_at (am_m 159) 11 = some (.iconst 5, 0) := by decide +kernel
theorem at_159_12 : am_at (am_m 159) 12 = some (.aload_n 1, 0) := by decide +kernel
theorem at_159_13 : am_at (am_m 159) 13 = some (.getfield 61, 769) := by decide +kernel
theorem at_159_16 : am_at (am_m 159) 16 = some (.imul, 0) := by decide +kernel
theorem at_159_17 : am_at (am_m 159) 17 = some (.aload_n 2, 0) := by decide +kernel
theorem at_159_18 : am_at (am_m 159) 18 = some (.ifnonnull 7, 25) := by decide +kernel
theorem at_159_21 : am_at (am_m 159) 21 = some (.iload_n 3, 0) := by decide +kernel
theorem at_159_22 : am_at (am_m 159) 22 = some (.goto 4, 26) := by decide +kernel
theorem at_159_25 : am_at (am_m 159) 25 = some (.iconst 4, 0) := by decide +kernel
theorem at_159_26 : am_at (am_m 159) 26 = some (.iadd, 0) := by decide +kernel
theorem at_159_27 : am_at (am_m 159) 27 = some (.putfield 42, 7) := by decide +kernel
theorem at_159_30 : am_at (am_m 159) 30 = some (.aload_n 1, 0) := by decide +kernel
theorem at_159_31 : am_at (am_m 159) 31 = some (.getfield 61, 769) := by decide +kernel
theorem at_159_34 : am_at (am_m 159) 34 = some (.ifCond .ne 11, 45) := by decide +kernel
theorem at_159_37 : am_at (am_m 159) 37 = some (.aload_n 0, 0) := by decide +kernel
theorem at_159_38 : am_at (am_m 159) 38 = some (.getfield 26, 2) := by decide +kernel
theorem at_159_41 : am_at (am_m 159) 41 = some (.aload_n 1, 0) := by decide +kernel
theorem at_159_42 : am_at (am_m 159) 42 = some (.invokevirtual 64, 76) := by decide +kernel
theorem at_159_45 : am_at (am_m 159) 45 = some (.aload_n 2, 0) := by decide +kernel
theorem at_159_46 : am_at (am_m 159) 46 = some (.ifnull 25, 71) := by decide +kernel
theorem at_159_49 : am_at (am_m 159) 49 = some (.aload_n 1, 0) := by decide +kernel
theorem at_159_50 : am_at (am_m 159) 50 = some (.getfield 61, 769) := by decide +kernel
theorem at_159_53 : am_at (am_m 159) 53 = some (.ifCond .ne 18, 71) := by decide +kernel
theorem at_159_56 : am_at (am_m 159) 56 = some (.aload_n 2, 0) := by decide +kernel
theorem at_159_57 : am_at (am_m 159) 57 = some (.getfield 61, 769) := by decide +kernel
theorem at_159_60 : am_at (am_m 159) 60 = some (.ifCond .ne 11, 71) := by decide +kernel
theorem at_159_63 : am_at (am_m 159) 63 = some (.aload_n 0, 0) := by decide +kernel
theorem at_159_64 : am_at (am_m 159) 64 = some (.getfield 30, 3) := by decide +kernel
theorem at_159_67 : am_at (am_m 159) 67 = some (.aload_n 2, 0) := by decide +kernel
theorem at_159_68 : am_at (am_m 159) 68 = some (.invokevirtual 64, 76) := by decide +kernel
theorem at_159_71 : am_at (am_m 159) 71 = some (.aload_n 2, 0) := by decide +kernel
theorem at_159_72 : am_at (am_m 159) 72 = some (.ifnull 37, 109) := by decide +kernel
theorem at_159_75 : am_at (am_m 159) 75 = some (.aload_n 1, 0) := by decide +kernel
theorem at_159_76 : am_at (am_m 159) 76 = some (.getfield 61, 769) := by decide +kernel
theorem at_159_79 : am_at (am_m 159) 79 = some (.iconst 1, 0) := by decide +kernel
theorem at_159_80 : am_at (am_m 159) 80 = some (.if_icmp .ne 29, 109) := by decide +kernel
theorem at_159_83 : am_at (am_m 159) 83 = some (.aload_n 2, 0) := by decide +kernel
theorem at_159_84 : am_at (am_m 159) 84 = some (.getfield 61, 769) := by decide +kernel
theorem at_159_87 : am_at (am_m 159) 87 = some (.iconst 1, 0) := by decide +kernel
theorem at_159_88 : am_at (am_m 159) 88 = some (.if_icmp .ne 21, 109) := by decide +kernel
theorem at_159_91 : am_at (am_m 159) 91 = some (.aload_n 0, 0) := by decide +kernel
theorem at_159_92 : am_at (am_m 159) 92 = some (.getfield 26, 2) := by decide +kernel
theorem at_159_95 : am_at (am_m 159) 95 = some (.aload_n 1, 0) := by decide +kernel
theorem at_159_96 : am_at (am_m 159) 96 = some (.invokevirtual 68, 52) := by decide +kernel
theorem at_159_99 : am_at (am_m 159) 99 = some (.pop, 0) := by decide +kernel
theorem at_159_100 : am_at (am_m 159) 100 = some (.aload_n 0, 0) := by decide +kernel
theorem at_159_101 : am_at (am_m 159) 101 = some (.getfield 30, 3) := by decide +kernel
theorem at_159_104 : am_at (am_m 159) 104 = some (.aload_n 2, 0) := by decide +kernel
theorem at_159_105 : am_at (am_m 159) 105 = some (.invokevirtual 68, 52) := by decide +kernel
theorem at_159_108 : am_at (am_m 159) 108 = some (.pop, 0) := by decide +kernel
theorem at_159_109 : am_at (am_m 159) 109 = some (.aload_n 0, 0) := by decide +kernel
theorem at_159_110 : am_at (am_m 159) 110 = some (.aload_n 2, 0) := by decide +kernel
theorem at_159_111 : am_at (am_m 159) 111 = some (.ifnonnull 11, 122) := by decide +kernel
theorem at_159_114 : am_at (am_m 159) 114 = some (.aload_n 0, 0) := by decide +kernel
theorem at_159_115 : am_at (am_m 159) 115 = some (.iload_n 3, 0) := by decide +kernel
theorem at_159_116 : am_at (am_m 159) 116 = some (.invokevirtual 72, 160) := by decide +kernel
theorem at_159_119 : am_at (am_m 159) 119 = some (.goto 7, 126) := by decide +kernel
theorem at_159_122 : am_at (am_m 159) 122 = some (.aload_n 0, 0) := by decide +kernel
theorem at_159_123 : am_at (am_m 159) 123 = some (.invokevirtual 76, 161) := by decide +kernel
theorem at_159_126 : am_at (am_m 159) 126 = some (.putfield 49, 9) := by decide +kernel
theorem at_159_129 : am_at (am_m 159) 129 = some (.aload_n 0, 0) := by decide +kernel
theorem at_159_130 : am_at (am_m 159) 130 = some (.getfield 49, 9) := by decide +kernel
theorem at_159_133 : am_at (am_m 159) 133 = some (.ireturn, 0) := by decide +kernel
theorem at_160_0 : am_at (am_m 160) 0 = some (.aload_n 0, 0) := by decide +kernel
theorem at_160_1 : am_at (am_m 160) 1 = some (.getfield 36, 5) := by decide +kernel
theorem at_160_4 : am_at (am_m 160) 4 = some (.getfield 80, 771) := by decide +kernel
theorem at_160_7 : am_at (am_m 160) 7 = some (.istore_n 2, 0) := by decide +kernel
theorem at_160_8 : am_at (am_m 160) 8 = some (.aload_n 0, 0) := by decide +kernel
theorem at_160_9 : am_at (am_m 160) 9 = some (.aload_n 0, 0) := by decide +kernel
theorem at_160_10 : am_at (am_m 160) 10 = some (.getfield 36, 5) := by decide +kernel
theorem at_160_13 : am_at (am_m 160) 13 = some (.getfield 61, 769) := by decide +kernel
theorem at_160_16 : am_at (am_m 160) 16 = some (.iconst 2, 0) := by decide +kernel
theorem at_160_17 : am_at (am_m 160) 17 = some (.if_icmp .ne 7, 24) := by decide +kernel
theorem at_160_20 : am_at (am_m 160) 20 = some (.iload_n 2, 0) := by decide +kernel
theorem at_160_21 : am_at (am_m 160) 21 = some (.goto 37, 58) := by decide +kernel
theorem at_160_24 : am_at (am_m 160) 24 = some (.aload_n 0, 0) := by decide +kernel
theorem at_160_25 : am_at (am_m 160) 25 = some (.getfield 36, 5) := by decide +kernel
theorem at_160_28 : am_at (am_m 160) 28 = some (.getfield 61, 769) := by decide +kernel
theorem at_160_31 : am_at (am_m 160) 31 = some (.iconst 3, 0) := by decide +kernel
theorem at_160_32 : am_at (am_m 160) 32 = some (.if_icmp .ne 25, 57) := by decide +kernel
theorem at_160_35 : am_at (am_m 160) 35 = some (.aload_n 0, 0) := by decide +kernel
theorem at_160_36 : am_at (am_m 160) 36 = some (.getfield 36, 5) := by decide +kernel
theorem at_160_39 : am_at (am_m 160) 39 = some (.getfield 83, 770) := by decide +kernel
theorem at_160_42 : am_at (am_m 160) 42 = some (.aload_n 0, 0) := by decide +kernel
theorem at_160_43 : am_at (am_m 160) 43 = some (.getfield 36, 5) := by decide +kernel
theorem at_160_46 : am_at (am_m 160) 46 = some (.getfield 83, 770) := by decide +kernel
theorem at_160_49 : am_at (am_m 160) 49 = some (.iconst 1, 0) := by decide +kernel
theorem at_160_50 : am_at (am_m 160) 50 = some (.isub, 0) := by decide +kernel
theorem at_160_51 : am_at (am_m 160) 51 = some (.imul, 0) := by decide +kernel
theorem at_160_52 : am_at (am_m 160) 52 = some (.iconst 2, 0) := by decide +kernel
theorem at_160_53 : am_at (am_m 160) 53 = some (.idiv, 0) := by decide +kernel
theorem at_160_54 : am_at (am_m 160) 54 = some (.goto 4, 58) := by decide +kernel
theorem at_160_57 : am_at (am_m 160) 57 = some (.iconst 1, 0) := by decide +kernel
theorem at_160_58 : am_at (am_m 160) 58 = some (.putfield 46, 8) := by decide +kernel
theorem at_160_61 : am_at (am_m 160) 61 = some (.aload_n 0, 0) := by decide +kernel
theorem at_160_62 : am_at (am_m 160) 62 = some (.getfield 42, 7) := by decide +kernel
theorem at_160_65 : am_at (am_m 160) 65 = some (.tableswitch 151 1 17 #[83, 88, 88, 151, 151, 92, 88, 97, 151, 151, 103, 109, 151, 151, 123, 130, 132], 0) := by decide +kernel
theorem at_160_148 : am_at (am_m 160) 148 = some (.bipush 21, 0) := by decide +kernel
theorem at_160_150 : am_at (am_m 160) 150 = some (.iload_n 2, 0) := by decide +kernel
theorem at_160_151 : am_at (am_m 160) 151 = some (.imul, 0) := by decide +kernel
theorem at_160_152 : am_at (am_m 160) 152 = some (.ireturn, 0) := by decide +kernel
theorem at_160_153 : am_at (am_m 160) 153 = some (.iconst 3, 0) := by decide +kernel
theorem at_160_154 : am_at (am_m 160) 154 = some (.iload_n 2, 0) := by decide +kernel
theorem at_160_155 : am_at (am_m 160) 155 = some (.imul, 0) := by decide +kernel
theorem at_160_156 : am_at (am_m 160) 156 = some (.ireturn, 0) := by decide +kernel
theorem at_160_157 : am_at (am_m 160) 157 = some (.bipush 14, 0) := by decide +kernel
theorem at_160_159 : am_at (am_m 160) 159 = some (.iload_n 2, 0) := by decide +kernel
theorem at_160_160 : am_at (am_m 160) 160 = some (.imul, 0) := by decide +kernel
theorem at_160_161 : am_at (am_m 160) 161 = some (.ireturn, 0) := by decide +kernel
theorem at_160_162 : am_at (am_m 160) 162 = some (.iconst 5, 0) := by decide +kernel
theorem at_160_163 : am_at (am_m 160) 163 = some (.iload_n 2, 0) := by decide +kernel
theorem at_160_164 : am_at (am_m 160) 164 = some (.iconst 1, 0) := by decide +kernel
theorem at_160_165 : am_at (am_m 160) 165 = some (.iadd, 0) := by decide +kernel
theorem at_160_166 : am_at (am_m 160) 166 = some (.imul, 0) := by decide +kernel
theorem at_160_167 : am_at (am_m 160) 167 = some (.ireturn, 0) := by decide +kernel
theorem at_160_168 : am_at (am_m 160) 168 = some (.iconst 4, 0) := by decide +kernel
theorem at_160_169 : am_at (am_m 160) 169 = some (.iload_n 2, 0) := by decide +kernel
theorem at_160_170 : am_at (am_m 160) 170 = some (.imul, 0) := by decide +kernel
theorem at_160_171 : am_at (am_m 160) 171 = some (.iload_n 2, 0) := by decide +kernel
theorem at_160_172 : am_at (am_m 160) 172 = some (.imul, 0) := by decide +kernel
theorem at_160_173 : am_at (am_m 160) 173 = some (.ireturn, 0) := by decide +kernel
theorem at_160_174 : am_at (am_m 160) 174 = some (.iload_n 2, 0) := by decide +kernel
theorem at_160_175 : am_at (am_m 160) 175 = some (.bipush 6, 0) := by decide +kernel
theorem at_160_177 : am_at (am_m 160) 177 = some (.if_icmp .ge 9, 186) := by decide +kernel
theorem at_160_180 : am_at (am_m 160) 180 = some (.iconst 4, 0) := by decide +kernel
theorem at_160_181 : am_at (am_m 160) 181 = some (.iload_n 2, 0) := by decide +kernel
theorem at_160_182 : am_at (am_m 160) 182 = some (.imul, 0) := by decide +kernel
theorem at_160_183 : am_at (am_m 160) 183 = some (.goto 4, 187) := by decide +kernel
theorem at_160_186 : am_at (am_m 160) 186 = some (.iconst 0, 0) := by decide +kernel
theorem at_160_187 : am_at (am_m 160) 187 = some (.ireturn, 0) := by decide +kernel
theorem at_160_188 : am_at (am_m 160) 188 = some (.iload_n 2, 0) := by decide +kernel
theorem at_160_189 : am_at (am_m 160) 189 = some (.aload_n 0, 0) := by decide +kernel
theorem at_160_190 : am_at (am_m 160) 190 = some (.getfield 46, 8) := by decide +kernel
theorem at_160_193 : am_at (am_m 160) 193 = some (.imul, 0) := by decide +kernel
theorem at_160_194 : am_at (am_m 160) 194 = some (.ireturn, 0) := by decide +kernel
theorem at_160_195 : am_at (am_m 160) 195 = some (.iload_n 2, 0) := by decide +kernel
theorem at_160_196 : am_at (am_m 160) 196 = some (.ireturn, 0) := by decide +kernel
theorem at_160_197 : am_at (am_m 160) 197 = some (.iload_n 2, 0) := by decide +kernel
theorem at_160_198 : am_at (am_m 160) 198 = some (.bipush 40, 0) := by decide +kernel
theorem at_160_200 : am_at (am_m 160) 200 = some (.if_icmp .ge 14, 214) := by decide +kernel
theorem at_160_203 : am_at (am_m 160) 203 = some (.iload_n 2, 0) := by decide +kernel
theorem at_160_204 : am_at (am_m 160) 204 = some (.iconst 1, 0) := by decide +kernel
theorem at_160_205 : am_at (am_m 160) 205 = some (.iadd, 0) := by decide +kernel
theorem at_160_206 : am_at (am_m 160) 206 = some (.aload_n 0, 0) := by decide +kernel
theorem at_160_207 : am_at (am_m 160) 207 = some (.getfield 46, 8) := by decide +kernel
theorem at_160_210 : am_at (am_m 160) 210 = some (.imul, 0) := by decide +kernel
theorem at_160_211 : am_at (am_m 160) 211 = some (.goto 4, 215) := by decide +kernel
theorem at_160_214 : am_at (am_m 160) 214 = some (.iconst 0, 0) := by decide +kernel
theorem at_160_215 : am_at (am_m 160) 215 = some (.ireturn, 0) := by decide +kernel
theorem at_160_216 : am_at (am_m 160) 216 = some (.iload_n 1, 0) := by decide +kernel
theorem at_160_217 : am_at (am_m 160) 217 = some (.ifCond .ne 9, 226) := by decide +kernel
theorem at_160_220 : am_at (am_m 160) 220 = some (.iconst 5, 0) := by decide +kernel
theorem at_160_221 : am_at (am_m 160) 221 = some (.iload_n 2, 0) := by decide +kernel
theorem at_160_222 : am_at (am_m 160) 222 = some (.imul, 0) := by decide +kernel
theorem at_160_223 : am_at (am_m 160) 223 = some (.goto 6, 229) := by decide +kernel
theorem at_160_226 : am_at (am_m 160) 226 = some (.iload_n 2, 0) := by decide +kernel
theorem at_160_227 : am_at (am_m 160) 227 = some (.iconst 1, 0) := by decide +kernel
theorem at_160_228 : am_at (am_m 160) 228 = some (.isub, 0) := by decide +kernel
theorem at_160_229 : am_at (am_m 160) 229 = some (.ireturn, 0) := by decide +kernel
theorem at_161_0 : am_at (am_m 161) 0 = some (.aload_n 0, 0) := by decide +kernel
theorem at_161_1 : am_at (am_m 161) 1 = some (.getfield 36, 5) := by decide +kernel
theorem at_161_4 : am_at (am_m 161) 4 = some (.getfield 61, 769) := by decide +kernel
theorem at_161_7 : am_at (am_m 161) 7 = some (.aload_n 0, 0) := by decide +kernel
theorem at_161_8 : am_at (am_m 161) 8 = some (.getfield 39, 6) := by decide +kernel
theorem at_161_11 : am_at (am_m 161) 11 = some (.getfield 61, 769) := by decide +kernel
theorem at_161_14 : am_at (am_m 161) 14 = some (.if_icmp .ne 48, 62) := by decide +kernel
theorem at_161_17 : am_at (am_m 161) 17 = some (.aload_n 0, 0) := by decide +kernel
theorem at_161_18 : am_at (am_m 161) 18 = some (.getfield 36, 5) := by decide +kernel
theorem at_161_21 : am_at (am_m 161) 21 = some (.getfield 83, 770) := by decide +kernel
theorem at_161_24 : am_at (am_m 161) 24 = some (.aload_n 0, 0) := by decide +kernel
theorem at_161_25 : am_at (am_m 161) 25 = some (.getfield 39, 6) := by decide +kernel
theorem at_161_28 : am_at (am_m 161) 28 = some (.getfield 83, 770) := by decide +kernel
theorem at_161_31 : am_at (am_m 161) 31 = some (.if_icmp .ne 31, 62) := by decide +kernel
theorem at_161_34 : am_at (am_m 161) 34 = some (.aload_n 0, 0) := by decide +kernel
theorem at_161_35 : am_at (am_m 161) 35 = some (.getfield 36, 5) := by decide +kernel
theorem at_161_38 : am_at (am_m 161) 38 = some (.getfield 61, 769) := by decide +kernel
theorem at_161_41 : am_at (am_m 161) 41 = some (.iconst 2, 0) := by decide +kernel
theorem at_161_42 : am_at (am_m 161) 42 = some (.if_icmp .ne 22, 64) := by decide +kernel
theorem at_161_45 : am_at (am_m 161) 45 = some (.aload_n 0, 0) := by decide +kernel
theorem at_161_46 : am_at (am_m 161) 46 = some (.getfield 36, 5) := by decide +kernel
theorem at_161_49 : am_at (am_m 161) 49 = some (.getfield 80, 771) := by decide +kernel
theorem at_161_52 : am_at (am_m 161) 52 = some (.aload_n 0, 0) := by decide +kernel
theorem at_161_53 : am_at (am_m 161) 53 = some (.getfield 39, 6) := by decide +kernel
theorem at_161_56 : am_at (am_m 161) 56 = some (.getfield 80, 771) := by decide +kernel
theorem at_161_59 : am_at (am_m 161) 59 = some (.if_icmp .eq 5, 64) := by decide +kernel
theorem at_161_62 : am_at (am_m 161) 62 = some (.iconst 0, 0) := by decide +kernel
theorem at_161_63 : am_at (am_m 161) 63 = some (.ireturn, 0) := by decide +kernel
theorem at_161_64 : am_at (am_m 161) 64 = some (.aload_n 0, 0) := by decide +kernel
theorem at_161_65 : am_at (am_m 161) 65 = some (.aload_n 0, 0) := by decide +kernel
theorem at_161_66 : am_at (am_m 161) 66 = some (.getfield 36, 5) := by decide +kernel
theorem at_161_69 : am_at (am_m 161) 69 = some (.getfield 61, 769) := by decide +kernel
theorem at_161_72 : am_at (am_m 161) 72 = some (.ifCond .ne 13, 85) := by decide +kernel
theorem at_161_75 : am_at (am_m 161) 75 = some (.aload_n 0, 0) := by decide +kernel
theorem at_161_76 : am_at (am_m 161) 76 = some (.getfield 39, 6) := by decide +kernel
theorem at_161_79 : am_at (am_m 161) 79 = some (.getfield 80, 771) := by decide +kernel
theorem at_161_82 : am_at (am_m 161) 82 = some (.goto 12, 94) := by decide +kernel
theorem at_161_85 : am_at (am_m 161) 85 = some (.aload_n 0, 0) := by decide +kernel
theorem at_161_86 : am_at (am_m 161) 86 = some (.getfield 39, 6) := by decide +kernel
theorem at_161_89 : am_at (am_m 161) 89 = some (.getfield 80, 771) := by decide +kernel
theorem at_161_92 : am_at (am_m 161) 92 = some (.iconst 1, 0) := by decide +kernel
theorem at_161_93 : am_at (am_m 161) 93 = some (.iadd, 0) := by decide +kernel
theorem at_161_94 : am_at (am_m 161) 94 = some (.putfield 46, 8) := by decide +kernel
theorem at_161_97 : am_at (am_m 161) 97 = some (.aload_n 0, 0) := by decide +kernel
theorem at_161_98 : am_at (am_m 161) 98 = some (.getfield 36, 5) := by decide +kernel
theorem at_161_101 : am_at (am_m 161) 101 = some (.getfield 61, 769) := by decide +kernel
theorem at_161_104 : am_at (am_m 161) 104 = some (.iconst 2, 0) := by decide +kernel
theorem at_161_105 : am_at (am_m 161) 105 = some (.if_icmp .ne 17, 122) := by decide +kernel
theorem at_161_108 : am_at (am_m 161) 108 = some (.iconst 1, 0) := by decide +kernel
theorem at_161_109 : am_at (am_m 161) 109 = some (.aload_n 0, 0) := by decide +kernel
theorem at_161_110 : am_at (am_m 161) 110 = some (.getfield 36, 5) := by decide +kernel
theorem at_161_113 : am_at (am_m 161) 113 = some (.getfield 80, 771) := by decide +kernel
theorem at_161_116 : am_at (am_m 161) 116 = some (.ishl, 0) := by decide +kernel
theorem at_161_117 : am_at (am_m 161) 117 = some (.iconst 2, 0) := by decide +kernel
theorem at_161_118 : am_at (am_m 161) 118 = some (.isub, 0) := by decide +kernel
theorem at_161_119 : am_at (am_m 161) 119 = some (.goto 42, 161) := by decide +kernel
theorem at_161_122 : am_at (am_m 161) 122 = some (.aload_n 0, 0) := by decide +kernel
theorem at_161_123 : am_at (am_m 161) 123 = some (.getfield 36, 5) := by decide +kernel
theorem at_161_126 : am_at (am_m 161) 126 = some (.getfield 61, 769) := by decide +kernel
theorem at_161_129 : am_at (am_m 161) 129 = some (.ifCond .ne 18, 147) := by decide +kernel
theorem at_161_132 : am_at (am_m 161) 132 = some (.aload_n 0, 0) := by decide +kernel
theorem at_161_133 : am_at (am_m 161) 133 = some (.getfield 36, 5) := by decide +kernel
theorem at_161_136 : am_at (am_m 161) 136 = some (.getfield 80, 771) := by decide +kernel
theorem at_161_139 : am_at (am_m 161) 139 = some (.aload_n 0, 0) := by decide +kernel
theorem at_161_140 : am_at (am_m 161) 140 = some (.getfield 46, 8) := by decide +kernel
theorem at_161_143 : am_at (am_m 161) 143 = some (.imul, 0) := by decide +kernel
theorem at_161_144 : am_at (am_m 161) 144 = some (.goto 17, 161) := by decide +kernel
theorem at_161_147 : am_at (am_m 161) 147 = some (.aload_n 0, 0) := by decide +kernel
theorem at_161_148 : am_at (am_m 161) 148 = some (.getfield 36, 5) := by decide +kernel
theorem at_161_151 : am_at (am_m 161) 151 = some (.getfield 80, 771) := by decide +kernel
theorem at_161_154 : am_at (am_m 161) 154 = some (.iconst 1, 0) := by decide +kernel
theorem at_161_155 : am_at (am_m 161) 155 = some (.iadd, 0) := by decide +kernel
theorem at_161_156 : am_at (am_m 161) 156 = some (.aload_n 0, 0) := by decide +kernel
theorem at_161_157 : am_at (am_m 161) 157 = some (.getfield 46, 8) := by decide +kernel
theorem at_161_160 : am_at (am_m 161) 160 = some (.imul, 0) := by decide +kernel
theorem at_161_161 : am_at (am_m 161) 161 = some (.ireturn, 0) := by decide +kernel
theorem at_162_0 : am_at (am_m 162) 0 = some (.iconst 0, 0) := by decide +kernel
theorem at_162_1 : am_at (am_m 162) 1 = some (.istore_n 1, 0) := by decide +kernel
theorem at_162_2 : am_at (am_m 162) 2 = some (.iconst 0, 0) := by decide +kernel
theorem at_162_3 : am_at (am_m 162) 3 = some (.istore_n 2, 0) := by decide +kernel
theorem at_162_4 : am_at (am_m 162) 4 = some (.iload_n 2, 0) := by decide +kernel
theorem at_162_5 : am_at (am_m 162) 5 = some (.aload_n 0, 0) := by decide +kernel
theorem at_162_6 : am_at (am_m 162) 6 = some (.getfield 49, 9) := by decide +kernel
theorem at_162_9 : am_at (am_m 162) 9 = some (.if_icmp .ge 25, 34) := by decide +kernel
theorem at_162_12 : am_at (am_m 162) 12 = some (.iload_n 1, 0) := by decide +kernel
theorem at_162_13 : am_at (am_m 162) 13 = some (.aload_n 0, 0) := by decide +kernel
theorem at_162_14 : am_at (am_m 162) 14 = some (.iload_n 2, 0) := by decide +kernel
theorem at_162_15 : am_at (am_m 162) 15 = some (.invokevirtual 86, 163) := by decide +kernel
theorem at_162_18 : am_at (am_m 162) 18 = some (.ifCond .eq 7, 25) := by decide +kernel
theorem at_162_21 : am_at (am_m 162) 21 = some (.iconst 1, 0) := by decide +kernel
theorem at_162_22 : am_at (am_m 162) 22 = some (.goto 4, 26) := by decide +kernel
theorem at_162_25 : am_at (am_m 162) 25 = some (.iconst 0, 0) := by decide +kernel
theorem at_162_26 : am_at (am_m 162) 26 = some (.iadd, 0) := by decide +kernel
theorem at_162_27 : am_at (am_m 162) 27 = some (.istore_n 1, 0) := by decide +kernel
theorem at_162_28 : am_at (am_m 162) 28 = some (.iinc 2 1, 0) := by decide +kernel
theorem at_162_31 : am_at (am_m 162) 31 = some (.goto (-27), 4) := by decide +kernel
theorem at_162_34 : am_at (am_m 162) 34 = some (.iload_n 1, 0) := by decide +kernel
theorem at_162_35 : am_at (am_m 162) 35 = some (.ireturn, 0) := by decide +kernel
theorem at_163_0 : am_at (am_m 163) 0 = some (.aload_n 0, 0) := by decide +kernel
theorem at_163_1 : am_at (am_m 163) 1 = some (.getfield 46, 8) := by decide +kernel
theorem at_163_4 : am_at (am_m 163) 4 = some (.iconst 1, 0) := by decide +kernel
theorem at_163_5 : am_at (am_m 163) 5 = some (.if_icmp .ge 5, 10) := by decide +kernel
theorem at_163_8 : am_at (am_m 163) 8 = some (.iconst 0, 0) := by decide +kernel
theorem at_163_9 : am_at (am_m 163) 9 = some (.ireturn, 0) := by decide +kernel
theorem at_163_10 : am_at (am_m 163) 10 = some (.aload_n 0, 0) := by decide +kernel
theorem at_163_11 : am_at (am_m 163) 11 = some (.getfield 42, 7) := by decide +kernel
theorem at_163_14 : am_at (am_m 163) 14 = some (.tableswitch 486 0 18 #[90, 124, 137, 166, 195, 233, 267, 280, 315, 348, 387, 399, 416, 422, 430, 438, 456, 462, 480], 0) := by decide +kernel
theorem at_163_104 : am_at (am_m 163) 104 = some (.aload_n 0, 0) := by decide +kernel
theorem at_163_105 : am_at (am_m 163) 105 = some (.getfield 36, 5) := by decide +kernel
theorem at_163_108 : am_at (am_m 163) 108 = some (.iload_n 1, 0) := by decide +kernel
theorem at_163_109 : am_at (am_m 163) 109 = some (.iconst 5, 0) := by decide +kernel
theorem at_163_110 : am_at (am_m 163) 110 = some (.idiv, 0) := by decide +kernel
theorem at_163_111 : am_at (am_m 163) 111 = some (.iconst 0, 0) := by decide +kernel
theorem at_163_112 : am_at (am_m 163) 112 = some (.invokevirtual 90, 54) := by decide +kernel
theorem at_163_115 : am_at (am_m 163) 115 = some (.ifCond .ne 21, 136) := by decide +kernel
theorem at_163_118 : am_at (am_m 163) 118 = some (.aload_n 0, 0) := by decide +kernel
theorem at_163_119 : am_at (am_m 163) 119 = some (.iload_n 1, 0) := by decide +kernel
theorem at_163_120 : am_at (am_m 163) 120 = some (.iconst 5, 0) := by decide +kernel
theorem at_163_121 : am_at (am_m 163) 121 = some (.idiv, 0) := by decide +kernel
theorem at_163_122 : am_at (am_m 163) 122 = some (.iconst 1, 0) := by decide +kernel
theorem at_163_123 : am_at (am_m 163) 123 = some (.iload_n 1, 0) := by decide +kernel
theorem at_163_124 : am_at (am_m 163) 124 = some (.iconst 5, 0) := by decide +kernel
