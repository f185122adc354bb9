theorem at_340_58 : am_at (am_m 340) 58 = some (.ineg, 0) := by decide +kernel
theorem at_340_59 : am_at (am_m 340) 59 = some (.goto 7, 66) := by decide +kernel
theorem at_340_62 : am_at (am_m 340) 62 = some (.aload_n 0, 0) := by decide +kernel
theorem at_340_63 : am_at (am_m 340) 63 = some (.getfield 477, 3144) := by decide +kernel
theorem at_340_66 : am_at (am_m 340) 66 = some (.putfield 477, 3144) := by decide +kernel
theorem at_340_69 : am_at (am_m 340) 69 = some (.iconst 1, 0) := by decide +kernel
theorem at_340_70 : am_at (am_m 340) 70 = some (.ireturn, 0) := by decide +kernel
theorem at_341_0 : am_at (am_m 341) 0 = some (.aload_n 0, 0) := by decide +kernel
theorem at_341_1 : am_at (am_m 341) 1 = some (.aload_n 0, 0) := by decide +kernel
theorem at_341_2 : am_at (am_m 341) 2 = some (.getfield 468, 3141) := by decide +kernel
theorem at_341_5 : am_at (am_m 341) 5 = some (.invokevirtual 474, 339) := by decide +kernel
theorem at_341_8 : am_at (am_m 341) 8 = some (.ifCond .ne 12, 20) := by decide +kernel
theorem at_341_11 : am_at (am_m 341) 11 = some (.aload_n 0, 0) := by decide +kernel
theorem at_341_12 : am_at (am_m 341) 12 = some (.aload_n 0, 0) := by decide +kernel
theorem at_341_13 : am_at (am_m 341) 13 = some (.getfield 468, 3141) := by decide +kernel
theorem at_341_16 : am_at (am_m 341) 16 = some (.invokevirtual 471, 331) := by decide +kernel
theorem at_341_19 : am_at (am_m 341) 19 = some (.ireturn, 0) := by decide +kernel
theorem at_341_20 : am_at (am_m 341) 20 = some (.aload_n 0, 0) := by decide +kernel
theorem at_341_21 : am_at (am_m 341) 21 = some (.aload_n 0, 0) := by decide +kernel
theorem at_341_22 : am_at (am_m 341) 22 = some (.getfield 142, 3139) := by decide +kernel
theorem at_341_25 : am_at (am_m 341) 25 = some (.aload_n 0, 0) := by decide +kernel
theorem at_341_26 : am_at (am_m 341) 26 = some (.getfield 468, 3141) := by decide +kernel
theorem at_341_29 : am_at (am_m 341) 29 = some (.iaload, 0) := by decide +kernel
theorem at_341_30 : am_at (am_m 341) 30 = some (.bipush 48, 0) := by decide +kernel
theorem at_341_32 : am_at (am_m 341) 32 = some (.isub, 0) := by decide +kernel
theorem at_341_33 : am_at (am_m 341) 33 = some (.putfield 477, 3144) := by decide +kernel
theorem at_341_36 : am_at (am_m 341) 36 = some (.aload_n 0, 0) := by decide +kernel
theorem at_341_37 : am_at (am_m 341) 37 = some (.dup, 0) := by decide +kernel
theorem at_341_38 : am_at (am_m 341) 38 = some (.getfield 468, 3141) := by decide +kernel
theorem at_341_41 : am_at (am_m 341) 41 = some (.iconst 1, 0) := by decide +kernel
theorem at_341_42 : am_at (am_m 341) 42 = some (.iadd, 0) := by decide +kernel
theorem at_341_43 : am_at (am_m 341) 43 = some (.putfield 468, 3141) := by decide +kernel
theorem at_341_46 : am_at (am_m 341) 46 = some (.aload_n 0, 0) := by decide +kernel
theorem at_341_47 : am_at (am_m 341) 47 = some (.aload_n 0, 0) := by decide +kernel
theorem at_341_48 : am_at (am_m 341) 48 = some (.getfield 468, 3141) := by decide +kernel
theorem at_341_51 : am_at (am_m 341) 51 = some (.invokevirtual 474, 339) := by decide +kernel
theorem at_341_54 : am_at (am_m 341) 54 = some (.ifCond .eq 37, 91) := by decide +kernel
theorem at_341_57 : am_at (am_m 341) 57 = some (.aload_n 0, 0) := by decide +kernel
theorem at_341_58 : am_at (am_m 341) 58 = some (.bipush 10, 0) := by decide +kernel
theorem at_341_60 : am_at (am_m 341) 60 = some (.aload_n 0, 0) := by decide +kernel
theorem at_341_61 : am_at (am_m 341) 61 = some (.getfield 477, 3144) := by decide +kernel
theorem at_341_64 : am_at (am_m 341) 64 = some (.imul, 0) := by decide +kernel
theorem at_341_65 : am_at (am_m 341) 65 = some (.aload_n 0, 0) := by decide +kernel
theorem at_341_66 : am_at (am_m 341) 66 = some (.getfield 142, 3139) := by decide +kernel
theorem at_341_69 : am_at (am_m 341) 69 = some (.aload_n 0, 0) := by decide +kernel
theorem at_341_70 : am_at (am_m 341) 70 = some (.getfield 468, 3141) := by decide +kernel
theorem at_341_73 : am_at (am_m 341) 73 = some (.iaload, 0) := by decide +kernel
theorem at_341_74 : am_at (am_m 341) 74 = some (.iadd, 0) := by decide +kernel
theorem at_341_75 : am_at (am_m 341) 75 = some (.bipush 48, 0) := by decide +kernel
theorem at_341_77 : am_at (am_m 341) 77 = some (.isub, 0) := by decide +kernel
theorem at_341_78 : am_at (am_m 341) 78 = some (.putfield 477, 3144) := by decide +kernel
theorem at_341_81 : am_at (am_m 341) 81 = some (.aload_n 0, 0) := by decide +kernel
theorem at_341_82 : am_at (am_m 341) 82 = some (.dup, 0) := by decide +kernel
theorem at_341_83 : am_at (am_m 341) 83 = some (.getfield 468, 3141) := by decide +kernel
theorem at_341_86 : am_at (am_m 341) 86 = some (.iconst 1, 0) := by decide +kernel
theorem at_341_87 : am_at (am_m 341) 87 = some (.iadd, 0) := by decide +kernel
theorem at_341_88 : am_at (am_m 341) 88 = some (.putfield 468, 3141) := by decide +kernel
theorem at_341_91 : am_at (am_m 341) 91 = some (.iconst 1, 0) := by decide +kernel
theorem at_341_92 : am_at (am_m 341) 92 = some (.ireturn, 0) := by decide +kernel
theorem at_342_0 : am_at (am_m 342) 0 = some (.aload_n 0, 0) := by decide +kernel
theorem at_342_1 : am_at (am_m 342) 1 = some (.getfield 506, 3149) := by decide +kernel
theorem at_342_4 : am_at (am_m 342) 4 = some (.ifCond .eq 10, 14) := by decide +kernel
theorem at_342_7 : am_at (am_m 342) 7 = some (.aload_n 0, 0) := by decide +kernel
theorem at_342_8 : am_at (am_m 342) 8 = some (.iconst 0, 0) := by decide +kernel
theorem at_342_9 : am_at (am_m 342) 9 = some (.putfield 506, 3149) := by decide +kernel
theorem at_342_12 : am_at (am_m 342) 12 = some (.iconst 1, 0) := by decide +kernel
theorem at_342_13 : am_at (am_m 342) 13 = some (.ireturn, 0) := by decide +kernel
theorem at_342_14 : am_at (am_m 342) 14 = some (.aload_n 0, 0) := by decide +kernel
theorem at_342_15 : am_at (am_m 342) 15 = some (.getfield 482, 3145) := by decide +kernel
theorem at_342_18 : am_at (am_m 342) 18 = some (.ifCond .le 77, 95) := by decide +kernel
theorem at_342_21 : am_at (am_m 342) 21 = some (.aload_n 0, 0) := by decide +kernel
theorem at_342_22 : am_at (am_m 342) 22 = some (.getfield 151, 3147) := by decide +kernel
theorem at_342_25 : am_at (am_m 342) 25 = some (.aload_n 0, 0) := by decide +kernel
theorem at_342_26 : am_at (am_m 342) 26 = some (.getfield 482, 3145) := by decide +kernel
theorem at_342_29 : am_at (am_m 342) 29 = some (.iconst 1, 0) := by decide +kernel
theorem at_342_30 : am_at (am_m 342) 30 = some (.isub, 0) := by decide +kernel
theorem at_342_31 : am_at (am_m 342) 31 = some (.dup2, 0) := by decide +kernel
theorem at_342_32 : am_at (am_m 342) 32 = some (.iaload, 0) := by decide +kernel
theorem at_342_33 : am_at (am_m 342) 33 = some (.iconst 1, 0) := by decide +kernel
theorem at_342_34 : am_at (am_m 342) 34 = some (.iadd, 0) := by decide +kernel
theorem at_342_35 : am_at (am_m 342) 35 = some (.iastore, 0) := by decide +kernel
theorem at_342_36 : am_at (am_m 342) 36 = some (.aload_n 0, 0) := by decide +kernel
theorem at_342_37 : am_at (am_m 342) 37 = some (.getfield 151, 3147) := by decide +kernel
theorem at_342_40 : am_at (am_m 342) 40 = some (.aload_n 0, 0) := by decide +kernel
theorem at_342_41 : am_at (am_m 342) 41 = some (.getfield 482, 3145) := by decide +kernel
theorem at_342_44 : am_at (am_m 342) 44 = some (.iconst 1, 0) := by decide +kernel
theorem at_342_45 : am_at (am_m 342) 45 = some (.isub, 0) := by decide +kernel
theorem at_342_46 : am_at (am_m 342) 46 = some (.iaload, 0) := by decide +kernel
theorem at_342_47 : am_at (am_m 342) 47 = some (.aload_n 0, 0) := by decide +kernel
theorem at_342_48 : am_at (am_m 342) 48 = some (.getfield 148, 3146) := by decide +kernel
theorem at_342_51 : am_at (am_m 342) 51 = some (.aload_n 0, 0) := by decide +kernel
theorem at_342_52 : am_at (am_m 342) 52 = some (.getfield 482, 3145) := by decide +kernel
theorem at_342_55 : am_at (am_m 342) 55 = some (.iconst 1, 0) := by decide +kernel
theorem at_342_56 : am_at (am_m 342) 56 = some (.isub, 0) := by decide +kernel
theorem at_342_57 : am_at (am_m 342) 57 = some (.iaload, 0) := by decide +kernel
theorem at_342_58 : am_at (am_m 342) 58 = some (.invokestatic 327, 343) := by decide +kernel
theorem at_342_61 : am_at (am_m 342) 61 = some (.if_icmp .ge 10, 71) := by decide +kernel
theorem at_342_64 : am_at (am_m 342) 64 = some (.aload_n 0, 0) := by decide +kernel
theorem at_342_65 : am_at (am_m 342) 65 = some (.bipush 32, 0) := by decide +kernel
theorem at_342_67 : am_at (am_m 342) 67 = some (.invokevirtual 494, 336) := by decide +kernel
theorem at_342_70 : am_at (am_m 342) 70 = some (.ireturn, 0) := by decide +kernel
theorem at_342_71 : am_at (am_m 342) 71 = some (.aload_n 0, 0) := by decide +kernel
theorem at_342_72 : am_at (am_m 342) 72 = some (.bipush 41, 0) := by decide +kernel
theorem at_342_74 : am_at (am_m 342) 74 = some (.invokevirtual 494, 336) := by decide +kernel
theorem at_342_77 : am_at (am_m 342) 77 = some (.ifCond .ne 5, 82) := by decide +kernel
theorem at_342_80 : am_at (am_m 342) 80 = some (.iconst 0, 0) := by decide +kernel
theorem at_342_81 : am_at (am_m 342) 81 = some (.ireturn, 0) := by decide +kernel
theorem at_342_82 : am_at (am_m 342) 82 = some (.aload_n 0, 0) := by decide +kernel
theorem at_342_83 : am_at (am_m 342) 83 = some (.dup, 0) := by decide +kernel
theorem at_342_84 : am_at (am_m 342) 84 = some (.getfield 482, 3145) := by decide +kernel
theorem at_342_87 : am_at (am_m 342) 87 = some (.iconst 1, 0) := by decide +kernel
theorem at_342_88 : am_at (am_m 342) 88 = some (.isub, 0) := by decide +kernel
theorem at_342_89 : am_at (am_m 342) 89 = some (.putfield 482, 3145) := by decide +kernel
theorem at_342_92 : am_at (am_m 342) 92 = some (.goto (-78), 14) := by decide +kernel
theorem at_342_95 : am_at (am_m 342) 95 = some (.iconst 0, 0) := by decide +kernel
theorem at_342_96 : am_at (am_m 342) 96 = some (.ireturn, 0) := by decide +kernel
theorem at_343_0 : am_at (am_m 343) 0 = some (.iload_n 0, 0) := by decide +kernel
theorem at_343_1 : am_at (am_m 343) 1 = some (.bipush 7, 0) := by decide +kernel
theorem at_343_3 : am_at (am_m 343) 3 = some (.if_icmp .ge 7, 10) := by decide +kernel
theorem at_343_6 : am_at (am_m 343) 6 = some (.iconst 0, 0) := by decide +kernel
theorem at_343_7 : am_at (am_m 343) 7 = some (.goto 24, 31) := by decide +kernel
theorem at_343_10 : am_at (am_m 343) 10 = some (.iload_n 0, 0) := by decide +kernel
theorem at_343_11 : am_at (am_m 343) 11 = some (.bipush 10, 0) := by decide +kernel
theorem at_343_13 : am_at (am_m 343) 13 = some (.if_icmp .ge 7, 20) := by decide +kernel
theorem at_343_16 : am_at (am_m 343) 16 = some (.iconst 1, 0) := by decide +kernel
theorem at_343_17 : am_at (am_m 343) 17 = some (.goto 14, 31) := by decide +kernel
theorem at_343_20 : am_at (am_m 343) 20 = some (.iload_n 0, 0) := by decide +kernel
theorem at_343_21 : am_at (am_m 343) 21 = some (.bipush 20, 0) := by decide +kernel
theorem at_343_23 : am_at (am_m 343) 23 = some (.if_icmp .ge 7, 30) := by decide +kernel
theorem at_343_26 : am_at (am_m 343) 26 = some (.iconst 2, 0) := by decide +kernel
theorem at_343_27 : am_at (am_m 343) 27 = some (.goto 4, 31) := by decide +kernel
theorem at_343_30 : am_at (am_m 343) 30 = some (.iconst 3, 0) := by decide +kernel
theorem at_343_31 : am_at (am_m 343) 31 = some (.ireturn, 0) := by decide +kernel
theorem at_344_0 : am_at (am_m 344) 0 = some (.iconst 1, 0) := by decide +kernel
theorem at_344_1 : am_at (am_m 344) 1 = some (.istore_n 1, 0) := by decide +kernel
theorem at_344_2 : am_at (am_m 344) 2 = some (.iload_n 1, 0) := by decide +kernel
theorem at_344_3 : am_at (am_m 344) 3 = some (.ifCond .eq 58, 61) := by decide +kernel
theorem at_344_6 : am_at (am_m 344) 6 = some (.aload_n 0, 0) := by decide +kernel
theorem at_344_7 : am_at (am_m 344) 7 = some (.invokevirtual 513, 345) := by decide +kernel
theorem at_344_10 : am_at (am_m 344) 10 = some (.ifCond .eq 51, 61) := by decide +kernel
theorem at_344_13 : am_at (am_m 344) 13 = some (.aload_n 0, 0) := by decide +kernel
theorem at_344_14 : am_at (am_m 344) 14 = some (.getfield 468, 3141) := by decide +kernel
theorem at_344_17 : am_at (am_m 344) 17 = some (.aload_n 0, 0) := by decide +kernel
theorem at_344_18 : am_at (am_m 344) 18 = some (.getfield 455, 3140) := by decide +kernel
theorem at_344_21 : am_at (am_m 344) 21 = some (.if_icmp .ge 7, 28) := by decide +kernel
theorem at_344_24 : am_at (am_m 344) 24 = some (.iconst 1, 0) := by decide +kernel
theorem at_344_25 : am_at (am_m 344) 25 = some (.goto 4, 29) := by decide +kernel
theorem at_344_28 : am_at (am_m 344) 28 = some (.iconst 0, 0) := by decide +kernel
theorem at_344_29 : am_at (am_m 344) 29 = some (.istore_n 1, 0) := by decide +kernel
theorem at_344_30 : am_at (am_m 344) 30 = some (.iload_n 1, 0) := by decide +kernel
theorem at_344_31 : am_at (am_m 344) 31 = some (.ifCond .eq 10, 41) := by decide +kernel
theorem at_344_34 : am_at (am_m 344) 34 = some (.aload_n 0, 0) := by decide +kernel
theorem at_344_35 : am_at (am_m 344) 35 = some (.bipush 32, 0) := by decide +kernel
theorem at_344_37 : am_at (am_m 344) 37 = some (.invokevirtual 494, 336) := by decide +kernel
theorem at_344_40 : am_at (am_m 344) 40 = some (.pop, 0) := by decide +kernel
theorem at_344_41 : am_at (am_m 344) 41 = some (.iload_n 1, 0) := by decide +kernel
theorem at_344_42 : am_at (am_m 344) 42 = some (.ifCond .eq 14, 56) := by decide +kernel
theorem at_344_45 : am_at (am_m 344) 45 = some (.aload_n 0, 0) := by decide +kernel
theorem at_344_46 : am_at (am_m 344) 46 = some (.getfield 465, 3142) := by decide +kernel
theorem at_344_49 : am_at (am_m 344) 49 = some (.ifCond .ge 7, 56) := by decide +kernel
theorem at_344_52 : am_at (am_m 344) 52 = some (.iconst 1, 0) := by decide +kernel
theorem at_344_53 : am_at (am_m 344) 53 = some (.goto 4, 57) := by decide +kernel
theorem at_344_56 : am_at (am_m 344) 56 = some (.iconst 0, 0) := by decide +kernel
theorem at_344_57 : am_at (am_m 344) 57 = some (.istore_n 1, 0) := by decide +kernel
theorem at_344_58 : am_at (am_m 344) 58 = some (.goto (-56), 2) := by decide +kernel
theorem at_344_61 : am_at (am_m 344) 61 = some (.aload_n 0, 0) := by decide +kernel
theorem at_344_62 : am_at (am_m 344) 62 = some (.getfield 465, 3142) := by decide +kernel
theorem at_344_65 : am_at (am_m 344) 65 = some (.ifCond .ge 10, 75) := by decide +kernel
theorem at_344_68 : am_at (am_m 344) 68 = some (.aload_n 0, 0) := by decide +kernel
theorem at_344_69 : am_at (am_m 344) 69 = some (.invokevirtual 361, 347) := by decide +kernel
theorem at_344_72 : am_at (am_m 344) 72 = some (.goto 4, 76) := by decide +kernel
theorem at_344_75 : am_at (am_m 344) 75 = some (.iconst (-1), 0) := by decide +kernel
theorem at_344_76 : am_at (am_m 344) 76 = some (.istore_n 2, 0) := by decide +kernel
theorem at_344_77 : am_at (am_m 344) 77 = some (.iload_n 2, 0) := by decide +kernel
theorem at_344_78 : am_at (am_m 344) 78 = some (.ifCond .lt 14, 92) := by decide +kernel
theorem at_344_81 : am_at (am_m 344) 81 = some (.aload_n 0, 0) := by decide +kernel
theorem at_344_82 : am_at (am_m 344) 82 = some (.aload_n 0, 0) := by decide +kernel
theorem at_344_83 : am_at (am_m 344) 83 = some (.getfield 145, 3143) := by decide +kernel
theorem at_344_86 : am_at (am_m 344) 86 = some (.iload_n 2, 0) := by decide +kernel
theorem at_344_87 : am_at (am_m 344) 87 = some (.iaload, 0) := by decide +kernel
theorem at_344_88 : am_at (am_m 344) 88 = some (.invokevirtual 471, 331) := by decide +kernel
theorem at_344_91 : am_at (am_m 344) 91 = some (.pop, 0) := by decide +kernel
theorem at_344_92 : am_at (am_m 344) 92 = some (.return_, 0) := by decide +kernel
theorem at_345_0 : am_at (am_m 345) 0 = some (.aload_n 0, 0) := by decide +kernel
theorem at_345_1 : am_at (am_m 345) 1 = some (.getfield 306, 3086) := by decide +kernel
theorem at_345_4 : am_at (am_m 345) 4 = some (.bipush 60, 0) := by decide +kernel
theorem at_345_6 : am_at (am_m 345) 6 = some (.if_icmp .ne 12, 18) := by decide +kernel
theorem at_345_9 : am_at (am_m 345) 9 = some (.aload_n 0, 0) := by decide +kernel
theorem at_345_10 : am_at (am_m 345) 10 = some (.aload_n 0, 0) := by decide +kernel
theorem at_345_11 : am_at (am_m 345) 11 = some (.getfield 468, 3141) := by decide +kernel
theorem at_345_14 : am_at (am_m 345) 14 = some (.invokevirtual 471, 331) := by decide +kernel
theorem at_345_17 : am_at (am_m 345) 17 = some (.ireturn, 0) := by decide +kernel
theorem at_345_18 : am_at (am_m 345) 18 = some (.aload_n 0, 0) := by decide +kernel
theorem at_345_19 : am_at (am_m 345) 19 = some (.getfield 145, 3143) := by decide +kernel
theorem at_345_22 : am_at (am_m 345) 22 = some (.aload_n 0, 0) := by decide +kernel
theorem at_345_23 : am_at (am_m 345) 23 = some (.getfield 306, 3086) := by decide +kernel
theorem at_345_26 : am_at (am_m 345) 26 = some (.aload_n 0, 0) := by decide +kernel
theorem at_345_27 : am_at (am_m 345) 27 = some (.getfield 468, 3141) := by decide +kernel
theorem at_345_30 : am_at (am_m 345) 30 = some (.iastore, 0) := by decide +kernel
theorem at_345_31 : am_at (am_m 345) 31 = some (.aload_n 0, 0) := by decide +kernel
theorem at_345_32 : am_at (am_m 345) 32 = some (.aload_n 0, 0) := by decide +kernel
theorem at_345_33 : am_at (am_m 345) 33 = some (.getfield 468, 3141) := by decide +kernel
theorem at_345_36 : am_at (am_m 345) 36 = some (.invokevirtual 458, 332) := by decide +kernel
theorem at_345_39 : am_at (am_m 345) 39 = some (.istore_n 1, 0) := by decide +kernel
theorem at_345_40 : am_at (am_m 345) 40 = some (.aload_n 0, 0) := by decide +kernel
theorem at_345_41 : am_at (am_m 345) 41 = some (.aload_n 0, 0) := by decide +kernel
theorem at_345_42 : am_at (am_m 345) 42 = some (.getfield 468, 3141) := by decide +kernel
theorem at_345_45 : am_at (am_m 345) 45 = some (.invokevirtual 474, 339) := by decide +kernel
theorem at_345_48 : am_at (am_m 345) 48 = some (.ifCond .ne 22, 70) := by decide +kernel
theorem at_345_51 : am_at (am_m 345) 51 = some (.iload_n 1, 0) := by decide +kernel
theorem at_345_52 : am_at (am_m 345) 52 = some (.bipush 45, 0) := by decide +kernel
theorem at_345_54 : am_at (am_m 345) 54 = some (.if_icmp .ne 36, 90) := by decide +kernel
theorem at_345_57 : am_at (am_m 345) 57 = some (.aload_n 0, 0) := by decide +kernel
theorem at_345_58 : am_at (am_m 345) 58 = some (.aload_n 0, 0) := by decide +kernel
theorem at_345_59 : am_at (am_m 345) 59 = some (.getfield 468, 3141) := by decide +kernel
theorem at_345_62 : am_at (am_m 345) 62 = some (.iconst 1, 0) := by decide +kernel
theorem at_345_63 : am_at (am_m 345) 63 = some (.iadd, 0) := by decide +kernel
theorem at_345_64 : am_at (am_m 345) 64 = some (.invokevirtual 474, 339) := by decide +kernel
theorem at_345_67 : am_at (am_m 345) 67 = some (.ifCond .eq 23, 90) := by decide +kernel
theorem at_345_70 : am_at (am_m 345) 70 = some (.aload_n 0, 0) := by decide +kernel
theorem at_345_71 : am_at (am_m 345) 71 = some (.invokevirtual 503, 340) := by decide +kernel
theorem at_345_74 : am_at (am_m 345) 74 = some (.ifCond .ne 5, 79) := by decide +kernel
theorem at_345_77 : am_at (am_m 345) 77 = some (.iconst 0, 0) := by decide +kernel
theorem at_345_78 : am_at (am_m 345) 78 = some (.ireturn, 0) := by decide +kernel
theorem at_345_79 : am_at (am_m 345) 79 = some (.aload_n 0, 0) := by decide +kernel
theorem at_345_80 : am_at (am_m 345) 80 = some (.iconst 0, 0) := by decide +kernel
theorem at_345_81 : am_at (am_m 345) 81 = some (.aload_n 0, 0) := by decide +kernel
theorem at_345_82 : am_at (am_m 345) 82 = some (.getfield 477, 3144) := by decide +kernel
theorem at_345_85 : am_at (am_m 345) 85 = some (.invokevirtual 335, 335) := by decide +kernel
theorem at_345_88 : am_at (am_m 345) 88 = some (.iconst 1, 0) := by decide +kernel
theorem at_345_89 : am_at (am_m 345) 89 = some (.ireturn, 0) := by decide +kernel
theorem at_345_90 : am_at (am_m 345) 90 = some (.iload_n 1, 0) := by decide +kernel
theorem at_345_91 : am_at (am_m 345) 91 = some (.invokestatic 510, 346) := by decide +kernel
theorem at_345_94 : am_at (am_m 345) 94 = some (.istore_n 2, 0) := by decide +kernel
theorem at_345_95 : am_at (am_m 345) 95 = some (.iload_n 2, 0) := by decide +kernel
theorem at_345_96 : am_at (am_m 345) 96 = some (.ifCond .ge 12, 108) := by decide +kernel
theorem at_345_99 : am_at (am_m 345) 99 = some (.aload_n 0, 0) := by decide +kernel
theorem at_345_100 : am_at (am_m 345) 100 = some (.aload_n 0, 0) := by decide +kernel
theorem at_345_101 : am_at (am_m 345) 101 = some (.getfield 468, 3141) := by decide +kernel
theorem at_345_104 : am_at (am_m 345) 104 = some (.invokevirtual 471, 331) := by decide +kernel
theorem at_345_107 : am_at (am_m 345) 107 = some (.ireturn, 0) := by decide +kernel
theorem at_345_108 : am_at (am_m 345) 108 = some (.aload_n 0, 0) := by decide +kernel
theorem at_345_109 : am_at (am_m 345) 109 = some (.dup, 0) := by decide +kernel
theorem at_345_110 : am_at (am_m 345) 110 = some (.getfield 468, 3141) := by decide +kernel
theorem at_345_113 : am_at (am_m 345) 113 = some (.iconst 1, 0) := by decide +kernel
theorem at_345_114 : am_at (am_m 345) 114 = some (.iadd, 0) := by decide +kernel
theorem at_345_115 : am_at (am_m 345) 115 = some (.putfield 468, 3141) := by decide +kernel
theorem at_345_118 : am_at (am_m 345) 118 = some (.aload_n 0, 0) := by decide +kernel
theorem at_345_119 : am_at (am_m 345) 119 = some (.iconst 0, 0) := by decide +kernel
theorem at_345_120 : am_at (am_m 345) 120 = some (.putfield 477, 3144) := by decide +kernel
theorem at_345_123 : am_at (am_m 345) 123 = some (.iload_n 2, 0) := by decide +kernel
theorem at_345_124 : am_at (am_m 345) 124 = some (.bipush 16, 0) := by decide +kernel
theorem at_345_126 : am_at (am_m 345) 126 = some (.if_icmp .le 12, 138) := by decide +kernel
theorem at_345_129 : am_at (am_m 345) 129 = some (.aload_n 0, 0) := by decide +kernel
theorem at_345_130 : am_at (am_m 345) 130 = some (.invokevirtual 480, 341) := by decide +kernel
theorem at_345_133 : am_at (am_m 345) 133 = some (.ifCond .ne 5, 138) := by decide +kernel
theorem at_345_136 : am_at (am_m 345) 136 = some (.iconst 0, 0) := by decide +kernel
theorem at_345_137 : am_at (am_m 345) 137 = some (.ireturn, 0) := by decide +kernel
theorem at_345_138 : am_at (am_m 345) 138 = some (.aload_n 0, 0) := by decide +kernel
theorem at_345_139 : am_at (am_m 345) 139 = some (.iload_n 2, 0) := by decide +kernel
theorem at_345_140 : am_at (am_m 345) 140 = some (.iload_n 2, 0) := by decide +kernel
theorem at_345_141 : am_at (am_m 345) 141 = some (.bipush 16, 0) := by decide +kernel
theorem at_345_143 : am_at (am_m 345) 143 = some (.if_icmp .le 10, 153) := by decide +kernel
theorem at_345_146 : am_at (am_m 345) 146 = some (.aload_n 0, 0) := by decide +kernel
theorem at_345_147 : am_at (am_m 345) 147 = some (.getfield 477, 3144) := by decide +kernel
theorem at_345_150 : am_at (am_m 345) 150 = some (.goto 4, 154) := by decide +kernel
theorem at_345_153 : am_at (am_m 345) 153 = some (.iconst 0, 0) := by decide +kernel
theorem at_345_154 : am_at (am_m 345) 154 = some (.invokevirtual 335, 335) := by decide +kernel
theorem at_345_157 : am_at (am_m 345) 157 = some (.iconst 1, 0) := by decide +kernel
theorem at_345_158 : am_at (am_m 345) 158 = some (.ireturn, 0) := by decide +kernel
theorem at_346_0 : am_at (am_m 346) 0 = some (.iload_n 0, 0) := by decide +kernel
theorem at_346_1 : am_at (am_m 346) 1 = some (.lookupswitch 204 #[(35, 165), (37, 180), (42, 174), (43, 168), (45, 171), (47, 177), (60, 183), (61, 186), (98, 201), (100, 189), (106, 198), (110, 161), (111, 195), (119, 192), (120, 155), (121, 157), (122, 159), (126, 163)], 0) := by decide +kernel
theorem at_346_156 : am_at (am_m 346) 156 = some (.iconst 1, 0) := by decide +kernel
theorem at_346_157 : am_at (am_m 346) 157 = some (.ireturn, 0) := by decide +kernel
theorem at_346_158 : am_at (am_m 346) 158 = some (.iconst 2, 0) := by decide +kernel
theorem at_346_159 : am_at (am_m 346) 159 = some (.ireturn, 0) := by decide +kernel
theorem at_346_160 : am_at (am_m 346) 160 = some (.iconst 3, 0) := by decide +kernel
theorem at_346_161 : am_at (am_m 346) 161 = some (.ireturn, 0) := by decide +kernel
theorem at_346_162 : am_at (am_m 346) 162 = some (.iconst 4, 0) := by decide +kernel
theorem at_346_163 : am_at (am_m 346) 163 = some (.ireturn, 0) := by decide +kernel
theorem at_346_164 : am_at (am_m 346) 164 = some (.iconst 5, 0) := by decide +kernel
theorem at_346_165 : am_at (am_m 346) 165 = some (.ireturn, 0) := by decide +kernel
theorem at_346_166 : am_at (am_m 346) 166 = some (.bipush 6, 0) := by decide +kernel
theorem at_346_168 : am_at (am_m 346) 168 = some (.ireturn, 0) := by decide +kernel
theorem at_346_169 : am_at (am_m 346) 169 = some (.bipush 7, 0) := by decide +kernel
theorem at_346_171 : am_at (am_m 346) 171 = some (.ireturn, 0) := by decide +kernel
theorem at_346_172 : am_at (am_m 346) 172 = some (.bipush 8, 0) := by decide +kernel
theorem at_346_174 : am_at (am_m 346) 174 = some (.ireturn, 0) := by decide +kernel
theorem at_346_175 : am_at (am_m 346) 175 = some (.bipush 9, 0) := by decide +kernel
theorem at_346_177 : am_at (am_m 346) 177 = some (.ireturn, 0) := by decide +kernel
theorem at_346_178 : am_at (am_m 346) 178 = some (.bipush 10, 0) := by decide +kernel
theorem at_346_180 : am_at (am_m 346) 180 = some (.ireturn, 0) := by decide +kernel
theorem at_346_181 : am_at (am_m 346) 181 = some (.bipush 11, 0) := by decide +kernel
theorem at_346_183 : am_at (am_m 346) 183 = some (.ireturn, 0) := by decide +kernel
theorem at_346_184 : am_at (am_m 346) 184 = some (.bipush 12, 0) := by decide +kernel
theorem at_346_186 : am_at (am_m 346) 186 = some (.ireturn, 0) := by decide +kernel
theorem at_346_187 : am_at (am_m 346) 187 = some (.bipush 13, 0) := by decide +kernel
theorem at_346_189 : am_at (am_m 346) 189 = some (.ireturn, 0) := by decide +kernel
theorem at_346_190 : am_at (am_m 346) 190 = some (.bipush 14, 0) := by decide +kernel
theorem at_346_192 : am_at (am_m 346) 192 = some (.ireturn, 0) := by decide +kernel
theorem at_346_193 : am_at (am_m 346) 193 = some (.bipush 15, 0) := by decide +kernel
theorem at_346_195 : am_at (am_m 346) 195 = some (.ireturn, 0) := by decide +kernel
theorem at_346_196 : am_at (am_m 346) 196 = some (.bipush 16, 0) := by decide +kernel
theorem at_346_198 : am_at (am_m 346) 198 = some (.ireturn, 0) := by decide +kernel
theorem at_346_199 : am_at (am_m 346) 199 = some (.bipush 17, 0) := by decide +kernel
theorem at_346_201 : am_at (am_m 346) 201 = some (.ireturn, 0) := by decide +kernel
theorem at_346_202 : am_at (am_m 346) 202 = some (.bipush 18, 0) := by decide +kernel
theorem at_346_204 : am_at (am_m 346) 204 = some (.ireturn, 0) := by decide +kernel
theorem at_346_205 : am_at (am_m 346) 205 = some (.iconst (-1), 0) := by decide +kernel
theorem at_346_206 : am_at (am_m 346) 206 = some (.ireturn, 0) := by decide +kernel
theorem at_347_0 : am_at (am_m 347) 0 = some (.iconst 0, 0) := by decide +kernel
theorem at_347_1 : am_at (am_m 347) 1 = some (.istore_n 1, 0) := by decide +kernel
theorem at_347_2 : am_at (am_m 347) 2 = some (.iload_n 1, 0) := by decide +kernel
theorem at_347_3 : am_at (am_m 347) 3 = some (.aload_n 0, 0) := by decide +kernel
theorem at_347_4 : am_at (am_m 347) 4 = some (.getfield 306, 3086) := by decide +kernel
theorem at_347_7 : am_at (am_m 347) 7 = some (.if_icmp .gt 16, 23) := by decide +kernel
theorem at_347_10 : am_at (am_m 347) 10 = some (.aload_n 0, 0) := by decide +kernel
theorem at_347_11 : am_at (am_m 347) 11 = some (.getfield 121, 3119) := by decide +kernel
theorem at_347_14 : am_at (am_m 347) 14 = some (.iload_n 1, 0) := by decide +kernel
theorem at_347_15 : am_at (am_m 347) 15 = some (.iconst (-1), 0) := by decide +kernel
theorem at_347_16 : am_at (am_m 347) 16 = some (.iastore, 0) := by decide +kernel
theorem at_347_17 : am_at (am_m 347) 17 = some (.iinc 1 1, 0) := by decide +kernel
theorem at_347_20 : am_at (am_m 347) 20 = some (.goto (-18), 2) := by decide +kernel
theorem at_347_23 : am_at (am_m 347) 23 = some (.aload_n 0, 0) := by decide +kernel
theorem at_347_24 : am_at (am_m 347) 24 = some (.getfield 121, 3119) := by decide +kernel
theorem at_347_27 : am_at (am_m 347) 27 = some (.iconst 0, 0) := by decide +kernel
theorem at_347_28 : am_at (am_m 347) 28 = some (.iconst 0, 0) := by decide +kernel
theorem at_347_29 : am_at (am_m 347) 29 = some (.iastore, 0) := by decide +kernel
theorem at_347_30 : am_at (am_m 347) 30 = some (.iconst 0, 0) := by decide +kernel
theorem at_347_31 : am_at (am_m 347) 31 = some (.istore_n 1, 0) := by decide +kernel
theorem at_347_32 : am_at (am_m 347) 32 = some (.iload_n 1, 0) := by decide +kernel
theorem at_347_33 : am_at (am_m 347) 33 = some (.aload_n 0, 0) := by decide +kernel
theorem at_347_34 : am_at (am_m 347) 34 = some (.getfield 306, 3086) := by decide +kernel
theorem at_347_37 : am_at (am_m 347) 37 = some (.if_icmp .ge 116, 153) := by decide +kernel
theorem at_347_40 : am_at (am_m 347) 40 = some (.aload_n 0, 0) := by decide +kernel
theorem at_347_41 : am_at (am_m 347) 41 = some (.getfield 121, 3119) := by decide +kernel
theorem at_347_44 : am_at (am_m 347) 44 = some (.iload_n 1, 0) := by decide +kernel
theorem at_347_45 : am_at (am_m 347) 45 = some (.iaload, 0) := by decide +kernel
theorem at_347_46 : am_at (am_m 347) 46 = some (.istore_n 2, 0) := by decide +kernel
theorem at_347_47 : am_at (am_m 347) 47 = some (.iload_n 2, 0) := by decide +kernel
theorem at_347_48 : am_at (am_m 347) 48 = some (.aload_n 0, 0) := by decide +kernel
theorem at_347_49 : am_at (am_m 347) 49 = some (.getfield 45, 3088) := by decide +kernel
theorem at_347_52 : am_at (am_m 347) 52 = some (.iload_n 1, 0) := by decide +kernel
theorem at_347_53 : am_at (am_m 347) 53 = some (.iaload, 0) := by decide +kernel
theorem at_347_54 : am_at (am_m 347) 54 = some (.invokestatic 346, 348) := by decide +kernel
theorem at_347_57 : am_at (am_m 347) 57 = some (.if_icmp .ge 5, 62) := by decide +kernel
theorem at_347_60 : am_at (am_m 347) 60 = some (.iload_n 1, 0) := by decide +kernel
theorem at_347_61 : am_at (am_m 347) 61 = some (.ireturn, 0) := by decide +kernel
theorem at_347_62 : am_at (am_m 347) 62 = some (.iload_n 2, 0) := by decide +kernel
theorem at_347_63 : am_at (am_m 347) 63 = some (.aload_n 0, 0) := by decide +kernel
theorem at_347_64 : am_at (am_m 347) 64 = some (.getfield 45, 3088) := by decide +kernel
theorem at_347_67 : am_at (am_m 347) 67 = some (.iload_n 1, 0) := by decide +kernel
theorem at_347_68 : am_at (am_m 347) 68 = some (.iaload, 0) := by decide +kernel
theorem at_347_69 : am_at (am_m 347) 69 = some (.invokestatic 346, 348) := by decide +kernel
theorem at_347_72 : am_at (am_m 347) 72 = some (.isub, 0) := by decide +kernel
theorem at_347_73 : am_at (am_m 347) 73 = some (.aload_n 0, 0) := by decide +kernel
theorem at_347_74 : am_at (am_m 347) 74 = some (.getfield 45, 3088) := by decide +kernel
theorem at_347_77 : am_at (am_m 347) 77 = some (.iload_n 1, 0) := by decide +kernel
theorem at_347_78 : am_at (am_m 347) 78 = some (.iaload, 0) := by decide +kernel
theorem at_347_79 : am_at (am_m 347) 79 = some (.invokestatic 349, 349) := by decide +kernel
theorem at_347_82 : am_at (am_m 347) 82 = some (.iadd, 0) := by decide +kernel
theorem at_347_83 : am_at (am_m 347) 83 = some (.istore_n 2, 0) := by decide +kernel
theorem at_347_84 : am_at (am_m 347) 84 = some (.iload_n 2, 0) := by decide +kernel
theorem at_347_85 : am_at (am_m 347) 85 = some (.bipush 8, 0) := by decide +kernel
theorem at_347_87 : am_at (am_m 347) 87 = some (.if_icmp .le 5, 92) := by decide +kernel
theorem at_347_90 : am_at (am_m 347) 90 = some (.iload_n 1, 0) := by decide +kernel
theorem at_347_91 : am_at (am_m 347) 91 = some (.ireturn, 0) := by decide +kernel
theorem at_347_92 : am_at (am_m 347) 92 = some (.aload_n 0, 0) := by decide +kernel
theorem at_347_93 : am_at (am_m 347) 93 = some (.getfield 45, 3088) := by decide +kernel
theorem at_347_96 : am_at (am_m 347) 96 = some (.iload_n 1, 0) := by decide +kernel
theorem at_347_97 : am_at (am_m 347) 97 = some (.iaload, 0) := by decide +kernel
theorem at_347_98 : am_at (am_m 347) 98 = some (.bipush 17, 0) := by decide +kernel
theorem at_347_100 : am_at (am_m 347) 100 = some (.if_icmp .eq 16, 116) := by decide +kernel
theorem at_347_103 : am_at (am_m 347) 103 = some (.aload_n 0, 0) := by decide +kernel
theorem at_347_104 : am_at (am_m 347) 104 = some (.iload_n 1, 0) := by decide +kernel
theorem at_347_105 : am_at (am_m 347) 105 = some (.iconst 1, 0) := by decide +kernel
theorem at_347_106 : am_at (am_m 347) 106 = some (.iadd, 0) := by decide +kernel
theorem at_347_107 : am_at (am_m 347) 107 = some (.iload_n 2, 0) := by decide +kernel
theorem at_347_108 : am_at (am_m 347) 108 = some (.invokevirtual 352, 350) := by decide +kernel
theorem at_347_111 : am_at (am_m 347) 111 = some (.ifCond .ne 5, 116) := by decide +kernel
theorem at_347_114 : am_at (am_m 347) 114 = some (.iload_n 1, 0) := by decide +kernel
theorem at_347_115 : am_at (am_m 347) 115 = some (.ireturn, 0) := by decide +kernel
theorem at_347_116 : am_at (am_m 347) 116 = some (.aload_n 0, 0) := by decide +kernel
theorem at_347_117 : am_at (am_m 347) 117 = some (.getfield 45, 3088) := by decide +kernel
theorem at_347_120 : am_at (am_m 347) 120 = some (.iload_n 1, 0) := by decide +kernel
theorem at_347_121 : am_at (am_m 347) 121 = some (.iaload, 0) := by decide +kernel
theorem at_347_122 : am_at (am_m 347) 122 = some (.bipush 16, 0) := by decide +kernel
theorem at_347_124 : am_at (am_m 347) 124 = some (.if_icmp .le 23, 147) := by decide +kernel
theorem at_347_127 : am_at (am_m 347) 127 = some (.aload_n 0, 0) := by decide +kernel
theorem at_347_128 : am_at (am_m 347) 128 = some (.iload_n 1, 0) := by decide +kernel
theorem at_347_129 : am_at (am_m 347) 129 = some (.iconst 1, 0) := by decide +kernel
theorem at_347_130 : am_at (am_m 347) 130 = some (.iadd, 0) := by decide +kernel
theorem at_347_131 : am_at (am_m 347) 131 = some (.aload_n 0, 0) := by decide +kernel
theorem at_347_132 : am_at (am_m 347) 132 = some (.getfield 48, 3089) := by decide +kernel
theorem at_347_135 : am_at (am_m 347) 135 = some (.iload_n 1, 0) := by decide +kernel
theorem at_347_136 : am_at (am_m 347) 136 = some (.iaload, 0) := by decide +kernel
theorem at_347_137 : am_at (am_m 347) 137 = some (.iadd, 0) := by decide +kernel
theorem at_347_138 : am_at (am_m 347) 138 = some (.iload_n 2, 0) := by decide +kernel
theorem at_347_139 : am_at (am_m 347) 139 = some (.invokevirtual 352, 350) := by decide +kernel
theorem at_347_142 : am_at (am_m 347) 142 = some (.ifCond .ne 5, 147) := by decide +kernel
theorem at_347_145 : am_at (am_m 347) 145 = some (.iload_n 1, 0) := by decide +kernel
theorem at_347_146 : am_at (am_m 347) 146 = some (.ireturn, 0) := by decide +kernel
theorem at_347_147 : am_at (am_m 347) 147 = some (.iinc 1 1, 0) := by decide +kernel
theorem at_347_150 : am_at (am_m 347) 150 = some (.goto (-118), 32) := by decide +kernel
theorem at_347_153 : am_at (am_m 347) 153 = some (.iconst (-1), 0) := by decide +kernel
theorem at_347_154 : am_at (am_m 347) 154 = some (.ireturn, 0) := by decide +kernel
theorem at_348_0 : am_at (am_m 348) 0 = some (.iload_n 0, 0) := by decide +kernel
theorem at_348_1 : am_at (am_m 348) 1 = some (.iconst 5, 0) := by decide +kernel
theorem at_348_2 : am_at (am_m 348) 2 = some (.if_icmp .ge 7, 9) := by decide +kernel
theorem at_348_5 : am_at (am_m 348) 5 = some (.iconst 0, 0) := by decide +kernel
theorem at_348_6 : am_at (am_m 348) 6 = some (.goto 44, 50) := by decide +kernel
theorem at_348_9 : am_at (am_m 348) 9 = some (.iload_n 0, 0) := by decide +kernel
theorem at_348_10 : am_at (am_m 348) 10 = some (.bipush 7, 0) := by decide +kernel
theorem at_348_12 : am_at (am_m 348) 12 = some (.if_icmp .ge 7, 19) := by decide +kernel
theorem at_348_15 : am_at (am_m 348) 15 = some (.iconst 1, 0) := by decide +kernel
theorem at_348_16 : am_at (am_m 348) 16 = some (.goto 34, 50) := by decide +kernel
theorem at_348_19 : am_at (am_m 348) 19 = some (.iload_n 0, 0) := by decide +kernel
theorem at_348_20 : am_at (am_m 348) 20 = some (.bipush 14, 0) := by decide +kernel
theorem at_348_22 : am_at (am_m 348) 22 = some (.if_icmp .ge 7, 29) := by decide +kernel
theorem at_348_25 : am_at (am_m 348) 25 = some (.iconst 2, 0) := by decide +kernel
theorem at_348_26 : am_at (am_m 348) 26 = some (.goto 24, 50) := by decide +kernel
theorem at_348_29 : am_at (am_m 348) 29 = some (.iload_n 0, 0) := by decide +kernel
theorem at_348_30 : am_at (am_m 348) 30 = some (.bipush 15, 0) := by decide +kernel
theorem at_348_32 : am_at (am_m 348) 32 = some (.if_icmp .ne 7, 39) := by decide +kernel
theorem at_348_35 : am_at (am_m 348) 35 = some (.iconst 2, 0) := by decide +kernel
theorem at_348_36 : am_at (am_m 348) 36 = some (.goto 14, 50) := by decide +kernel
theorem at_348_39 : am_at (am_m 348) 39 = some (.iload_n 0, 0) := by decide +kernel
theorem at_348_40 : am_at (am_m 348) 40 = some (.bipush 17, 0) := by decide +kernel
theorem at_348_42 : am_at (am_m 348) 42 = some (.if_icmp .ne 7, 49) := by decide +kernel
theorem at_348_45 : am_at (am_m 348) 45 = some (.iconst 0, 0) := by decide +kernel
theorem at_348_46 : am_at (am_m 348) 46 = some (.goto 4, 50) := by decide +kernel
theorem at_348_49 : am_at (am_m 348) 49 = some (.iconst 1, 0) := by decide +kernel
theorem at_348_50 : am_at (am_m 348) 50 = some (.ireturn, 0) := by decide +kernel
theorem at_349_0 : am_at (am_m 349) 0 = some (.iload_n 0, 0) := by decide +kernel
theorem at_349_1 : am_at (am_m 349) 1 = some (.bipush 14, 0) := by decide +kernel
theorem at_349_3 : am_at (am_m 349) 3 = some (.if_icmp .ge 7, 10) := by decide +kernel
theorem at_349_6 : am_at (am_m 349) 6 = some (.iconst 1, 0) := by decide +kernel
theorem at_349_7 : am_at (am_m 349) 7 = some (.goto 14, 21) := by decide +kernel
theorem at_349_10 : am_at (am_m 349) 10 = some (.iload_n 0, 0) := by decide +kernel
theorem at_349_11 : am_at (am_m 349) 11 = some (.bipush 16, 0) := by decide +kernel
theorem at_349_13 : am_at (am_m 349) 13 = some (.if_icmp .ge 7, 20) := by decide +kernel
theorem at_349_16 : am_at (am_m 349) 16 = some (.iconst 2, 0) := by decide +kernel
theorem at_349_17 : am_at (am_m 349) 17 = some (.goto 4, 21) := by decide +kernel
theorem at_349_20 : am_at (am_m 349) 20 = some (.iconst 0, 0) := by decide +kernel
theorem at_349_21 : am_at (am_m 349) 21 = some (.ireturn, 0) := by decide +kernel
theorem at_350_0 : am_at (am_m 350) 0 = some (.iload_n 1, 0) := by decide +kernel
theorem at_350_1 : am_at (am_m 350) 1 = some (.aload_n 0, 0) := by decide +kernel
theorem at_350_2 : am_at (am_m 350) 2 = some (.getfield 306, 3086) := by decide +kernel
theorem at_350_5 : am_at (am_m 350) 5 = some (.if_icmp .gt 16, 21) := by decide +kernel
theorem at_350_8 : am_at (am_m 350) 8 = some (.iload_n 1, 0) := by decide +kernel
theorem at_350_9 : am_at (am_m 350) 9 = some (.aload_n 0, 0) := by decide +kernel
theorem at_350_10 : am_at (am_m 350) 10 = some (.getfield 306, 3086) := by decide +kernel
theorem at_350_13 : am_at (am_m 350) 13 = some (.if_icmp .ne 10, 23) := by decide +kernel
theorem at_350_16 : am_at (am_m 350) 16 = some (.iload_n 2, 0) := by decide +kernel
theorem at_350_17 : am_at (am_m 350) 17 = some (.iconst 1, 0) := by decide +kernel
theorem at_350_18 : am_at (am_m 350) 18 = some (.if_icmp .eq 5, 23) := by decide +kernel
theorem at_350_21 : am_at (am_m 350) 21 = some (.iconst 0, 0) := by decide +kernel
theorem at_350_22 : am_at (am_m 350) 22 = some (.ireturn, 0) := by decide +kernel
theorem at_350_23 : am_at (am_m 350) 23 = some (.aload_n 0, 0) := by decide +kernel
theorem at_350_24 : am_at (am_m 350) 24 = some (.getfield 121, 3119) := by decide +kernel
theorem at_350_27 : am_at (am_m 350) 27 = some (.iload_n 1, 0) := by decide +kernel
theorem at_350_28 : am_at (am_m 350) 28 = some (.iaload, 0) := by decide +kernel
theorem at_350_29 : am_at (am_m 350) 29 = some (.iconst (-1), 0) := by decide +kernel
theorem at_350_30 : am_at (am_m 350) 30 = some (.if_icmp .ne 10, 40) := by decide +kernel
theorem at_350_33 : am_at (am_m 350) 33 = some (.aload_n 0, 0) := by decide +kernel
theorem at_350_34 : am_at (am_m 350) 34 = some (.getfield 121, 3119) := by decide +kernel
theorem at_350_37 : am_at (am_m 350) 37 = some (.iload_n 1, 0) := by decide +kernel
theorem at_350_38 : am_at (am_m 350) 38 = some (.iload_n 2, 0) := by decide +kernel
theorem at_350_39 : am_at (am_m 350) 39 = some (.iastore, 0) := by decide +kernel
theorem at_350_40 : am_at (am_m 350) 40 = some (.aload_n 0, 0) := by decide +kernel
theorem at_350_41 : am_at (am_m 350) 41 = some (.getfield 121, 3119) := by decide +kernel
theorem at_350_44 : am_at (am_m 350) 44 = some (.iload_n 1, 0) := by decide +kernel
theorem at_350_45 : am_at (am_m 350) 45 = some (.iaload, 0) := by decide +kernel
theorem at_350_46 : am_at (am_m 350) 46 = some (.iload_n 2, 0) := by decide +kernel
theorem at_350_47 : am_at (am_m 350) 47 = some (.if_icmp .ne 7, 54) := by decide +kernel
theorem at_350_50 : am_at (am_m 350) 50 = some (.iconst 1, 0) := by decide +kernel
theorem at_350_51 : am_at (am_m 350) 51 = some (.goto 4, 55) := by decide +kernel
theorem at_350_54 : am_at (am_m 350) 54 = some (.iconst 0, 0) := by decide +kernel
theorem at_350_55 : am_at (am_m 350) 55 = some (.ireturn, 0) := by decide +kernel
theorem at_351_0 : am_at (am_m 351) 0 = some (.iconst 1, 0) := by decide +kernel
theorem at_351_1 : am_at (am_m 351) 1 = some (.istore_n 1, 0) := by decide +kernel
theorem at_351_2 : am_at (am_m 351) 2 = some (.iload_n 1, 0) := by decide +kernel
theorem at_351_3 : am_at (am_m 351) 3 = some (.ifCond .eq 58, 61) := by decide +kernel
theorem at_351_6 : am_at (am_m 351) 6 = some (.aload_n 0, 0) := by decide +kernel
theorem at_351_7 : am_at (am_m 351) 7 = some (.invokevirtual 519, 352) := by decide +kernel
theorem at_351_10 : am_at (am_m 351) 10 = some (.ifCond .eq 51, 61) := by decide +kernel
theorem at_351_13 : am_at (am_m 351) 13 = some (.aload_n 0, 0) := by decide +kernel
theorem at_351_14 : am_at (am_m 351) 14 = some (.getfield 468, 3141) := by decide +kernel
theorem at_351_17 : am_at (am_m 351) 17 = some (.aload_n 0, 0) := by decide +kernel
theorem at_351_18 : am_at (am_m 351) 18 = some (.getfield 455, 3140) := by decide +kernel
theorem at_351_21 : am_at (am_m 351) 21 = some (.if_icmp .ge 7, 28) := by decide +kernel
theorem at_351_24 : am_at (am_m 351) 24 = some (.iconst 1, 0) := by decide +kernel
theorem at_351_25 : am_at (am_m 351) 25 = some (.goto 4, 29) := by decide +kernel
theorem at_351_28 : am_at (am_m 351) 28 = some (.iconst 0, 0) := by decide +kernel
theorem at_351_29 : am_at (am_m 351) 29 = some (.istore_n 1, 0) := by decide +kernel
theorem at_351_30 : am_at (am_m 351) 30 = some (.iload_n 1, 0) := by decide +kernel
theorem at_351_31 : am_at (am_m 351) 31 = some (.ifCond .eq 10, 41) := by decide +kernel
theorem at_351_34 : am_at (am_m 351) 34 = some (.aload_n 0, 0) := by decide +kernel
theorem at_351_35 : am_at (am_m 351) 35 = some (.bipush 59, 0) := by decide +kernel
theorem at_351_37 : am_at (am_m 351) 37 = some (.invokevirtual 494, 336) := by decide +kernel
theorem at_351_40 : am_at (am_m 351) 40 = some (.pop, 0) := by decide +kernel
theorem at_351_41 : am_at (am_m 351) 41 = some (.iload_n 1, 0) := by decide +kernel
theorem at_351_42 : am_at (am_m 351) 42 = some (.ifCond .eq 14, 56) := by decide +kernel
theorem at_351_45 : am_at (am_m 351) 45 = some (.aload_n 0, 0) := by decide +kernel
theorem at_351_46 : am_at (am_m 351) 46 = some (.getfield 465, 3142) := by decide +kernel
theorem at_351_49 : am_at (am_m 351) 49 = some (.ifCond .ge 7, 56) := by decide +kernel
theorem at_351_52 : am_at (am_m 351) 52 = some (.iconst 1, 0) := by decide +kernel
theorem at_351_53 : am_at (am_m 351) 53 = some (.goto 4, 57) := by decide +kernel
theorem at_351_56 : am_at (am_m 351) 56 = some (.iconst 0, 0) := by decide +kernel
theorem at_351_57 : am_at (am_m 351) 57 = some (.istore_n 1, 0) := by decide +kernel
theorem at_351_58 : am_at (am_m 351) 58 = some (.goto (-56), 2) := by decide +kernel
theorem at_351_61 : am_at (am_m 351) 61 = some (.iconst 0, 0) := by decide +kernel
theorem at_351_62 : am_at (am_m 351) 62 = some (.istore_n 2, 0) := by decide +kernel
theorem at_351_63 : am_at (am_m 351) 63 = some (.iload_n 2, 0) := by decide +kernel
theorem at_351_64 : am_at (am_m 351) 64 = some (.iconst 4, 0) := by decide +kernel
theorem at_351_65 : am_at (am_m 351) 65 = some (.aload_n 0, 0) := by decide +kernel
theorem at_351_66 : am_at (am_m 351) 66 = some (.getfield 306, 3086) := by decide +kernel
theorem at_351_69 : am_at (am_m 351) 69 = some (.imul, 0) := by decide +kernel
theorem at_351_70 : am_at (am_m 351) 70 = some (.if_icmp .ge 46, 116) := by decide +kernel
theorem at_351_73 : am_at (am_m 351) 73 = some (.aload_n 0, 0) := by decide +kernel
theorem at_351_74 : am_at (am_m 351) 74 = some (.getfield 465, 3142) := by decide +kernel
theorem at_351_77 : am_at (am_m 351) 77 = some (.ifCond .ge 39, 116) := by decide +kernel
theorem at_351_80 : am_at (am_m 351) 80 = some (.aload_n 0, 0) := by decide +kernel
theorem at_351_81 : am_at (am_m 351) 81 = some (.getfield 69, 3100) := by decide +kernel
theorem at_351_84 : am_at (am_m 351) 84 = some (.iload_n 2, 0) := by decide +kernel
theorem at_351_85 : am_at (am_m 351) 85 = some (.iaload, 0) := by decide +kernel
theorem at_351_86 : am_at (am_m 351) 86 = some (.aload_n 0, 0) := by decide +kernel
theorem at_351_87 : am_at (am_m 351) 87 = some (.getfield 306, 3086) := by decide +kernel
theorem at_351_90 : am_at (am_m 351) 90 = some (.if_icmp .lt 20, 110) := by decide +kernel
theorem at_351_93 : am_at (am_m 351) 93 = some (.aload_n 0, 0) := by decide +kernel
theorem at_351_94 : am_at (am_m 351) 94 = some (.aload_n 0, 0) := by decide +kernel
theorem at_351_95 : am_at (am_m 351) 95 = some (.getfield 145, 3143) := by decide +kernel
theorem at_351_98 : am_at (am_m 351) 98 = some (.iload_n 2, 0) := by decide +kernel
theorem at_351_99 : am_at (am_m 351) 99 = some (.iconst 4, 0) := by decide +kernel
theorem at_351_100 : am_at (am_m 351) 100 = some (.idiv, 0) := by decide +kernel
theorem at_351_101 : am_at (am_m 351) 101 = some (.iaload, 0) := by decide +kernel
theorem at_351_102 : am_at (am_m 351) 102 = some (.iload_n 2, 0) := by decide +kernel
theorem at_351_103 : am_at (am_m 351) 103 = some (.iconst 4, 0) := by decide +kernel
theorem at_351_104 : am_at (am_m 351) 104 = some (.irem, 0) := by decide +kernel
theorem at_351_105 : am_at (am_m 351) 105 = some (.iadd, 0) := by decide +kernel
theorem at_351_106 : am_at (am_m 351) 106 = some (.invokevirtual 471, 331) := by decide +kernel
theorem at_351_109 : am_at (am_m 351) 109 = some (.pop, 0) := by decide +kernel
theorem at_351_110 : am_at (am_m 351) 110 = some (.iinc 2 1, 0) := by decide +kernel
theorem at_351_113 : am_at (am_m 351) 113 = some (.goto (-50), 63) := by decide +kernel
theorem at_351_116 : am_at (am_m 351) 116 = some (.return_, 0) := by decide +kernel
theorem at_352_0 : am_at (am_m 352) 0 = some (.aload_n 0, 0) := by decide +kernel
theorem at_352_1 : am_at (am_m 352) 1 = some (.getfield 306, 3086) := by decide +kernel
theorem at_352_4 : am_at (am_m 352) 4 = some (.bipush 6, 0) := by decide +kernel
theorem at_352_6 : am_at (am_m 352) 6 = some (.if_icmp .ne 12, 18) := by decide +kernel
theorem at_352_9 : am_at (am_m 352) 9 = some (.aload_n 0, 0) := by decide +kernel
theorem at_352_10 : am_at (am_m 352) 10 = some (.aload_n 0, 0) := by decide +kernel
theorem at_352_11 : am_at (am_m 352) 11 = some (.getfield 468, 3141) := by decide +kernel
theorem at_352_14 : am_at (am_m 352) 14 = some (.invokevirtual 471, 331) := by decide +kernel
theorem at_352_17 : am_at (am_m 352) 17 = some (.ireturn, 0) := by decide +kernel
theorem at_352_18 : am_at (am_m 352) 18 = some (.aload_n 0, 0) := by decide +kernel
theorem at_352_19 : am_at (am_m 352) 19 = some (.invokevirtual 503, 340) := by decide +kernel
theorem at_352_22 : am_at (am_m 352) 22 = some (.ifCond .ne 5, 27) := by decide +kernel
theorem at_352_25 : am_at (am_m 352) 25 = some (.iconst 0, 0) := by decide +kernel
theorem at_352_26 : am_at (am_m 352) 26 = some (.ireturn, 0) := by decide +kernel
theorem at_352_27 : am_at (am_m 352) 27 = some (.aload_n 0, 0) := by decide +kernel
theorem at_352_28 : am_at (am_m 352) 28 = some (.getfield 477, 3144) := by decide +kernel
theorem at_352_31 : am_at (am_m 352) 31 = some (.istore_n 1, 0) := by decide +kernel
theorem at_352_32 : am_at (am_m 352) 32 = some (.aload_n 0, 0) := by decide +kernel
theorem at_352_33 : am_at (am_m 352) 33 = some (.bipush 58, 0) := by decide +kernel
theorem at_352_35 : am_at (am_m 352) 35 = some (.invokevirtual 494, 336) := by decide +kernel
theorem at_352_38 : am_at (am_m 352) 38 = some (.ifCond .ne 5, 43) := by decide +kernel
theorem at_352_41 : am_at (am_m 352) 41 = some (.iconst 0, 0) := by decide +kernel
theorem at_352_42 : am_at (am_m 352) 42 = some (.ireturn, 0) := by decide +kernel
theorem at_352_43 : am_at (am_m 352) 43 = some (.aload_n 0, 0) := by decide +kernel
theorem at_352_44 : am_at (am_m 352) 44 = some (.getfield 145, 3143) := by decide +kernel
theorem at_352_47 : am_at (am_m 352) 47 = some (.aload_n 0, 0) := by decide +kernel
theorem at_352_48 : am_at (am_m 352) 48 = some (.getfield 306, 3086) := by decide +kernel
theorem at_352_51 : am_at (am_m 352) 51 = some (.aload_n 0, 0) := by decide +kernel
theorem at_352_52 : am_at (am_m 352) 52 = some (.getfield 468, 3141) := by decide +kernel
theorem at_352_55 : am_at (am_m 352) 55 = some (.iastore, 0) := by decide +kernel
theorem at_352_56 : am_at (am_m 352) 56 = some (.iconst 0, 0) := by decide +kernel
theorem at_352_57 : am_at (am_m 352) 57 = some (.istore_n 2, 0) := by decide +kernel
theorem at_352_58 : am_at (am_m 352) 58 = some (.iconst 0, 0) := by decide +kernel
theorem at_352_59 : am_at (am_m 352) 59 = some (.istore_n 3, 0) := by decide +kernel
theorem at_352_60 : am_at (am_m 352) 60 = some (.iload_n 3, 0) := by decide +kernel
theorem at_352_61 : am_at (am_m 352) 61 = some (.iconst 4, 0) := by decide +kernel
theorem at_352_62 : am_at (am_m 352) 62 = some (.if_icmp .ge 85, 147) := by decide +kernel
theorem at_352_65 : am_at (am_m 352) 65 = some (.aload_n 0, 0) := by decide +kernel
theorem at_352_66 : am_at (am_m 352) 66 = some (.aload_n 0, 0) := by decide +kernel
theorem at_352_67 : am_at (am_m 352) 67 = some (.getfield 468, 3141) := by decide +kernel
theorem at_352_70 : am_at (am_m 352) 70 = some (.invokevirtual 474, 339) := by decide +kernel
theorem at_352_73 : am_at (am_m 352) 73 = some (.ifCond .ne 12, 85) := by decide +kernel
theorem at_352_76 : am_at (am_m 352) 76 = some (.aload_n 0, 0) := by decide +kernel
theorem at_352_77 : am_at (am_m 352) 77 = some (.aload_n 0, 0) := by decide +kernel
theorem at_352_78 : am_at (am_m 352) 78 = some (.getfield 468, 3141) := by decide +kernel
theorem at_352_81 : am_at (am_m 352) 81 = some (.invokevirtual 471, 331) := by decide +kernel
theorem at_352_84 : am_at (am_m 352) 84 = some (.ireturn, 0) := by decide +kernel
theorem at_352_85 : am_at (am_m 352) 85 = some (.aload_n 0, 0) := by decide +kernel
theorem at_352_86 : am_at (am_m 352) 86 = some (.getfield 69, 3100) := by decide +kernel
theorem at_352_89 : am_at (am_m 352) 89 = some (.iconst 4, 0) := by decide +kernel
theorem at_352_90 : am_at (am_m 352) 90 = some (.aload_n 0, 0) := by decide +kernel
theorem at_352_91 : am_at (am_m 352) 91 = some (.getfield 306, 3086) := by decide +kernel
theorem at_352_94 : am_at (am_m 352) 94 = some (.imul, 0) := by decide +kernel
theorem at_352_95 : am_at (am_m 352) 95 = some (.iload_n 3, 0) := by decide +kernel
theorem at_352_96 : am_at (am_m 352) 96 = some (.iadd, 0) := by decide +kernel
theorem at_352_97 : am_at (am_m 352) 97 = some (.aload_n 0, 0) := by decide +kernel
theorem at_352_98 : am_at (am_m 352) 98 = some (.getfield 142, 3139) := by decide +kernel
theorem at_352_101 : am_at (am_m 352) 101 = some (.aload_n 0, 0) := by decide +kernel
theorem at_352_102 : am_at (am_m 352) 102 = some (.getfield 468, 3141) := by decide +kernel
theorem at_352_105 : am_at (am_m 352) 105 = some (.iaload, 0) := by decide +kernel
theorem at_352_106 : am_at (am_m 352) 106 = some (.bipush 48, 0) := by decide +kernel
theorem at_352_108 : am_at (am_m 352) 108 = some (.isub, 0) := by decide +kernel
theorem at_352_109 : am_at (am_m 352) 109 = some (.iastore, 0) := by decide +kernel
theorem at_352_110 : am_at (am_m 352) 110 = some (.iload_n 2, 0) := by decide +kernel
theorem at_352_111 : am_at (am_m 352) 111 = some (.iload_n 3, 0) := by decide +kernel
theorem at_352_112 : am_at (am_m 352) 112 = some (.aload_n 0, 0) := by decide +kernel
theorem at_352_113 : am_at (am_m 352) 113 = some (.getfield 142, 3139) := by decide +kernel
theorem at_352_116 : am_at (am_m 352) 116 = some (.aload_n 0, 0) := by decide +kernel
theorem at_352_117 : am_at (am_m 352) 117 = some (.getfield 468, 3141) := by decide +kernel
theorem at_352_120 : am_at (am_m 352) 120 = some (.iaload, 0) := by decide +kernel
theorem at_352_121 : am_at (am_m 352) 121 = some (.bipush 48, 0) := by decide +kernel
theorem at_352_123 : am_at (am_m 352) 123 = some (.isub, 0) := by decide +kernel
theorem at_352_124 : am_at (am_m 352) 124 = some (.bipush 7, 0) := by decide +kernel
theorem at_352_126 : am_at (am_m 352) 126 = some (.iand, 0) := by decide +kernel
theorem at_352_127 : am_at (am_m 352) 127 = some (.invokestatic 516, 353) := by decide +kernel
theorem at_352_130 : am_at (am_m 352) 130 = some (.istore_n 2, 0) := by decide +kernel
theorem at_352_131 : am_at (am_m 352) 131 = some (.aload_n 0, 0) := by decide +kernel
theorem at_352_132 : am_at (am_m 352) 132 = some (.dup, 0) := by decide +kernel
theorem at_352_133 : am_at (am_m 352) 133 = some (.getfield 468, 3141) := by decide +kernel
theorem at_352_136 : am_at (am_m 352) 136 = some (.iconst 1, 0) := by decide +kernel
theorem at_352_137 : am_at (am_m 352) 137 = some (.iadd, 0) := by decide +kernel
theorem at_352_138 : am_at (am_m 352) 138 = some (.putfield 468, 3141) := by decide +kernel
theorem at_352_141 : am_at (am_m 352) 141 = some (.iinc 3 1, 0) := by decide +kernel
theorem at_352_144 : am_at (am_m 352) 144 = some (.goto (-84), 60) := by decide +kernel
theorem at_352_147 : am_at (am_m 352) 147 = some (.aload_n 0, 0) := by decide +kernel
theorem at_352_148 : am_at (am_m 352) 148 = some (.iload_n 1, 0) := by decide +kernel
theorem at_352_149 : am_at (am_m 352) 149 = some (.iload_n 2, 0) := by decide +kernel
theorem at_352_150 : am_at (am_m 352) 150 = some (.invokevirtual 335, 335) := by decide +kernel
theorem at_352_153 : am_at (am_m 352) 153 = some (.iconst 1, 0) := by decide +kernel
theorem at_352_154 : am_at (am_m 352) 154 = some (.ireturn, 0) := by decide +kernel
theorem at_353_0 : am_at (am_m 353) 0 = some (.iload_n 0, 0) := by decide +kernel
theorem at_353_1 : am_at (am_m 353) 1 = some (.bipush 7, 0) := by decide +kernel
theorem at_353_3 : am_at (am_m 353) 3 = some (.iconst 3, 0) := by decide +kernel
theorem at_353_4 : am_at (am_m 353) 4 = some (.iload_n 1, 0) := by decide +kernel
theorem at_353_5 : am_at (am_m 353) 5 = some (.imul, 0) := by decide +kernel
theorem at_353_6 : am_at (am_m 353) 6 = some (.ishl, 0) := by decide +kernel
theorem at_353_7 : am_at (am_m 353) 7 = some (.iconst (-1), 0) := by decide +kernel
theorem at_353_8 : am_at (am_m 353) 8 = some (.ixor, 0) := by decide +kernel
theorem at_353_9 : am_at (am_m 353) 9 = some (.iand, 0) := by decide +kernel
theorem at_353_10 : am_at (am_m 353) 10 = some (.iload_n 2, 0) := by decide +kernel
theorem at_353_11 : am_at (am_m 353) 11 = some (.iconst 3, 0) := by decide +kernel
theorem at_353_12 : am_at (am_m 353) 12 = some (.iload_n 1, 0) := by decide +kernel
theorem at_353_13 : am_at (am_m 353) 13 = some (.imul, 0) := by decide +kernel
theorem at_353_14 : am_at (am_m 353) 14 = some (.ishl, 0) := by decide +kernel
theorem at_353_15 : am_at (am_m 353) 15 = some (.ior, 0) := by decide +kernel
theorem at_353_16 : am_at (am_m 353) 16 = some (.ireturn, 0) := by decide +kernel
theorem at_354_0 : am_at (am_m 354) 0 = some (.aload_n 0, 0) := by decide +kernel
theorem at_354_1 : am_at (am_m 354) 1 = some (.aload_n 0, 0) := by decide +kernel
theorem at_354_2 : am_at (am_m 354) 2 = some (.getfield 468, 3141) := by decide +kernel
theorem at_354_5 : am_at (am_m 354) 5 = some (.invokevirtual 474, 339) := by decide +kernel
theorem at_354_8 : am_at (am_m 354) 8 = some (.ifCond .eq 28, 36) := by decide +kernel
theorem at_354_11 : am_at (am_m 354) 11 = some (.aload_n 0, 0) := by decide +kernel
theorem at_354_12 : am_at (am_m 354) 12 = some (.getfield 142, 3139) := by decide +kernel
theorem at_354_15 : am_at (am_m 354) 15 = some (.aload_n 0, 0) := by decide +kernel
theorem at_354_16 : am_at (am_m 354) 16 = some (.getfield 468, 3141) := by decide +kernel
theorem at_354_19 : am_at (am_m 354) 19 = some (.iaload, 0) := by decide +kernel
theorem at_354_20 : am_at (am_m 354) 20 = some (.bipush 48, 0) := by decide +kernel
theorem at_354_22 : am_at (am_m 354) 22 = some (.isub, 0) := by decide +kernel
theorem at_354_23 : am_at (am_m 354) 23 = some (.i2l, 0) := by decide +kernel
theorem at_354_24 : am_at (am_m 354) 24 = some (.ldc2_w 522, 51) := by decide +kernel
theorem at_354_27 : am_at (am_m 354) 27 = some (.ldc2_w 524, 52) := by decide +kernel
theorem at_354_30 : am_at (am_m 354) 30 = some (.invokestatic 299, 327) := by decide +kernel
theorem at_354_33 : am_at (am_m 354) 33 = some (.ifCond .ne 13, 46) := by decide +kernel
theorem at_354_36 : am_at (am_m 354) 36 = some (.aload_n 0, 0) := by decide +kernel
theorem at_354_37 : am_at (am_m 354) 37 = some (.aload_n 0, 0) := by decide +kernel
theorem at_354_38 : am_at (am_m 354) 38 = some (.getfield 468, 3141) := by decide +kernel
theorem at_354_41 : am_at (am_m 354) 41 = some (.invokevirtual 471, 331) := by decide +kernel
theorem at_354_44 : am_at (am_m 354) 44 = some (.pop, 0) := by decide +kernel
theorem at_354_45 : am_at (am_m 354) 45 = some (.return_, 0) := by decide +kernel
theorem at_354_46 : am_at (am_m 354) 46 = some (.aload_n 0, 0) := by decide +kernel
theorem at_354_47 : am_at (am_m 354) 47 = some (.aload_n 0, 0) := by decide +kernel
theorem at_354_48 : am_at (am_m 354) 48 = some (.getfield 142, 3139) := by decide +kernel
theorem at_354_51 : am_at (am_m 354) 51 = some (.aload_n 0, 0) := by decide +kernel
theorem at_354_52 : am_at (am_m 354) 52 = some (.getfield 468, 3141) := by decide +kernel
theorem at_354_55 : am_at (am_m 354) 55 = some (.iaload, 0) := by decide +kernel
theorem at_354_56 : am_at (am_m 354) 56 = some (.bipush 48, 0) := by decide +kernel
theorem at_354_58 : am_at (am_m 354) 58 = some (.isub, 0) := by decide +kernel
theorem at_354_59 : am_at (am_m 354) 59 = some (.putfield 309, 3087) := by decide +kernel
theorem at_354_62 : am_at (am_m 354) 62 = some (.aload_n 0, 0) := by decide +kernel
theorem at_354_63 : am_at (am_m 354) 63 = some (.dup, 0) := by decide +kernel
theorem at_354_64 : am_at (am_m 354) 64 = some (.getfield 468, 3141) := by decide +kernel
theorem at_354_67 : am_at (am_m 354) 67 = some (.iconst 1, 0) := by decide +kernel
theorem at_354_68 : am_at (am_m 354) 68 = some (.iadd, 0) := by decide +kernel
theorem at_354_69 : am_at (am_m 354) 69 = some (.putfield 468, 3141) := by decide +kernel
theorem at_354_72 : am_at (am_m 354) 72 = some (.aload_n 0, 0) := by decide +kernel
theorem at_354_73 : am_at (am_m 354) 73 = some (.bipush 58, 0) := by decide +kernel
theorem at_354_75 : am_at (am_m 354) 75 = some (.invokevirtual 494, 336) := by decide +kernel
theorem at_354_78 : am_at (am_m 354) 78 = some (.ifCond .eq 18, 96) := by decide +kernel
theorem at_354_81 : am_at (am_m 354) 81 = some (.aload_n 0, 0) := by decide +kernel
theorem at_354_82 : am_at (am_m 354) 82 = some (.getfield 468, 3141) := by decide +kernel
theorem at_354_85 : am_at (am_m 354) 85 = some (.aload_n 0, 0) := by decide +kernel
theorem at_354_86 : am_at (am_m 354) 86 = some (.getfield 455, 3140) := by decide +kernel
theorem at_354_89 : am_at (am_m 354) 89 = some (.if_icmp .ge 7, 96) := by decide +kernel
theorem at_354_92 : am_at (am_m 354) 92 = some (.iconst 1, 0) := by decide +kernel
theorem at_354_93 : am_at (am_m 354) 93 = some (.goto 4, 97) := by decide +kernel
theorem at_354_96 : am_at (am_m 354) 96 = some (.iconst 0, 0) := by decide +kernel
theorem at_354_97 : am_at (am_m 354) 97 = some (.istore_n 1, 0) := by decide +kernel
theorem at_354_98 : am_at (am_m 354) 98 = some (.iload_n 1, 0) := by decide +kernel
theorem at_354_99 : am_at (am_m 354) 99 = some (.ifCond .eq 58, 157) := by decide +kernel
theorem at_354_102 : am_at (am_m 354) 102 = some (.aload_n 0, 0) := by decide +kernel
theorem at_354_103 : am_at (am_m 354) 103 = some (.invokevirtual 526, 355) := by decide +kernel
theorem at_354_106 : am_at (am_m 354) 106 = some (.ifCond .eq 51, 157) := by decide +kernel
theorem at_354_109 : am_at (am_m 354) 109 = some (.aload_n 0, 0) := by decide +kernel
theorem at_354_110 : am_at (am_m 354) 110 = some (.getfield 468, 3141) := by decide +kernel
theorem at_354_113 : am_at (am_m 354) 113 = some (.aload_n 0, 0) := by decide +kernel
theorem at_354_114 : am_at (am_m 354) 114 = some (.getfield 455, 3140) := by decide +kernel
theorem at_354_117 : am_at (am_m 354) 117 = some (.if_icmp .ge 7, 124) := by decide +kernel
theorem at_354_120 : am_at (am_m 354) 120 = some (.iconst 1, 0) := by decide +kernel
theorem at_354_121 : am_at (am_m 354) 121 = some (.goto 4, 125) := by decide +kernel
theorem at_354_124 : am_at (am_m 354) 124 = some (.iconst 0, 0) := by decide +kernel
theorem at_354_125 : am_at (am_m 354) 125 = some (.istore_n 1, 0) := by decide +kernel
theorem at_354_126 : am_at (am_m 354) 126 = some (.iload_n 1, 0) := by decide +kernel
theorem at_354_127 : am_at (am_m 354) 127 = some (.ifCond .eq 10, 137) := by decide +kernel
theorem at_354_130 : am_at (am_m 354) 130 = some (.aload_n 0, 0) := by decide +kernel
theorem at_354_131 : am_at (am_m 354) 131 = some (.bipush 44, 0) := by decide +kernel
theorem at_354_133 : am_at (am_m 354) 133 = some (.invokevirtual 494, 336) := by decide +kernel
theorem at_354_136 : am_at (am_m 354) 136 = some (.pop, 0) := by decide +kernel
theorem at_354_137 : am_at (am_m 354) 137 = some (.iload_n 1, 0) := by decide +kernel
theorem at_354_138 : am_at (am_m 354) 138 = some (.ifCond .eq 14, 152) := by decide +kernel
theorem at_354_141 : am_at (am_m 354) 141 = some (.aload_n 0, 0) := by decide +kernel
theorem at_354_142 : am_at (am_m 354) 142 = some (.getfield 465, 3142) := by decide +kernel
theorem at_354_145 : am_at (am_m 354) 145 = some (.ifCond .ge 7, 152) := by decide +kernel
theorem at_354_148 : am_at (am_m 354) 148 = some (.iconst 1, 0) := by decide +kernel
theorem at_354_149 : am_at (am_m 354) 149 = some (.goto 4, 153) := by decide +kernel
theorem at_354_152 : am_at (am_m 354) 152 = some (.iconst 0, 0) := by decide +kernel
theorem at_354_153 : am_at (am_m 354) 153 = some (.istore_n 1, 0) := by decide +kernel
theorem at_354_154 : am_at (am_m 354) 154 = some (.goto (-56), 98) := by decide +kernel
theorem at_354_157 : am_at (am_m 354) 157 = some (.return_, 0) := by decide +kernel
theorem at_355_0 : am_at (am_m 355) 0 = some (.aload_n 0, 0) := by decide +kernel
theorem at_355_1 : am_at (am_m 355) 1 = some (.getfield 306, 3086) := by decide +kernel
theorem at_355_4 : am_at (am_m 355) 4 = some (.bipush 40, 0) := by decide +kernel
theorem at_355_6 : am_at (am_m 355) 6 = some (.if_icmp .ne 12, 18) := by decide +kernel
theorem at_355_9 : am_at (am_m 355) 9 = some (.aload_n 0, 0) := by decide +kernel
theorem at_355_10 : am_at (am_m 355) 10 = some (.aload_n 0, 0) := by decide +kernel
theorem at_355_11 : am_at (am_m 355) 11 = some (.getfield 468, 3141) := by decide +kernel
theorem at_355_14 : am_at (am_m 355) 14 = some (.invokevirtual 471, 331) := by decide +kernel
theorem at_355_17 : am_at (am_m 355) 17 = some (.ireturn, 0) := by decide +kernel
theorem at_355_18 : am_at (am_m 355) 18 = some (.aload_n 0, 0) := by decide +kernel
theorem at_355_19 : am_at (am_m 355) 19 = some (.aload_n 0, 0) := by decide +kernel
theorem at_355_20 : am_at (am_m 355) 20 = some (.getfield 468, 3141) := by decide +kernel
theorem at_355_23 : am_at (am_m 355) 23 = some (.invokevirtual 474, 339) := by decide +kernel
theorem at_355_26 : am_at (am_m 355) 26 = some (.ifCond .eq 22, 48) := by decide +kernel
theorem at_355_29 : am_at (am_m 355) 29 = some (.aload_n 0, 0) := by decide +kernel
theorem at_355_30 : am_at (am_m 355) 30 = some (.getfield 142, 3139) := by decide +kernel
theorem at_355_33 : am_at (am_m 355) 33 = some (.aload_n 0, 0) := by decide +kernel
theorem at_355_34 : am_at (am_m 355) 34 = some (.getfield 468, 3141) := by decide +kernel
theorem at_355_37 : am_at (am_m 355) 37 = some (.iaload, 0) := by decide +kernel
theorem at_355_38 : am_at (am_m 355) 38 = some (.bipush 48, 0) := by decide +kernel
theorem at_355_40 : am_at (am_m 355) 40 = some (.isub, 0) := by decide +kernel
theorem at_355_41 : am_at (am_m 355) 41 = some (.aload_n 0, 0) := by decide +kernel
theorem at_355_42 : am_at (am_m 355) 42 = some (.getfield 309, 3087) := by decide +kernel
theorem at_355_45 : am_at (am_m 355) 45 = some (.if_icmp .lt 12, 57) := by decide +kernel
theorem at_355_48 : am_at (am_m 355) 48 = some (.aload_n 0, 0) := by decide +kernel
theorem at_355_49 : am_at (am_m 355) 49 = some (.aload_n 0, 0) := by decide +kernel
theorem at_355_50 : am_at (am_m 355) 50 = some (.getfield 468, 3141) := by decide +kernel
theorem at_355_53 : am_at (am_m 355) 53 = some (.invokevirtual 471, 331) := by decide +kernel
theorem at_355_56 : am_at (am_m 355) 56 = some (.ireturn, 0) := by decide +kernel
theorem at_355_57 : am_at (am_m 355) 57 = some (.aload_n 0, 0) := by decide +kernel
theorem at_355_58 : am_at (am_m 355) 58 = some (.getfield 142, 3139) := by decide +kernel
theorem at_355_61 : am_at (am_m 355) 61 = some (.aload_n 0, 0) := by decide +kernel
theorem at_355_62 : am_at (am_m 355) 62 = some (.getfield 468, 3141) := by decide +kernel
theorem at_355_65 : am_at (am_m 355) 65 = some (.iaload, 0) := by decide +kernel
theorem at_355_66 : am_at (am_m 355) 66 = some (.bipush 48, 0) := by decide +kernel
theorem at_355_68 : am_at (am_m 355) 68 = some (.isub, 0) := by decide +kernel
theorem at_355_69 : am_at (am_m 355) 69 = some (.istore_n 1, 0) := by decide +kernel
theorem at_355_70 : am_at (am_m 355) 70 = some (.aload_n 0, 0) := by decide +kernel
theorem at_355_71 : am_at (am_m 355) 71 = some (.dup, 0) := by decide +kernel
theorem at_355_72 : am_at (am_m 355) 72 = some (.getfield 468, 3141) := by decide +kernel
theorem at_355_75 : am_at (am_m 355) 75 = some (.iconst 1, 0) := by decide +kernel
theorem at_355_76 : am_at (am_m 355) 76 = some (.iadd, 0) := by decide +kernel
theorem at_355_77 : am_at (am_m 355) 77 = some (.putfield 468, 3141) := by decide +kernel
theorem at_355_80 : am_at (am_m 355) 80 = some (.aload_n 0, 0) := by decide +kernel
theorem at_355_81 : am_at (am_m 355) 81 = some (.aload_n 0, 0) := by decide +kernel
theorem at_355_82 : am_at (am_m 355) 82 = some (.getfield 468, 3141) := by decide +kernel
theorem at_355_85 : am_at (am_m 355) 85 = some (.invokevirtual 474, 339) := by decide +kernel
theorem at_355_88 : am_at (am_m 355) 88 = some (.ifCond .eq 38, 126) := by decide +kernel
theorem at_355_91 : am_at (am_m 355) 91 = some (.aload_n 0, 0) := by decide +kernel
theorem at_355_92 : am_at (am_m 355) 92 = some (.getfield 142, 3139) := by decide +kernel
theorem at_355_95 : am_at (am_m 355) 95 = some (.aload_n 0, 0) := by decide +kernel
theorem at_355_96 : am_at (am_m 355) 96 = some (.getfield 468, 3141) := by decide +kernel
theorem at_355_99 : am_at (am_m 355) 99 = some (.iaload, 0) := by decide +kernel
theorem at_355_100 : am_at (am_m 355) 100 = some (.bipush 48, 0) := by decide +kernel
theorem at_355_102 : am_at (am_m 355) 102 = some (.isub, 0) := by decide +kernel
theorem at_355_103 : am_at (am_m 355) 103 = some (.aload_n 0, 0) := by decide +kernel
theorem at_355_104 : am_at (am_m 355) 104 = some (.getfield 309, 3087) := by decide +kernel
theorem at_355_107 : am_at (am_m 355) 107 = some (.if_icmp .ge 19, 126) := by decide +kernel
theorem at_355_110 : am_at (am_m 355) 110 = some (.aload_n 0, 0) := by decide +kernel
theorem at_355_111 : am_at (am_m 355) 111 = some (.getfield 142, 3139) := by decide +kernel
theorem at_355_114 : am_at (am_m 355) 114 = some (.aload_n 0, 0) := by decide +kernel
theorem at_355_115 : am_at (am_m 355) 115 = some (.getfield 468, 3141) := by decide +kernel
theorem at_355_118 : am_at (am_m 355) 118 = some (.iaload, 0) := by decide +kernel
theorem at_355_119 : am_at (am_m 355) 119 = some (.bipush 48, 0) := by decide +kernel
theorem at_355_121 : am_at (am_m 355) 121 = some (.isub, 0) := by decide +kernel
theorem at_355_122 : am_at (am_m 355) 122 = some (.iload_n 1, 0) := by decide +kernel
theorem at_355_123 : am_at (am_m 355) 123 = some (.if_icmp .gt 12, 135) := by decide +kernel
theorem at_355_126 : am_at (am_m 355) 126 = some (.aload_n 0, 0) := by decide +kernel
theorem at_355_127 : am_at (am_m 355) 127 = some (.aload_n 0, 0) := by decide +kernel
theorem at_355_128 : am_at (am_m 355) 128 = some (.getfield 468, 3141) := by decide +kernel
theorem at_355_131 : am_at (am_m 355) 131 = some (.invokevirtual 471, 331) := by decide +kernel
theorem at_355_134 : am_at (am_m 355) 134 = some (.ireturn, 0) := by decide +kernel
theorem at_355_135 : am_at (am_m 355) 135 = some (.aload_n 0, 0) := by decide +kernel
theorem at_355_136 : am_at (am_m 355) 136 = some (.iload_n 1, 0) := by decide +kernel
theorem at_355_137 : am_at (am_m 355) 137 = some (.aload_n 0, 0) := by decide +kernel
theorem at_355_138 : am_at (am_m 355) 138 = some (.getfield 142, 3139) := by decide +kernel
theorem at_355_141 : am_at (am_m 355) 141 = some (.aload_n 0, 0) := by decide +kernel
theorem at_355_142 : am_at (am_m 355) 142 = some (.getfield 468, 3141) := by decide +kernel
theorem at_355_145 : am_at (am_m 355) 145 = some (.iaload, 0) := by decide +kernel
theorem at_355_146 : am_at (am_m 355) 146 = some (.bipush 48, 0) := by decide +kernel
theorem at_355_148 : am_at (am_m 355) 148 = some (.isub, 0) := by decide +kernel
theorem at_355_149 : am_at (am_m 355) 149 = some (.invokevirtual 335, 335) := by decide +kernel
theorem at_355_152 : am_at (am_m 355) 152 = some (.aload_n 0, 0) := by decide +kernel
theorem at_355_153 : am_at (am_m 355) 153 = some (.dup, 0) := by decide +kernel
theorem at_355_154 : am_at (am_m 355) 154 = some (.getfield 468, 3141) := by decide +kernel
theorem at_355_157 : am_at (am_m 355) 157 = some (.iconst 1, 0) := by decide +kernel
theorem at_355_158 : am_at (am_m 355) 158 = some (.iadd, 0) := by decide +kernel
theorem at_355_159 : am_at (am_m 355) 159 = some (.putfield 468, 3141) := by decide +kernel
theorem at_355_162 : am_at (am_m 355) 162 = some (.iconst 1, 0) := by decide +kernel
theorem at_355_163 : am_at (am_m 355) 163 = some (.ireturn, 0) := by decide +kernel
theorem at_356_0 : am_at (am_m 356) 0 = some (.aload_n 0, 0) := by decide +kernel
theorem at_356_1 : am_at (am_m 356) 1 = some (.getfield 296, 3073) := by decide +kernel
theorem at_356_4 : am_at (am_m 356) 4 = some (.istore 8, 0) := by decide +kernel
theorem at_356_6 : am_at (am_m 356) 6 = some (.aload_n 0, 0) := by decide +kernel
theorem at_356_7 : am_at (am_m 356) 7 = some (.getfield 7, 3074) := by decide +kernel
theorem at_356_10 : am_at (am_m 356) 10 = some (.iload 8, 0) := by decide +kernel
theorem at_356_12 : am_at (am_m 356) 12 = some (.aload_n 0, 0) := by decide +kernel
theorem at_356_13 : am_at (am_m 356) 13 = some (.getfield 303, 3085) := by decide +kernel
theorem at_356_16 : am_at (am_m 356) 16 = some (.iastore, 0) := by decide +kernel
theorem at_356_17 : am_at (am_m 356) 17 = some (.aload_n 0, 0) := by decide +kernel
theorem at_356_18 : am_at (am_m 356) 18 = some (.getfield 13, 3075) := by decide +kernel
theorem at_356_21 : am_at (am_m 356) 21 = some (.iload 8, 0) := by decide +kernel
theorem at_356_23 : am_at (am_m 356) 23 = some (.aload_n 0, 0) := by decide +kernel
theorem at_356_24 : am_at (am_m 356) 24 = some (.getfield 306, 3086) := by decide +kernel
theorem at_356_27 : am_at (am_m 356) 27 = some (.iastore, 0) := by decide +kernel
theorem at_356_28 : am_at (am_m 356) 28 = some (.aload_n 0, 0) := by decide +kernel
theorem at_356_29 : am_at (am_m 356) 29 = some (.getfield 16, 3076) := by decide +kernel
theorem at_356_32 : am_at (am_m 356) 32 = some (.iload 8, 0) := by decide +kernel
theorem at_356_34 : am_at (am_m 356) 34 = some (.aload_n 0, 0) := by decide +kernel
theorem at_356_35 : am_at (am_m 356) 35 = some (.getfield 303, 3085) := by decide +kernel
theorem at_356_38 : am_at (am_m 356) 38 = some (.iconst 3, 0) := by decide +kernel
theorem at_356_39 : am_at (am_m 356) 39 = some (.if_icmp .ne 10, 49) := by decide +kernel
theorem at_356_42 : am_at (am_m 356) 42 = some (.aload_n 0, 0) := by decide +kernel
theorem at_356_43 : am_at (am_m 356) 43 = some (.getfield 309, 3087) := by decide +kernel
theorem at_356_46 : am_at (am_m 356) 46 = some (.goto 4, 50) := by decide +kernel
theorem at_356_49 : am_at (am_m 356) 49 = some (.iconst 0, 0) := by decide +kernel
theorem at_356_50 : am_at (am_m 356) 50 = some (.iastore, 0) := by decide +kernel
theorem at_356_51 : am_at (am_m 356) 51 = some (.aload_n 0, 0) := by decide +kernel
theorem at_356_52 : am_at (am_m 356) 52 = some (.getfield 19, 3077) := by decide +kernel
theorem at_356_55 : am_at (am_m 356) 55 = some (.iload 8, 0) := by decide +kernel
theorem at_356_57 : am_at (am_m 356) 57 = some (.iload_n 1, 0) := by decide +kernel
theorem at_356_58 : am_at (am_m 356) 58 = some (.iastore, 0) := by decide +kernel
theorem at_356_59 : am_at (am_m 356) 59 = some (.aload_n 0, 0) := by decide +kernel
theorem at_356_60 : am_at (am_m 356) 60 = some (.getfield 22, 3078) := by decide +kernel
theorem at_356_63 : am_at (am_m 356) 63 = some (.iload 8, 0) := by decide +kernel
theorem at_356_65 : am_at (am_m 356) 65 = some (.iload_n 2, 0) := by decide +kernel
theorem at_356_66 : am_at (am_m 356) 66 = some (.iastore, 0) := by decide +kernel
theorem at_356_67 : am_at (am_m 356) 67 = some (.aload_n 0, 0) := by decide +kernel
theorem at_356_68 : am_at (am_m 356) 68 = some (.getfield 25, 3079) := by decide +kernel
theorem at_356_71 : am_at (am_m 356) 71 = some (.iload 8, 0) := by decide +kernel
theorem at_356_73 : am_at (am_m 356) 73 = some (.iload_n 3, 0) := by decide +kernel
theorem at_356_74 : am_at (am_m 356) 74 = some (.iastore, 0) := by decide +kernel
theorem at_356_75 : am_at (am_m 356) 75 = some (.aload_n 0, 0) := by decide +kernel
theorem at_356_76 : am_at (am_m 356) 76 = some (.getfield 28, 3080) := by decide +kernel
theorem at_356_79 : am_at (am_m 356) 79 = some (.iload 8, 0) := by decide +kernel
theorem at_356_81 : am_at (am_m 356) 81 = some (.iload 4, 0) := by decide +kernel
theorem at_356_83 : am_at (am_m 356) 83 = some (.iastore, 0) := by decide +kernel
theorem at_356_84 : am_at (am_m 356) 84 = some (.aload_n 0, 0) := by decide +kernel
theorem at_356_85 : am_at (am_m 356) 85 = some (.getfield 31, 3081) := by decide +kernel
theorem at_356_88 : am_at (am_m 356) 88 = some (.iload 8, 0) := by decide +kernel
theorem at_356_90 : am_at (am_m 356) 90 = some (.iload 5, 0) := by decide +kernel
theorem at_356_92 : am_at (am_m 356) 92 = some (.iastore, 0) := by decide +kernel
theorem at_356_93 : am_at (am_m 356) 93 = some (.aload_n 0, 0) := by decide +kernel
theorem at_356_94 : am_at (am_m 356) 94 = some (.getfield 34, 3082) := by decide +kernel
theorem at_356_97 : am_at (am_m 356) 97 = some (.iload 8, 0) := by decide +kernel
theorem at_356_99 : am_at (am_m 356) 99 = some (.lload 6, 0) := by decide +kernel
theorem at_356_101 : am_at (am_m 356) 101 = some (.lastore, 0) := by decide +kernel
theorem at_356_102 : am_at (am_m 356) 102 = some (.iconst 0, 0) := by decide +kernel
theorem at_356_103 : am_at (am_m 356) 103 = some (.istore 9, 0) := by decide +kernel
theorem at_356_105 : am_at (am_m 356) 105 = some (.iload 9, 0) := by decide +kernel
theorem at_356_107 : am_at (am_m 356) 107 = some (.aload_n 0, 0) := by decide +kernel
theorem at_356_108 : am_at (am_m 356) 108 = some (.getfield 306, 3086) := by decide +kernel
theorem at_356_111 : am_at (am_m 356) 111 = some (.if_icmp .ge 49, 160) := by decide +kernel
theorem at_356_114 : am_at (am_m 356) 114 = some (.aload_n 0, 0) := by decide +kernel
theorem at_356_115 : am_at (am_m 356) 115 = some (.getfield 39, 3083) := by decide +kernel
theorem at_356_118 : am_at (am_m 356) 118 = some (.bipush 60, 0) := by decide +kernel
theorem at_356_120 : am_at (am_m 356) 120 = some (.iload 8, 0) := by decide +kernel
theorem at_356_122 : am_at (am_m 356) 122 = some (.imul, 0) := by decide +kernel
theorem at_356_123 : am_at (am_m 356) 123 = some (.iload 9, 0) := by decide +kernel
theorem at_356_125 : am_at (am_m 356) 125 = some (.iadd, 0) := by decide +kernel
theorem at_356_126 : am_at (am_m 356) 126 = some (.aload_n 0, 0) := by decide +kernel
theorem at_356_127 : am_at (am_m 356) 127 = some (.getfield 45, 3088) := by decide +kernel
theorem at_356_130 : am_at (am_m 356) 130 = some (.iload 9, 0) := by decide +kernel
theorem at_356_132 : am_at (am_m 356) 132 = some (.iaload, 0) := by decide +kernel
theorem at_356_133 : am_at (am_m 356) 133 = some (.iastore, 0) := by decide +kernel
theorem at_356_134 : am_at (am_m 356) 134 = some (.aload_n 0, 0) := by decide +kernel
theorem at_356_135 : am_at (am_m 356) 135 = some (.getfield 42, 3084) := by decide +kernel
theorem at_356_138 : am_at (am_m 356) 138 = some (.bipush 60, 0) := by decide +kernel
theorem at_356_140 : am_at (am_m 356) 140 = some (.iload 8, 0) := by decide +kernel
theorem at_356_142 : am_at (am_m 356) 142 = some (.imul, 0) := by decide +kernel
theorem at_356_143 : am_at (am_m 356) 143 = some (.iload 9, 0) := by decide +kernel
theorem at_356_145 : am_at (am_m 356) 145 = some (.iadd, 0) := by decide +kernel
theorem at_356_146 : am_at (am_m 356) 146 = some (.aload_n 0, 0) := by decide +kernel
theorem at_356_147 : am_at (am_m 356) 147 = some (.getfield 48, 3089) := by decide +kernel
theorem at_356_150 : am_at (am_m 356) 150 = some (.iload 9, 0) := by decide +kernel
theorem at_356_152 : am_at (am_m 356) 152 = some (.iaload, 0) := by decide +kernel
theorem at_356_153 : am_at (am_m 356) 153 = some (.iastore, 0) := by decide +kernel
theorem at_356_154 : am_at (am_m 356) 154 = some (.iinc 9 1, 0) := by decide +kernel
theorem at_356_157 : am_at (am_m 356) 157 = some (.goto (-52), 105) := by decide +kernel
theorem at_356_160 : am_at (am_m 356) 160 = some (.aload_n 0, 0) := by decide +kernel
theorem at_356_161 : am_at (am_m 356) 161 = some (.dup, 0) := by decide +kernel
theorem at_356_162 : am_at (am_m 356) 162 = some (.getfield 296, 3073) := by decide +kernel
theorem at_356_165 : am_at (am_m 356) 165 = some (.iconst 1, 0) := by decide +kernel
theorem at_356_166 : am_at (am_m 356) 166 = some (.iadd, 0) := by decide +kernel
theorem at_356_167 : am_at (am_m 356) 167 = some (.putfield 296, 3073) := by decide +kernel
theorem at_356_170 : am_at (am_m 356) 170 = some (.iload 8, 0) := by decide +kernel
theorem at_356_172 : am_at (am_m 356) 172 = some (.ireturn, 0) := by decide +kernel
theorem at_357_0 : am_at (am_m 357) 0 = some (.aload_n 0, 0) := by decide +kernel
theorem at_357_1 : am_at (am_m 357) 1 = some (.aload_n 0, 0) := by decide +kernel
theorem at_357_2 : am_at (am_m 357) 2 = some (.iload_n 1, 0) := by decide +kernel
theorem at_357_3 : am_at (am_m 357) 3 = some (.invokevirtual 568, 358) := by decide +kernel
theorem at_357_6 : am_at (am_m 357) 6 = some (.ifCond .eq 7, 13) := by decide +kernel
theorem at_357_9 : am_at (am_m 357) 9 = some (.iconst 0, 0) := by decide +kernel
theorem at_357_10 : am_at (am_m 357) 10 = some (.goto 4, 14) := by decide +kernel
theorem at_357_13 : am_at (am_m 357) 13 = some (.iconst 1, 0) := by decide +kernel
theorem at_357_14 : am_at (am_m 357) 14 = some (.putfield 292, 3072) := by decide +kernel
theorem at_357_17 : am_at (am_m 357) 17 = some (.aload_n 0, 0) := by decide +kernel
theorem at_357_18 : am_at (am_m 357) 18 = some (.getfield 292, 3072) := by decide +kernel
theorem at_357_21 : am_at (am_m 357) 21 = some (.ifCond .le 5, 26) := by decide +kernel
theorem at_357_24 : am_at (am_m 357) 24 = some (.iconst 0, 0) := by decide +kernel
theorem at_357_25 : am_at (am_m 357) 25 = some (.ireturn, 0) := by decide +kernel
theorem at_357_26 : am_at (am_m 357) 26 = some (.aload_n 0, 0) := by decide +kernel
theorem at_357_27 : am_at (am_m 357) 27 = some (.iload_n 1, 0) := by decide +kernel
theorem at_357_28 : am_at (am_m 357) 28 = some (.invokevirtual 571, 359) := by decide +kernel
theorem at_357_31 : am_at (am_m 357) 31 = some (.aload_n 0, 0) := by decide +kernel
theorem at_357_32 : am_at (am_m 357) 32 = some (.invokevirtual 574, 360) := by decide +kernel
theorem at_357_35 : am_at (am_m 357) 35 = some (.aload_n 0, 0) := by decide +kernel
theorem at_357_36 : am_at (am_m 357) 36 = some (.getfield 547, 3150) := by decide +kernel
theorem at_357_39 : am_at (am_m 357) 39 = some (.ireturn, 0) := by decide +kernel
theorem at_358_0 : am_at (am_m 358) 0 = some (.iload_n 1, 0) := by decide +kernel
theorem at_358_1 : am_at (am_m 358) 1 = some (.i2l, 0) := by decide +kernel
theorem at_358_2 : am_at (am_m 358) 2 = some (.lconst 0, 0) := by decide +kernel
theorem at_358_3 : am_at (am_m 358) 3 = some (.aload_n 0, 0) := by decide +kernel
theorem at_358_4 : am_at (am_m 358) 4 = some (.getfield 296, 3073) := by decide +kernel
theorem at_358_7 : am_at (am_m 358) 7 = some (.i2l, 0) := by decide +kernel
theorem at_358_8 : am_at (am_m 358) 8 = some (.lconst 1, 0) := by decide +kernel
theorem at_358_9 : am_at (am_m 358) 9 = some (.lsub, 0) := by decide +kernel
theorem at_358_10 : am_at (am_m 358) 10 = some (.invokestatic 299, 327) := by decide +kernel
theorem at_358_13 : am_at (am_m 358) 13 = some (.ireturn, 0) := by decide +kernel
theorem at_359_0 : am_at (am_m 359) 0 = some (.aload_n 0, 0) := by decide +kernel
theorem at_359_1 : am_at (am_m 359) 1 = some (.aload_n 0, 0) := by decide +kernel
theorem at_359_2 : am_at (am_m 359) 2 = some (.getfield 7, 3074) := by decide +kernel
theorem at_359_5 : am_at (am_m 359) 5 = some (.iload_n 1, 0) := by decide +kernel
theorem at_359_6 : am_at (am_m 359) 6 = some (.iaload, 0) := by decide +kernel
theorem at_359_7 : am_at (am_m 359) 7 = some (.putfield 303, 3085) := by decide +kernel
theorem at_359_10 : am_at (am_m 359) 10 = some (.aload_n 0, 0) := by decide +kernel
theorem at_359_11 : am_at (am_m 359) 11 = some (.aload_n 0, 0) := by decide +kernel
theorem at_359_12 : am_at (am_m 359) 12 = some (.getfield 13, 3075) := by decide +kernel
theorem at_359_15 : am_at (am_m 359) 15 = some (.iload_n 1, 0) := by decide +kernel
theorem at_359_16 : am_at (am_m 359) 16 = some (.iaload, 0) := by decide +kernel
theorem at_359_17 : am_at (am_m 359) 17 = some (.putfield 306, 3086) := by decide +kernel
theorem at_359_20 : am_at (am_m 359) 20 = some (.aload_n 0, 0) := by decide +kernel
theorem at_359_21 : am_at (am_m 359) 21 = some (.aload_n 0, 0) := by decide +kernel
theorem at_359_22 : am_at (am_m 359) 22 = some (.getfield 16, 3076) := by decide +kernel
theorem at_359_25 : am_at (am_m 359) 25 = some (.iload_n 1, 0) := by decide +kernel
theorem at_359_26 : am_at (am_m 359) 26 = some (.iaload, 0) := by decide +kernel
theorem at_359_27 : am_at (am_m 359) 27 = some (.putfield 309, 3087) := by decide +kernel
theorem at_359_30 : am_at (am_m 359) 30 = some (.iconst 0, 0) := by decide +kernel
theorem at_359_31 : am_at (am_m 359) 31 = some (.istore_n 2, 0) := by decide +kernel
theorem at_359_32 : am_at (am_m 359) 32 = some (.iload_n 2, 0) := by decide +kernel
theorem at_359_33 : am_at (am_m 359) 33 = some (.aload_n 0, 0) := by decide +kernel
theorem at_359_34 : am_at (am_m 359) 34 = some (.getfield 306, 3086) := by decide +kernel
theorem at_359_37 : am_at (am_m 359) 37 = some (.if_icmp .ge 43, 80) := by decide +kernel
theorem at_359_40 : am_at (am_m 359) 40 = some (.aload_n 0, 0) := by decide +kernel
theorem at_359_41 : am_at (am_m 359) 41 = some (.getfield 45, 3088) := by decide +kernel
theorem at_359_44 : am_at (am_m 359) 44 = some (.iload_n 2, 0) := by decide +kernel
theorem at_359_45 : am_at (am_m 359) 45 = some (.aload_n 0, 0) := by decide +kernel
theorem at_359_46 : am_at (am_m 359) 46 = some (.getfield 39, 3083) := by decide +kernel
theorem at_359_49 : am_at (am_m 359) 49 = some (.bipush 60, 0) := by decide +kernel
theorem at_359_51 : am_at (am_m 359) 51 = some (.iload_n 1, 0) := by decide +kernel
theorem at_359_52 : am_at (am_m 359) 52 = some (.imul, 0) := by decide +kernel
theorem at_359_53 : am_at (am_m 359) 53 = some (.iload_n 2, 0) := by decide +kernel
theorem at_359_54 : am_at (am_m 359) 54 = some (.iadd, 0) := by decide +kernel
theorem at_359_55 : am_at (am_m 359) 55 = some (.iaload, 0) := by decide +kernel
theorem at_359_56 : am_at (am_m 359) 56 = some (.iastore, 0) := by decide +kernel
theorem at_359_57 : am_at (am_m 359) 57 = some (.aload_n 0, 0) := by decide +kernel
theorem at_359_58 : am_at (am_m 359) 58 = some (.getfield 48, 3089) := by decide +kernel
theorem at_359_61 : am_at (am_m 359) 61 = some (.iload_n 2, 0) := by decide +kernel
theorem at_359_62 : am_at (am_m 359) 62 = some (.aload_n 0, 0) := by decide +kernel
theorem at_359_63 : am_at (am_m 359) 63 = some (.getfield 42, 3084) := by decide +kernel
theorem at_359_66 : am_at (am_m 359) 66 = some (.bipush 60, 0) := by decide +kernel
theorem at_359_68 : am_at (am_m 359) 68 = some (.iload_n 1, 0) := by decide +kernel
theorem at_359_69 : am_at (am_m 359) 69 = some (.imul, 0) := by decide +kernel
theorem at_359_70 : am_at (am_m 359) 70 = some (.iload_n 2, 0) := by decide +kernel
theorem at_359_71 : am_at (am_m 359) 71 = some (.iadd, 0) := by decide +kernel
theorem at_359_72 : am_at (am_m 359) 72 = some (.iaload, 0) := by decide +kernel
theorem at_359_73 : am_at (am_m 359) 73 = some (.iastore, 0) := by decide +kernel
theorem at_359_74 : am_at (am_m 359) 74 = some (.iinc 2 1, 0) := by decide +kernel
theorem at_359_77 : am_at (am_m 359) 77 = some (.goto (-45), 32) := by decide +kernel
theorem at_359_80 : am_at (am_m 359) 80 = some (.return_, 0) := by decide +kernel
theorem at_360_0 : am_at (am_m 360) 0 = some (.aload_n 0, 0) := by decide +kernel
theorem at_360_1 : am_at (am_m 360) 1 = some (.iconst 0, 0) := by decide +kernel
theorem at_360_2 : am_at (am_m 360) 2 = some (.putfield 547, 3150) := by decide +kernel
theorem at_360_5 : am_at (am_m 360) 5 = some (.aload_n 0, 0) := by decide +kernel
theorem at_360_6 : am_at (am_m 360) 6 = some (.getfield 303, 3085) := by decide +kernel
theorem at_360_9 : am_at (am_m 360) 9 = some (.ifCond .ne 7, 16) := by decide +kernel
theorem at_360_12 : am_at (am_m 360) 12 = some (.aload_n 0, 0) := by decide +kernel
theorem at_360_13 : am_at (am_m 360) 13 = some (.invokevirtual 562, 361) := by decide +kernel
theorem at_360_16 : am_at (am_m 360) 16 = some (.iconst 0, 0) := by decide +kernel
theorem at_360_17 : am_at (am_m 360) 17 = some (.istore_n 1, 0) := by decide +kernel
theorem at_360_18 : am_at (am_m 360) 18 = some (.iload_n 1, 0) := by decide +kernel
theorem at_360_19 : am_at (am_m 360) 19 = some (.aload_n 0, 0) := by decide +kernel
theorem at_360_20 : am_at (am_m 360) 20 = some (.getfield 306, 3086) := by decide +kernel
theorem at_360_23 : am_at (am_m 360) 23 = some (.if_icmp .ge 83, 106) := by decide +kernel
theorem at_360_26 : am_at (am_m 360) 26 = some (.aload_n 0, 0) := by decide +kernel
theorem at_360_27 : am_at (am_m 360) 27 = some (.getfield 303, 3085) := by decide +kernel
theorem at_360_30 : am_at (am_m 360) 30 = some (.iconst 1, 0) := by decide +kernel
theorem at_360_31 : am_at (am_m 360) 31 = some (.if_icmp .ne 75, 106) := by decide +kernel
theorem at_360_34 : am_at (am_m 360) 34 = some (.iload_n 1, 0) := by decide +kernel
theorem at_360_35 : am_at (am_m 360) 35 = some (.ifCond .le 9, 44) := by decide +kernel
theorem at_360_38 : am_at (am_m 360) 38 = some (.aload_n 0, 0) := by decide +kernel
theorem at_360_39 : am_at (am_m 360) 39 = some (.bipush 32, 0) := by decide +kernel
theorem at_360_41 : am_at (am_m 360) 41 = some (.invokevirtual 550, 362) := by decide +kernel
theorem at_360_44 : am_at (am_m 360) 44 = some (.aload_n 0, 0) := by decide +kernel
theorem at_360_45 : am_at (am_m 360) 45 = some (.getfield 45, 3088) := by decide +kernel
theorem at_360_48 : am_at (am_m 360) 48 = some (.iload_n 1, 0) := by decide +kernel
theorem at_360_49 : am_at (am_m 360) 49 = some (.iaload, 0) := by decide +kernel
theorem at_360_50 : am_at (am_m 360) 50 = some (.ifCond .ne 16, 66) := by decide +kernel
theorem at_360_53 : am_at (am_m 360) 53 = some (.aload_n 0, 0) := by decide +kernel
theorem at_360_54 : am_at (am_m 360) 54 = some (.aload_n 0, 0) := by decide +kernel
theorem at_360_55 : am_at (am_m 360) 55 = some (.getfield 48, 3089) := by decide +kernel
theorem at_360_58 : am_at (am_m 360) 58 = some (.iload_n 1, 0) := by decide +kernel
theorem at_360_59 : am_at (am_m 360) 59 = some (.iaload, 0) := by decide +kernel
theorem at_360_60 : am_at (am_m 360) 60 = some (.invokevirtual 556, 363) := by decide +kernel
theorem at_360_63 : am_at (am_m 360) 63 = some (.goto 16, 79) := by decide +kernel
theorem at_360_66 : am_at (am_m 360) 66 = some (.aload_n 0, 0) := by decide +kernel
theorem at_360_67 : am_at (am_m 360) 67 = some (.aload_n 0, 0) := by decide +kernel
theorem at_360_68 : am_at (am_m 360) 68 = some (.getfield 45, 3088) := by decide +kernel
theorem at_360_71 : am_at (am_m 360) 71 = some (.iload_n 1, 0) := by decide +kernel
theorem at_360_72 : am_at (am_m 360) 72 = some (.iaload, 0) := by decide +kernel
theorem at_360_73 : am_at (am_m 360) 73 = some (.invokestatic 565, 366) := by decide +kernel
theorem at_360_76 : am_at (am_m 360) 76 = some (.invokevirtual 550, 362) := by decide +kernel
theorem at_360_79 : am_at (am_m 360) 79 = some (.aload_n 0, 0) := by decide +kernel
theorem at_360_80 : am_at (am_m 360) 80 = some (.getfield 45, 3088) := by decide +kernel
theorem at_360_83 : am_at (am_m 360) 83 = some (.iload_n 1, 0) := by decide +kernel
theorem at_360_84 : am_at (am_m 360) 84 = some (.iaload, 0) := by decide +kernel
theorem at_360_85 : am_at (am_m 360) 85 = some (.bipush 16, 0) := by decide +kernel
theorem at_360_87 : am_at (am_m 360) 87 = some (.if_icmp .le 13, 100) := by decide +kernel
theorem at_360_90 : am_at (am_m 360) 90 = some (.aload_n 0, 0) := by decide +kernel
theorem at_360_91 : am_at (am_m 360) 91 = some (.aload_n 0, 0) := by decide +kernel
theorem at_360_92 : am_at (am_m 360) 92 = some (.getfield 48, 3089) := by decide +kernel
theorem at_360_95 : am_at (am_m 360) 95 = some (.iload_n 1, 0) := by decide +kernel
theorem at_360_96 : am_at (am_m 360) 96 = some (.iaload, 0) := by decide +kernel
theorem at_360_97 : am_at (am_m 360) 97 = some (.invokevirtual 556, 363) := by decide +kernel
theorem at_360_100 : am_at (am_m 360) 100 = some (.iinc 1 1, 0) := by decide +kernel
theorem at_360_103 : am_at (am_m 360) 103 = some (.goto (-85), 18) := by decide +kernel
theorem at_360_106 : am_at (am_m 360) 106 = some (.iconst 0, 0) := by decide +kernel
theorem at_360_107 : am_at (am_m 360) 107 = some (.istore_n 1, 0) := by decide +kernel
theorem at_360_108 : am_at (am_m 360) 108 = some (.iload_n 1, 0) := by decide +kernel
theorem at_360_109 : am_at (am_m 360) 109 = some (.aload_n 0, 0) := by decide +kernel
theorem at_360_110 : am_at (am_m 360) 110 = some (.getfield 306, 3086) := by decide +kernel
theorem at_360_113 : am_at (am_m 360) 113 = some (.if_icmp .ge 73, 186) := by decide +kernel
theorem at_360_116 : am_at (am_m 360) 116 = some (.aload_n 0, 0) := by decide +kernel
theorem at_360_117 : am_at (am_m 360) 117 = some (.getfield 303, 3085) := by decide +kernel
theorem at_360_120 : am_at (am_m 360) 120 = some (.iconst 2, 0) := by decide +kernel
theorem at_360_121 : am_at (am_m 360) 121 = some (.if_icmp .ne 65, 186) := by decide +kernel
theorem at_360_124 : am_at (am_m 360) 124 = some (.iload_n 1, 0) := by decide +kernel
theorem at_360_125 : am_at (am_m 360) 125 = some (.ifCond .le 9, 134) := by decide +kernel
theorem at_360_128 : am_at (am_m 360) 128 = some (.aload_n 0, 0) := by decide +kernel
theorem at_360_129 : am_at (am_m 360) 129 = some (.bipush 59, 0) := by decide +kernel
theorem at_360_131 : am_at (am_m 360) 131 = some (.invokevirtual 550, 362) := by decide +kernel
theorem at_360_134 : am_at (am_m 360) 134 = some (.aload_n 0, 0) := by decide +kernel
theorem at_360_135 : am_at (am_m 360) 135 = some (.aload_n 0, 0) := by decide +kernel
theorem at_360_136 : am_at (am_m 360) 136 = some (.getfield 45, 3088) := by decide +kernel
theorem at_360_139 : am_at (am_m 360) 139 = some (.iload_n 1, 0) := by decide +kernel
theorem at_360_140 : am_at (am_m 360) 140 = some (.iaload, 0) := by decide +kernel
theorem at_360_141 : am_at (am_m 360) 141 = some (.invokevirtual 556, 363) := by decide +kernel
theorem at_360_144 : am_at (am_m 360) 144 = some (.aload_n 0, 0) := by decide +kernel
theorem at_360_145 : am_at (am_m 360) 145 = some (.bipush 58, 0) := by decide +kernel
theorem at_360_147 : am_at (am_m 360) 147 = some (.invokevirtual 550, 362) := by decide +kernel
theorem at_360_150 : am_at (am_m 360) 150 = some (.iconst 0, 0) := by decide +kernel
theorem at_360_151 : am_at (am_m 360) 151 = some (.istore_n 2, 0) := by decide +kernel
theorem at_360_152 : am_at (am_m 360) 152 = some (.iload_n 2, 0) := by decide +kernel
theorem at_360_153 : am_at (am_m 360) 153 = some (.iconst 4, 0) := by decide +kernel
theorem at_360_154 : am_at (am_m 360) 154 = some (.if_icmp .ge 26, 180) := by decide +kernel
theorem at_360_157 : am_at (am_m 360) 157 = some (.aload_n 0, 0) := by decide +kernel
theorem at_360_158 : am_at (am_m 360) 158 = some (.bipush 48, 0) := by decide +kernel
theorem at_360_160 : am_at (am_m 360) 160 = some (.aload_n 0, 0) := by decide +kernel
theorem at_360_161 : am_at (am_m 360) 161 = some (.getfield 48, 3089) := by decide +kernel
theorem at_360_164 : am_at (am_m 360) 164 = some (.iload_n 1, 0) := by decide +kernel
theorem at_360_165 : am_at (am_m 360) 165 = some (.iaload, 0) := by decide +kernel
theorem at_360_166 : am_at (am_m 360) 166 = some (.iload_n 2, 0) := by decide +kernel
theorem at_360_167 : am_at (am_m 360) 167 = some (.invokestatic 447, 367) := by decide +kernel
theorem at_360_170 : am_at (am_m 360) 170 = some (.iadd, 0) := by decide +kernel
theorem at_360_171 : am_at (am_m 360) 171 = some (.invokevirtual 550, 362) := by decide +kernel
theorem at_360_174 : am_at (am_m 360) 174 = some (.iinc 2 1, 0) := by decide +kernel
theorem at_360_177 : am_at (am_m 360) 177 = some (.goto (-25), 152) := by decide +kernel
theorem at_360_180 : am_at (am_m 360) 180 = some (.iinc 1 1, 0) := by decide +kernel
theorem at_360_183 : am_at (am_m 360) 183 = some (.goto (-75), 108) := by decide +kernel
theorem at_360_186 : am_at (am_m 360) 186 = some (.aload_n 0, 0) := by decide +kernel
theorem at_360_187 : am_at (am_m 360) 187 = some (.getfield 303, 3085) := by decide +kernel
theorem at_360_190 : am_at (am_m 360) 190 = some (.iconst 3, 0) := by decide +kernel
theorem at_360_191 : am_at (am_m 360) 191 = some (.if_icmp .ne 14, 205) := by decide +kernel
theorem at_360_194 : am_at (am_m 360) 194 = some (.aload_n 0, 0) := by decide +kernel
theorem at_360_195 : am_at (am_m 360) 195 = some (.bipush 48, 0) := by decide +kernel
theorem at_360_197 : am_at (am_m 360) 197 = some (.aload_n 0, 0) := by decide +kernel
theorem at_360_198 : am_at (am_m 360) 198 = some (.getfield 309, 3087) := by decide +kernel
theorem at_360_201 : am_at (am_m 360) 201 = some (.iadd, 0) := by decide +kernel
theorem at_360_202 : am_at (am_m 360) 202 = some (.invokevirtual 550, 362) := by decide +kernel
theorem at_360_205 : am_at (am_m 360) 205 = some (.aload_n 0, 0) := by decide +kernel
theorem at_360_206 : am_at (am_m 360) 206 = some (.getfield 303, 3085) := by decide +kernel
theorem at_360_209 : am_at (am_m 360) 209 = some (.iconst 3, 0) := by decide +kernel
theorem at_360_210 : am_at (am_m 360) 210 = some (.if_icmp .ne 9, 219) := by decide +kernel
theorem at_360_213 : am_at (am_m 360) 213 = some (.aload_n 0, 0) := by decide +kernel
theorem at_360_214 : am_at (am_m 360) 214 = some (.bipush 58, 0) := by decide +kernel
theorem at_360_216 : am_at (am_m 360) 216 = some (.invokevirtual 550, 362) := by decide +kernel
theorem at_360_219 : am_at (am_m 360) 219 = some (.iconst 0, 0) := by decide +kernel
theorem at_360_220 : am_at (am_m 360) 220 = some (.istore_n 1, 0) := by decide +kernel
theorem at_360_221 : am_at (am_m 360) 221 = some (.iload_n 1, 0) := by decide +kernel
theorem at_360_222 : am_at (am_m 360) 222 = some (.aload_n 0, 0) := by decide +kernel
theorem at_360_223 : am_at (am_m 360) 223 = some (.getfield 306, 3086) := by decide +kernel
theorem at_360_226 : am_at (am_m 360) 226 = some (.if_icmp .ge 53, 279) := by decide +kernel
theorem at_360_229 : am_at (am_m 360) 229 = some (.aload_n 0, 0) := by decide +kernel
theorem at_360_230 : am_at (am_m 360) 230 = some (.getfield 303, 3085) := by decide +kernel
theorem at_360_233 : am_at (am_m 360) 233 = some (.iconst 3, 0) := by decide +kernel
theorem at_360_234 : am_at (am_m 360) 234 = some (.if_icmp .ne 45, 279) := by decide +kernel
theorem at_360_237 : am_at (am_m 360) 237 = some (.iload_n 1, 0) := by decide +kernel
theorem at_360_238 : am_at (am_m 360) 238 = some (.ifCond .le 9, 247) := by decide +kernel
theorem at_360_241 : am_at (am_m 360) 241 = some (.aload_n 0, 0) := by decide +kernel
theorem at_360_242 : am_at (am_m 360) 242 = some (.bipush 44, 0) := by decide +kernel
theorem at_360_244 : am_at (am_m 360) 244 = some (.invokevirtual 550, 362) := by decide +kernel
theorem at_360_247 : am_at (am_m 360) 247 = some (.aload_n 0, 0) := by decide +kernel
theorem at_360_248 : am_at (am_m 360) 248 = some (.bipush 48, 0) := by decide +kernel
theorem at_360_250 : am_at (am_m 360) 250 = some (.aload_n 0, 0) := by decide +kernel
theorem at_360_251 : am_at (am_m 360) 251 = some (.getfield 45, 3088) := by decide +kernel
theorem at_360_254 : am_at (am_m 360) 254 = some (.iload_n 1, 0) := by decide +kernel
theorem at_360_255 : am_at (am_m 360) 255 = some (.iaload, 0) := by decide +kernel
theorem at_360_256 : am_at (am_m 360) 256 = some (.iadd, 0) := by decide +kernel
theorem at_360_257 : am_at (am_m 360) 257 = some (.invokevirtual 550, 362) := by decide +kernel
theorem at_360_260 : am_at (am_m 360) 260 = some (.aload_n 0, 0) := by decide +kernel
theorem at_360_261 : am_at (am_m 360) 261 = some (.bipush 48, 0) := by decide +kernel
theorem at_360_263 : am_at (am_m 360) 263 = some (.aload_n 0, 0) := by decide +kernel
theorem at_360_264 : am_at (am_m 360) 264 = some (.getfield 48, 3089) := by decide +kernel
theorem at_360_267 : am_at (am_m 360) 267 = some (.iload_n 1, 0) := by decide +kernel
theorem at_360_268 : am_at (am_m 360) 268 = some (.iaload, 0) := by decide +kernel
theorem at_360_269 : am_at (am_m 360) 269 = some (.iadd, 0) := by decide +kernel
theorem at_360_270 : am_at (am_m 360) 270 = some (.invokevirtual 550, 362) := by decide +kernel
theorem at_360_273 : am_at (am_m 360) 273 = some (.iinc 1 1, 0) := by decide +kernel
theorem at_360_276 : am_at (am_m 360) 276 = some (.goto (-55), 221) := by decide +kernel
theorem at_360_279 : am_at (am_m 360) 279 = some (.return_, 0) := by decide +kernel
theorem at_361_0 : am_at (am_m 361) 0 = some (.aload_n 0, 0) := by decide +kernel
theorem at_361_1 : am_at (am_m 361) 1 = some (.iconst 0, 0) := by decide +kernel
theorem at_361_2 : am_at (am_m 361) 2 = some (.putfield 482, 3145) := by decide +kernel
theorem at_361_5 : am_at (am_m 361) 5 = some (.iconst 0, 0) := by decide +kernel
theorem at_361_6 : am_at (am_m 361) 6 = some (.istore_n 1, 0) := by decide +kernel
theorem at_361_7 : am_at (am_m 361) 7 = some (.iload_n 1, 0) := by decide +kernel
theorem at_361_8 : am_at (am_m 361) 8 = some (.aload_n 0, 0) := by decide +kernel
theorem at_361_9 : am_at (am_m 361) 9 = some (.getfield 306, 3086) := by decide +kernel
theorem at_361_12 : am_at (am_m 361) 12 = some (.if_icmp .ge 107, 119) := by decide +kernel
theorem at_361_15 : am_at (am_m 361) 15 = some (.iload_n 1, 0) := by decide +kernel
theorem at_361_16 : am_at (am_m 361) 16 = some (.ifCond .le 9, 25) := by decide +kernel
theorem at_361_19 : am_at (am_m 361) 19 = some (.aload_n 0, 0) := by decide +kernel
theorem at_361_20 : am_at (am_m 361) 20 = some (.bipush 32, 0) := by decide +kernel
theorem at_361_22 : am_at (am_m 361) 22 = some (.invokevirtual 550, 362) := by decide +kernel
theorem at_361_25 : am_at (am_m 361) 25 = some (.aload_n 0, 0) := by decide +kernel
theorem at_361_26 : am_at (am_m 361) 26 = some (.getfield 45, 3088) := by decide +kernel
theorem at_361_29 : am_at (am_m 361) 29 = some (.iload_n 1, 0) := by decide +kernel
theorem at_361_30 : am_at (am_m 361) 30 = some (.iaload, 0) := by decide +kernel
theorem at_361_31 : am_at (am_m 361) 31 = some (.istore_n 2, 0) := by decide +kernel
theorem at_361_32 : am_at (am_m 361) 32 = some (.iload_n 2, 0) := by decide +kernel
theorem at_361_33 : am_at (am_m 361) 33 = some (.ifCond .ne 13, 46) := by decide +kernel
theorem at_361_36 : am_at (am_m 361) 36 = some (.aload_n 0, 0) := by decide +kernel
theorem at_361_37 : am_at (am_m 361) 37 = some (.aload_n 0, 0) := by decide +kernel
theorem at_361_38 : am_at (am_m 361) 38 = some (.getfield 48, 3089) := by decide +kernel
theorem at_361_41 : am_at (am_m 361) 41 = some (.iload_n 1, 0) := by decide +kernel
theorem at_361_42 : am_at (am_m 361) 42 = some (.iaload, 0) := by decide +kernel
theorem at_361_43 : am_at (am_m 361) 43 = some (.invokevirtual 556, 363) := by decide +kernel
theorem at_361_46 : am_at (am_m 361) 46 = some (.iload_n 2, 0) := by decide +kernel
theorem at_361_47 : am_at (am_m 361) 47 = some (.bipush 6, 0) := by decide +kernel
theorem at_361_49 : am_at (am_m 361) 49 = some (.if_icmp .le 9, 58) := by decide +kernel
theorem at_361_52 : am_at (am_m 361) 52 = some (.aload_n 0, 0) := by decide +kernel
theorem at_361_53 : am_at (am_m 361) 53 = some (.bipush 40, 0) := by decide +kernel
theorem at_361_55 : am_at (am_m 361) 55 = some (.invokevirtual 550, 362) := by decide +kernel
theorem at_361_58 : am_at (am_m 361) 58 = some (.iload_n 2, 0) := by decide +kernel
theorem at_361_59 : am_at (am_m 361) 59 = some (.ifCond .le 11, 70) := by decide +kernel
theorem at_361_62 : am_at (am_m 361) 62 = some (.aload_n 0, 0) := by decide +kernel
theorem at_361_63 : am_at (am_m 361) 63 = some (.iload_n 2, 0) := by decide +kernel
theorem at_361_64 : am_at (am_m 361) 64 = some (.invokestatic 553, 364) := by decide +kernel
theorem at_361_67 : am_at (am_m 361) 67 = some (.invokevirtual 550, 362) := by decide +kernel
theorem at_361_70 : am_at (am_m 361) 70 = some (.iload_n 2, 0) := by decide +kernel
theorem at_361_71 : am_at (am_m 361) 71 = some (.bipush 6, 0) := by decide +kernel
theorem at_361_73 : am_at (am_m 361) 73 = some (.if_icmp .le 36, 109) := by decide +kernel
theorem at_361_76 : am_at (am_m 361) 76 = some (.aload_n 0, 0) := by decide +kernel
theorem at_361_77 : am_at (am_m 361) 77 = some (.getfield 148, 3146) := by decide +kernel
theorem at_361_80 : am_at (am_m 361) 80 = some (.aload_n 0, 0) := by decide +kernel
theorem at_361_81 : am_at (am_m 361) 81 = some (.getfield 482, 3145) := by decide +kernel
theorem at_361_84 : am_at (am_m 361) 84 = some (.iload_n 2, 0) := by decide +kernel
theorem at_361_85 : am_at (am_m 361) 85 = some (.iastore, 0) := by decide +kernel
theorem at_361_86 : am_at (am_m 361) 86 = some (.aload_n 0, 0) := by decide +kernel
theorem at_361_87 : am_at (am_m 361) 87 = some (.getfield 151, 3147) := by decide +kernel
theorem at_361_90 : am_at (am_m 361) 90 = some (.aload_n 0, 0) := by decide +kernel
theorem at_361_91 : am_at (am_m 361) 91 = some (.getfield 482, 3145) := by decide +kernel
theorem at_361_94 : am_at (am_m 361) 94 = some (.iconst 0, 0) := by decide +kernel
theorem at_361_95 : am_at (am_m 361) 95 = some (.iastore, 0) := by decide +kernel
theorem at_361_96 : am_at (am_m 361) 96 = some (.aload_n 0, 0) := by decide +kernel
theorem at_361_97 : am_at (am_m 361) 97 = some (.dup, 0) := by decide +kernel
theorem at_361_98 : am_at (am_m 361) 98 = some (.getfield 482, 3145) := by decide +kernel
theorem at_361_101 : am_at (am_m 361) 101 = some (.iconst 1, 0) := by decide +kernel
theorem at_361_102 : am_at (am_m 361) 102 = some (.iadd, 0) := by decide +kernel
theorem at_361_103 : am_at (am_m 361) 103 = some (.putfield 482, 3145) := by decide +kernel
theorem at_361_106 : am_at (am_m 361) 106 = some (.goto 7, 113) := by decide +kernel
theorem at_361_109 : am_at (am_m 361) 109 = some (.aload_n 0, 0) := by decide +kernel
theorem at_361_110 : am_at (am_m 361) 110 = some (.invokevirtual 559, 365) := by decide +kernel
theorem at_361_113 : am_at (am_m 361) 113 = some (.iinc 1 1, 0) := by decide +kernel
theorem at_361_116 : am_at (am_m 361) 116 = some (.goto (-109), 7) := by decide +kernel
theorem at_361_119 : am_at (am_m 361) 119 = some (.return_, 0) := by decide +kernel
theorem at_362_0 : am_at (am_m 362) 0 = some (.aload_n 0, 0) := by decide +kernel
theorem at_362_1 : am_at (am_m 362) 1 = some (.getfield 157, 3151) := by decide +kernel
theorem at_362_4 : am_at (am_m 362) 4 = some (.aload_n 0, 0) := by decide +kernel
theorem at_362_5 : am_at (am_m 362) 5 = some (.getfield 547, 3150) := by decide +kernel
theorem at_362_8 : am_at (am_m 362) 8 = some (.iload_n 1, 0) := by decide +kernel
theorem at_362_9 : am_at (am_m 362) 9 = some (.iastore, 0) := by decide +kernel
theorem at_362_10 : am_at (am_m 362) 10 = some (.aload_n 0, 0) := by decide +kernel
theorem at_362_11 : am_at (am_m 362) 11 = some (.dup, 0) := by decide +kernel
theorem at_362_12 : am_at (am_m 362) 12 = some (.getfield 547, 3150) := by decide +kernel
theorem at_362_15 : am_at (am_m 362) 15 = some (.iconst 1, 0) := by decide +kernel
theorem at_362_16 : am_at (am_m 362) 16 = some (.iadd, 0) := by decide +kernel
theorem at_362_17 : am_at (am_m 362) 17 = some (.putfield 547, 3150) := by decide +kernel
theorem at_362_20 : am_at (am_m 362) 20 = some (.return_, 0) := by decide +kernel
theorem at_363_0 : am_at (am_m 363) 0 = some (.iload_n 1, 0) := by decide +kernel
theorem at_363_1 : am_at (am_m 363) 1 = some (.ifCond .ge 8, 9) := by decide +kernel
theorem at_363_4 : am_at (am_m 363) 4 = some (.iload_n 1, 0) := by decide +kernel
theorem at_363_5 : am_at (am_m 363) 5 = some (.ineg, 0) := by decide +kernel
theorem at_363_6 : am_at (am_m 363) 6 = some (.goto 4, 10) := by decide +kernel
theorem at_363_9 : am_at (am_m 363) 9 = some (.iload_n 1, 0) := by decide +kernel
theorem at_363_10 : am_at (am_m 363) 10 = some (.istore_n 2, 0) := by decide +kernel
theorem at_363_11 : am_at (am_m 363) 11 = some (.iload_n 1, 0) := by decide +kernel
theorem at_363_12 : am_at (am_m 363) 12 = some (.ifCond .ge 9, 21) := by decide +kernel
theorem at_363_15 : am_at (am_m 363) 15 = some (.aload_n 0, 0) := by decide +kernel
theorem at_363_16 : am_at (am_m 363) 16 = some (.bipush 45, 0) := by decide +kernel
theorem at_363_18 : am_at (am_m 363) 18 = some (.invokevirtual 550, 362) := by decide +kernel
theorem at_363_21 : am_at (am_m 363) 21 = some (.iload_n 2, 0) := by decide +kernel
theorem at_363_22 : am_at (am_m 363) 22 = some (.bipush 9, 0) := by decide +kernel
theorem at_363_24 : am_at (am_m 363) 24 = some (.if_icmp .le 14, 38) := by decide +kernel
theorem at_363_27 : am_at (am_m 363) 27 = some (.aload_n 0, 0) := by decide +kernel
theorem at_363_28 : am_at (am_m 363) 28 = some (.bipush 48, 0) := by decide +kernel
theorem at_363_30 : am_at (am_m 363) 30 = some (.iload_n 2, 0) := by decide +kernel
theorem at_363_31 : am_at (am_m 363) 31 = some (.bipush 10, 0) := by decide +kernel
theorem at_363_33 : am_at (am_m 363) 33 = some (.idiv, 0) := by decide +kernel
theorem at_363_34 : am_at (am_m 363) 34 = some (.iadd, 0) := by decide +kernel
theorem at_363_35 : am_at (am_m 363) 35 = some (.invokevirtual 550, 362) := by decide +kernel
theorem at_363_38 : am_at (am_m 363) 38 = some (.aload_n 0, 0) := by decide +kernel
theorem at_363_39 : am_at (am_m 363) 39 = some (.bipush 48, 0) := by decide +kernel
theorem at_363_41 : am_at (am_m 363) 41 = some (.iload_n 2, 0) := by decide +kernel
theorem at_363_42 : am_at (am_m 363) 42 = some (.bipush 10, 0) := by decide +kernel
theorem at_363_44 : am_at (am_m 363) 44 = some (.irem, 0) := by decide +kernel
theorem at_363_45 : am_at (am_m 363) 45 = some (.iadd, 0) := by decide +kernel
theorem at_363_46 : am_at (am_m 363) 46 = some (.invokevirtual 550, 362) := by decide +kernel
theorem at_363_49 : am_at (am_m 363) 49 = some (.return_, 0) := by decide +kernel
theorem at_364_0 : am_at (am_m 364) 0 = some (.iload_n 0, 0) := by decide +kernel
theorem at_364_1 : am_at (am_m 364) 1 = some (.tableswitch 148 1 19 #[91, 94, 97, 100, 103, 106, 109, 112, 115, 118, 121, 124, 127, 130, 133, 136, 139, 142, 145], 0) := by decide +kernel
theorem at_364_92 : am_at (am_m 364) 92 = some (.bipush 120, 0) := by decide +kernel
theorem at_364_94 : am_at (am_m 364) 94 = some (.ireturn, 0) := by decide +kernel
theorem at_364_95 : am_at (am_m 364) 95 = some (.bipush 121, 0) := by decide +kernel
theorem at_364_97 : am_at (am_m 364) 97 = some (.ireturn, 0) := by decide +kernel
theorem at_364_98 : am_at (am_m 364) 98 = some (.bipush 122, 0) := by decide +kernel
theorem at_364_100 : am_at (am_m 364) 100 = some (.ireturn, 0) := by decide +kernel
theorem at_364_101 : am_at (am_m 364) 101 = some (.bipush 110, 0) := by decide +kernel
theorem at_364_103 : am_at (am_m 364) 103 = some (.ireturn, 0) := by decide +kernel
theorem at_364_104 : am_at (am_m 364) 104 = some (.bipush 115, 0) := by decide +kernel
theorem at_364_106 : am_at (am_m 364) 106 = some (.ireturn, 0) := by decide +kernel
theorem at_364_107 : am_at (am_m 364) 107 = some (.bipush 101, 0) := by decide +kernel
theorem at_364_109 : am_at (am_m 364) 109 = some (.ireturn, 0) := by decide +kernel
theorem at_364_110 : am_at (am_m 364) 110 = some (.bipush 126, 0) := by decide +kernel
theorem at_364_112 : am_at (am_m 364) 112 = some (.ireturn, 0) := by decide +kernel
theorem at_364_113 : am_at (am_m 364) 113 = some (.bipush 35, 0) := by decide +kernel
theorem at_364_115 : am_at (am_m 364) 115 = some (.ireturn, 0) := by decide +kernel
theorem at_364_116 : am_at (am_m 364) 116 = some (.bipush 33, 0) := by decide +kernel
theorem at_364_118 : am_at (am_m 364) 118 = some (.ireturn, 0) := by decide +kernel
theorem at_364_119 : am_at (am_m 364) 119 = some (.bipush 43, 0) := by decide +kernel
theorem at_364_121 : am_at (am_m 364) 121 = some (.ireturn, 0) := by decide +kernel
theorem at_364_122 : am_at (am_m 364) 122 = some (.bipush 45, 0) := by decide +kernel
theorem at_364_124 : am_at (am_m 364) 124 = some (.ireturn, 0) := by decide +kernel
theorem at_364_125 : am_at (am_m 364) 125 = some (.bipush 42, 0) := by decide +kernel
theorem at_364_127 : am_at (am_m 364) 127 = some (.ireturn, 0) := by decide +kernel
theorem at_364_128 : am_at (am_m 364) 128 = some (.bipush 47, 0) := by decide +kernel
theorem at_364_130 : am_at (am_m 364) 130 = some (.ireturn, 0) := by decide +kernel
theorem at_364_131 : am_at (am_m 364) 131 = some (.bipush 37, 0) := by decide +kernel
theorem at_364_133 : am_at (am_m 364) 133 = some (.ireturn, 0) := by decide +kernel
theorem at_364_134 : am_at (am_m 364) 134 = some (.bipush 60, 0) := by decide +kernel
theorem at_364_136 : am_at (am_m 364) 136 = some (.ireturn, 0) := by decide +kernel
theorem at_364_137 : am_at (am_m 364) 137 = some (.bipush 61, 0) := by decide +kernel
theorem at_364_139 : am_at (am_m 364) 139 = some (.ireturn, 0) := by decide +kernel
theorem at_364_140 : am_at (am_m 364) 140 = some (.bipush 38, 0) := by decide +kernel
theorem at_364_142 : am_at (am_m 364) 142 = some (.ireturn, 0) := by decide +kernel
theorem at_364_143 : am_at (am_m 364) 143 = some (.bipush 124, 0) := by decide +kernel
theorem at_364_145 : am_at (am_m 364) 145 = some (.ireturn, 0) := by decide +kernel
theorem at_364_146 : am_at (am_m 364) 146 = some (.bipush 64, 0) := by decide +kernel
theorem at_364_148 : am_at (am_m 364) 148 = some (.ireturn, 0) := by decide +kernel
theorem at_364_149 : am_at (am_m 364) 149 = some (.bipush 63, 0) := by decide +kernel
theorem at_364_151 : am_at (am_m 364) 151 = some (.ireturn, 0) := by decide +kernel
theorem at_365_0 : am_at (am_m 365) 0 = some (.iconst 1, 0) := by decide +kernel
theorem at_365_1 : am_at (am_m 365) 1 = some (.istore_n 1, 0) := by decide +kernel
theorem at_365_2 : am_at (am_m 365) 2 = some (.iload_n 1, 0) := by decide +kernel
theorem at_365_3 : am_at (am_m 365) 3 = some (.ifCond .eq 82, 85) := by decide +kernel
theorem at_365_6 : am_at (am_m 365) 6 = some (.aload_n 0, 0) := by decide +kernel
theorem at_365_7 : am_at (am_m 365) 7 = some (.getfield 482, 3145) := by decide +kernel
theorem at_365_10 : am_at (am_m 365) 10 = some (.ifCond .le 75, 85) := by decide +kernel
theorem at_365_13 : am_at (am_m 365) 13 = some (.aload_n 0, 0) := by decide +kernel
theorem at_365_14 : am_at (am_m 365) 14 = some (.getfield 151, 3147) := by decide +kernel
theorem at_365_17 : am_at (am_m 365) 17 = some (.aload_n 0, 0) := by decide +kernel
theorem at_365_18 : am_at (am_m 365) 18 = some (.getfield 482, 3145) := by decide +kernel
theorem at_365_21 : am_at (am_m 365) 21 = some (.iconst 1, 0) := by decide +kernel
theorem at_365_22 : am_at (am_m 365) 22 = some (.isub, 0) := by decide +kernel
theorem at_365_23 : am_at (am_m 365) 23 = some (.dup2, 0) := by decide +kernel
theorem at_365_24 : am_at (am_m 365) 24 = some (.iaload, 0) := by decide +kernel
theorem at_365_25 : am_at (am_m 365) 25 = some (.iconst 1, 0) := by decide +kernel
theorem at_365_26 : am_at (am_m 365) 26 = some (.iadd, 0) := by decide +kernel
theorem at_365_27 : am_at (am_m 365) 27 = some (.iastore, 0) := by decide +kernel
theorem at_365_28 : am_at (am_m 365) 28 = some (.aload_n 0, 0) := by decide +kernel
theorem at_365_29 : am_at (am_m 365) 29 = some (.getfield 151, 3147) := by decide +kernel
theorem at_365_32 : am_at (am_m 365) 32 = some (.aload_n 0, 0) := by decide +kernel
theorem at_365_33 : am_at (am_m 365) 33 = some (.getfield 482, 3145) := by decide +kernel
theorem at_365_36 : am_at (am_m 365) 36 = some (.iconst 1, 0) := by decide +kernel
theorem at_365_37 : am_at (am_m 365) 37 = some (.isub, 0) := by decide +kernel
theorem at_365_38 : am_at (am_m 365) 38 = some (.iaload, 0) := by decide +kernel
theorem at_365_39 : am_at (am_m 365) 39 = some (.aload_n 0, 0) := by decide +kernel
theorem at_365_40 : am_at (am_m 365) 40 = some (.getfield 148, 3146) := by decide +kernel
theorem at_365_43 : am_at (am_m 365) 43 = some (.aload_n 0, 0) := by decide +kernel
theorem at_365_44 : am_at (am_m 365) 44 = some (.getfield 482, 3145) := by decide +kernel
theorem at_365_47 : am_at (am_m 365) 47 = some (.iconst 1, 0) := by decide +kernel
theorem at_365_48 : am_at (am_m 365) 48 = some (.isub, 0) := by decide +kernel
theorem at_365_49 : am_at (am_m 365) 49 = some (.iaload, 0) := by decide +kernel
theorem at_365_50 : am_at (am_m 365) 50 = some (.invokestatic 327, 343) := by decide +kernel
theorem at_365_53 : am_at (am_m 365) 53 = some (.if_icmp .ne 7, 60) := by decide +kernel
theorem at_365_56 : am_at (am_m 365) 56 = some (.iconst 1, 0) := by decide +kernel
theorem at_365_57 : am_at (am_m 365) 57 = some (.goto 4, 61) := by decide +kernel
theorem at_365_60 : am_at (am_m 365) 60 = some (.iconst 0, 0) := by decide +kernel
theorem at_365_61 : am_at (am_m 365) 61 = some (.istore_n 1, 0) := by decide +kernel
theorem at_365_62 : am_at (am_m 365) 62 = some (.iload_n 1, 0) := by decide +kernel
theorem at_365_63 : am_at (am_m 365) 63 = some (.ifCond .eq (-61), 2) := by decide +kernel
theorem at_365_66 : am_at (am_m 365) 66 = some (.aload_n 0, 0) := by decide +kernel
theorem at_365_67 : am_at (am_m 365) 67 = some (.bipush 41, 0) := by decide +kernel
theorem at_365_69 : am_at (am_m 365) 69 = some (.invokevirtual 550, 362) := by decide +kernel
theorem at_365_72 : am_at (am_m 365) 72 = some (.aload_n 0, 0) := by decide +kernel
theorem at_365_73 : am_at (am_m 365) 73 = some (.dup, 0) := by decide +kernel
theorem at_365_74 : am_at (am_m 365) 74 = some (.getfield 482, 3145) := by decide +kernel
theorem at_365_77 : am_at (am_m 365) 77 = some (.iconst 1, 0) := by decide +kernel
theorem at_365_78 : am_at (am_m 365) 78 = some (.isub, 0) := by decide +kernel
theorem at_365_79 : am_at (am_m 365) 79 = some (.putfield 482, 3145) := by decide +kernel
theorem at_365_82 : am_at (am_m 365) 82 = some (.goto (-80), 2) := by decide +kernel
theorem at_365_85 : am_at (am_m 365) 85 = some (.return_, 0) := by decide +kernel
theorem at_366_0 : am_at (am_m 366) 0 = some (.iload_n 0, 0) := by decide +kernel
theorem at_366_1 : am_at (am_m 366) 1 = some (.tableswitch 92 5 18 #[86, 89, 92, 92, 92, 92, 92, 92, 92, 71, 74, 77, 80, 83], 0) := by decide +kernel
theorem at_366_72 : am_at (am_m 366) 72 = some (.bipush 100, 0) := by decide +kernel
theorem at_366_74 : am_at (am_m 366) 74 = some (.ireturn, 0) := by decide +kernel
theorem at_366_75 : am_at (am_m 366) 75 = some (.bipush 119, 0) := by decide +kernel
theorem at_366_77 : am_at (am_m 366) 77 = some (.ireturn, 0) := by decide +kernel
theorem at_366_78 : am_at (am_m 366) 78 = some (.bipush 111, 0) := by decide +kernel
theorem at_366_80 : am_at (am_m 366) 80 = some (.ireturn, 0) := by decide +kernel
theorem at_366_81 : am_at (am_m 366) 81 = some (.bipush 106, 0) := by decide +kernel
theorem at_366_83 : am_at (am_m 366) 83 = some (.ireturn, 0) := by decide +kernel
theorem at_366_84 : am_at (am_m 366) 84 = some (.bipush 98, 0) := by decide +kernel
theorem at_366_86 : am_at (am_m 366) 86 = some (.ireturn, 0) := by decide +kernel
theorem at_366_87 : am_at (am_m 366) 87 = some (.bipush 126, 0) := by decide +kernel
theorem at_366_89 : am_at (am_m 366) 89 = some (.ireturn, 0) := by decide +kernel
theorem at_366_90 : am_at (am_m 366) 90 = some (.bipush 35, 0) := by decide +kernel
theorem at_366_92 : am_at (am_m 366) 92 = some (.ireturn, 0) := by decide +kernel
theorem at_366_93 : am_at (am_m 366) 93 = some (.iload_n 0, 0) := by decide +kernel
theorem at_366_94 : am_at (am_m 366) 94 = some (.iconst 5, 0) := by decide +kernel
theorem at_366_95 : am_at (am_m 366) 95 = some (.if_icmp .ge 7, 102) := by decide +kernel
theorem at_366_98 : am_at (am_m 366) 98 = some (.iload_n 0, 0) := by decide +kernel
theorem at_366_99 : am_at (am_m 366) 99 = some (.goto 6, 105) := by decide +kernel
theorem at_366_102 : am_at (am_m 366) 102 = some (.iload_n 0, 0) := by decide +kernel
theorem at_366_103 : am_at (am_m 366) 103 = some (.iconst 3, 0) := by decide +kernel
theorem at_366_104 : am_at (am_m 366) 104 = some (.iadd, 0) := by decide +kernel
theorem at_366_105 : am_at (am_m 366) 105 = some (.invokestatic 553, 364) := by decide +kernel
theorem at_366_108 : am_at (am_m 366) 108 = some (.ireturn, 0) := by decide +kernel
theorem at_367_0 : am_at (am_m 367) 0 = some (.iload_n 0, 0) := by decide +kernel
theorem at_367_1 : am_at (am_m 367) 1 = some (.iconst 3, 0) := by decide +kernel
theorem at_367_2 : am_at (am_m 367) 2 = some (.iload_n 1, 0) := by decide +kernel
theorem at_367_3 : am_at (am_m 367) 3 = some (.imul, 0) := by decide +kernel
theorem at_367_4 : am_at (am_m 367) 4 = some (.ishr, 0) := by decide +kernel
theorem at_367_5 : am_at (am_m 367) 5 = some (.bipush 7, 0) := by decide +kernel
theorem at_367_7 : am_at (am_m 367) 7 = some (.iand, 0) := by decide +kernel
theorem at_367_8 : am_at (am_m 367) 8 = some (.ireturn, 0) := by decide +kernel
theorem at_368_0 : am_at (am_m 368) 0 = some (.aload_n 0, 0) := by decide +kernel
theorem at_368_1 : am_at (am_m 368) 1 = some (.aload_n 0, 0) := by decide +kernel
theorem at_368_2 : am_at (am_m 368) 2 = some (.iload_n 1, 0) := by decide +kernel
theorem at_368_3 : am_at (am_m 368) 3 = some (.invokevirtual 568, 358) := by decide +kernel
theorem at_368_6 : am_at (am_m 368) 6 = some (.ifCond .eq 7, 13) := by decide +kernel
theorem at_368_9 : am_at (am_m 368) 9 = some (.iconst 0, 0) := by decide +kernel
theorem at_368_10 : am_at (am_m 368) 10 = some (.goto 4, 14) := by decide +kernel
theorem at_368_13 : am_at (am_m 368) 13 = some (.iconst 1, 0) := by decide +kernel
theorem at_368_14 : am_at (am_m 368) 14 = some (.putfield 292, 3072) := by decide +kernel
theorem at_368_17 : am_at (am_m 368) 17 = some (.aload_n 0, 0) := by decide +kernel
theorem at_368_18 : am_at (am_m 368) 18 = some (.getfield 292, 3072) := by decide +kernel
theorem at_368_21 : am_at (am_m 368) 21 = some (.ifCond .le 5, 26) := by decide +kernel
theorem at_368_24 : am_at (am_m 368) 24 = some (.iconst 0, 0) := by decide +kernel
theorem at_368_25 : am_at (am_m 368) 25 = some (.ireturn, 0) := by decide +kernel
theorem at_368_26 : am_at (am_m 368) 26 = some (.aload_n 0, 0) := by decide +kernel
theorem at_368_27 : am_at (am_m 368) 27 = some (.iload_n 1, 0) := by decide +kernel
theorem at_368_28 : am_at (am_m 368) 28 = some (.invokevirtual 571, 359) := by decide +kernel
theorem at_368_31 : am_at (am_m 368) 31 = some (.aload_n 0, 0) := by decide +kernel
theorem at_368_32 : am_at (am_m 368) 32 = some (.invokevirtual 574, 360) := by decide +kernel
theorem at_368_35 : am_at (am_m 368) 35 = some (.iload_n 2, 0) := by decide +kernel
theorem at_368_36 : am_at (am_m 368) 36 = some (.i2l, 0) := by decide +kernel
theorem at_368_37 : am_at (am_m 368) 37 = some (.lconst 0, 0) := by decide +kernel
theorem at_368_38 : am_at (am_m 368) 38 = some (.aload_n 0, 0) := by decide +kernel
theorem at_368_39 : am_at (am_m 368) 39 = some (.getfield 547, 3150) := by decide +kernel
theorem at_368_42 : am_at (am_m 368) 42 = some (.i2l, 0) := by decide +kernel
theorem at_368_43 : am_at (am_m 368) 43 = some (.lconst 1, 0) := by decide +kernel
theorem at_368_44 : am_at (am_m 368) 44 = some (.lsub, 0) := by decide +kernel
theorem at_368_45 : am_at (am_m 368) 45 = some (.invokestatic 299, 327) := by decide +kernel
theorem at_368_48 : am_at (am_m 368) 48 = some (.ifCond .eq 12, 60) := by decide +kernel
theorem at_368_51 : am_at (am_m 368) 51 = some (.aload_n 0, 0) := by decide +kernel
theorem at_368_52 : am_at (am_m 368) 52 = some (.getfield 157, 3151) := by decide +kernel
theorem at_368_55 : am_at (am_m 368) 55 = some (.iload_n 2, 0) := by decide +kernel
theorem at_368_56 : am_at (am_m 368) 56 = some (.iaload, 0) := by decide +kernel
theorem at_368_57 : am_at (am_m 368) 57 = some (.goto 4, 61) := by decide +kernel
theorem at_368_60 : am_at (am_m 368) 60 = some (.iconst (-1), 0) := by decide +kernel
theorem at_368_61 : am_at (am_m 368) 61 = some (.ireturn, 0) := by decide +kernel
theorem at_369_0 : am_at (am_m 369) 0 = some (.aload_n 0, 0) := by decide +kernel
theorem at_369_1 : am_at (am_m 369) 1 = some (.iconst 0, 0) := by decide +kernel
theorem at_369_2 : am_at (am_m 369) 2 = some (.putfield 292, 3072) := by decide +kernel
theorem at_369_5 : am_at (am_m 369) 5 = some (.aload_n 0, 0) := by decide +kernel
theorem at_369_6 : am_at (am_m 369) 6 = some (.getfield 296, 3073) := by decide +kernel
theorem at_369_9 : am_at (am_m 369) 9 = some (.ireturn, 0) := by decide +kernel
theorem at_370_0 : am_at (am_m 370) 0 = some (.aload_n 0, 0) := by decide +kernel
theorem at_370_1 : am_at (am_m 370) 1 = some (.aload_n 0, 0) := by decide +kernel
theorem at_370_2 : am_at (am_m 370) 2 = some (.iload_n 1, 0) := by decide +kernel
theorem at_370_3 : am_at (am_m 370) 3 = some (.invokevirtual 568, 358) := by decide +kernel
theorem at_370_6 : am_at (am_m 370) 6 = some (.ifCond .ne 7, 13) := by decide +kernel
theorem at_370_9 : am_at (am_m 370) 9 = some (.iconst 1, 0) := by decide +kernel
theorem at_370_10 : am_at (am_m 370) 10 = some (.goto 20, 30) := by decide +kernel
theorem at_370_13 : am_at (am_m 370) 13 = some (.iload_n 2, 0) := by decide +kernel
theorem at_370_14 : am_at (am_m 370) 14 = some (.i2l, 0) := by decide +kernel
theorem at_370_15 : am_at (am_m 370) 15 = some (.lconst 0, 0) := by decide +kernel
theorem at_370_16 : am_at (am_m 370) 16 = some (.ldc2_w 524, 52) := by decide +kernel
theorem at_370_19 : am_at (am_m 370) 19 = some (.invokestatic 299, 327) := by decide +kernel
theorem at_370_22 : am_at (am_m 370) 22 = some (.ifCond .ne 7, 29) := by decide +kernel
theorem at_370_25 : am_at (am_m 370) 25 = some (.iconst 2, 0) := by decide +kernel
theorem at_370_26 : am_at (am_m 370) 26 = some (.goto 4, 30) := by decide +kernel
theorem at_370_29 : am_at (am_m 370) 29 = some (.iconst 0, 0) := by decide +kernel
theorem at_370_30 : am_at (am_m 370) 30 = some (.putfield 292, 3072) := by decide +kernel
theorem at_370_33 : am_at (am_m 370) 33 = some (.aload_n 0, 0) := by decide +kernel
theorem at_370_34 : am_at (am_m 370) 34 = some (.getfield 292, 3072) := by decide +kernel
theorem at_370_37 : am_at (am_m 370) 37 = some (.ifCond .le 5, 42) := by decide +kernel
theorem at_370_40 : am_at (am_m 370) 40 = some (.iconst 0, 0) := by decide +kernel
theorem at_370_41 : am_at (am_m 370) 41 = some (.ireturn, 0) := by decide +kernel
theorem at_370_42 : am_at (am_m 370) 42 = some (.iload_n 2, 0) := by decide +kernel
theorem at_370_43 : am_at (am_m 370) 43 = some (.tableswitch 101 0 7 #[45, 52, 59, 66, 73, 80, 87, 94], 0) := by decide +kernel
theorem at_370_88 : am_at (am_m 370) 88 = some (.aload_n 0, 0) := by decide +kernel
theorem at_370_89 : am_at (am_m 370) 89 = some (.getfield 7, 3074) := by decide +kernel
theorem at_370_92 : am_at (am_m 370) 92 = some (.iload_n 1, 0) := by decide +kernel
theorem at_370_93 : am_at (am_m 370) 93 = some (.iaload, 0) := by decide +kernel
theorem at_370_94 : am_at (am_m 370) 94 = some (.ireturn, 0) := by decide +kernel
theorem at_370_95 : am_at (am_m 370) 95 = some (.aload_n 0, 0) := by decide +kernel
theorem at_370_96 : am_at (am_m 370) 96 = some (.getfield 13, 3075) := by decide +kernel
theorem at_370_99 : am_at (am_m 370) 99 = some (.iload_n 1, 0) := by decide +kernel
theorem at_370_100 : am_at (am_m 370) 100 = some (.iaload, 0) := by decide +kernel
theorem at_370_101 : am_at (am_m 370) 101 = some (.ireturn, 0) := by decide +kernel
theorem at_370_102 : am_at (am_m 370) 102 = some (.aload_n 0, 0) := by decide +kernel
theorem at_370_103 : am_at (am_m 370) 103 = some (.getfield 19, 3077) := by decide +kernel
theorem at_370_106 : am_at (am_m 370) 106 = some (.iload_n 1, 0) := by decide +kernel
theorem at_370_107 : am_at (am_m 370) 107 = some (.iaload, 0) := by decide +kernel
theorem at_370_108 : am_at (am_m 370) 108 = some (.ireturn, 0) := by decide +kernel
theorem at_370_109 : am_at (am_m 370) 109 = some (.aload_n 0, 0) := by decide +kernel
theorem at_370_110 : am_at (am_m 370) 110 = some (.getfield 22, 3078) := by decide +kernel
theorem at_370_113 : am_at (am_m 370) 113 = some (.iload_n 1, 0) := by decide +kernel
theorem at_370_114 : am_at (am_m 370) 114 = some (.iaload, 0) := by decide +kernel
theorem at_370_115 : am_at (am_m 370) 115 = some (.ireturn, 0) := by decide +kernel
theorem at_370_116 : am_at (am_m 370) 116 = some (.aload_n 0, 0) := by decide +kernel
theorem at_370_117 : am_at (am_m 370) 117 = some (.getfield 25, 3079) := by decide +kernel
theorem at_370_120 : am_at (am_m 370) 120 = some (.iload_n 1, 0) := by decide +kernel
theorem at_370_121 : am_at (am_m 370) 121 = some (.iaload, 0) := by decide +kernel
theorem at_370_122 : am_at (am_m 370) 122 = some (.ireturn, 0) := by decide +kernel
theorem at_370_123 : am_at (am_m 370) 123 = some (.aload_n 0, 0) := by decide +kernel
theorem at_370_124 : am_at (am_m 370) 124 = some (.getfield 28, 3080) := by decide +kernel
theorem at_370_127 : am_at (am_m 370) 127 = some (.iload_n 1, 0) := by decide +kernel
theorem at_370_128 : am_at (am_m 370) 128 = some (.iaload, 0) := by decide +kernel
theorem at_370_129 : am_at (am_m 370) 129 = some (.ireturn, 0) := by decide +kernel
theorem at_370_130 : am_at (am_m 370) 130 = some (.aload_n 0, 0) := by decide +kernel
theorem at_370_131 : am_at (am_m 370) 131 = some (.getfield 31, 3081) := by decide +kernel
theorem at_370_134 : am_at (am_m 370) 134 = some (.iload_n 1, 0) := by decide +kernel
theorem at_370_135 : am_at (am_m 370) 135 = some (.iaload, 0) := by decide +kernel
theorem at_370_136 : am_at (am_m 370) 136 = some (.ireturn, 0) := by decide +kernel
theorem at_370_137 : am_at (am_m 370) 137 = some (.aload_n 0, 0) := by decide +kernel
theorem at_370_138 : am_at (am_m 370) 138 = some (.getfield 16, 3076) := by decide +kernel
theorem at_370_141 : am_at (am_m 370) 141 = some (.iload_n 1, 0) := by decide +kernel
theorem at_370_142 : am_at (am_m 370) 142 = some (.iaload, 0) := by decide +kernel
theorem at_370_143 : am_at (am_m 370) 143 = some (.ireturn, 0) := by decide +kernel
theorem at_370_144 : am_at (am_m 370) 144 = some (.aload_n 0, 0) := by decide +kernel
theorem at_370_145 : am_at (am_m 370) 145 = some (.getfield 7, 3074) := by decide +kernel
theorem at_370_148 : am_at (am_m 370) 148 = some (.iload_n 1, 0) := by decide +kernel
theorem at_370_149 : am_at (am_m 370) 149 = some (.iaload, 0) := by decide +kernel
theorem at_370_150 : am_at (am_m 370) 150 = some (.ifCond .ne 11, 161) := by decide +kernel
theorem at_370_153 : am_at (am_m 370) 153 = some (.aload_n 0, 0) := by decide +kernel
theorem at_370_154 : am_at (am_m 370) 154 = some (.iload_n 1, 0) := by decide +kernel
theorem at_370_155 : am_at (am_m 370) 155 = some (.invokevirtual 577, 371) := by decide +kernel
theorem at_370_158 : am_at (am_m 370) 158 = some (.goto 4, 162) := by decide +kernel
theorem at_370_161 : am_at (am_m 370) 161 = some (.iconst 0, 0) := by decide +kernel
theorem at_370_162 : am_at (am_m 370) 162 = some (.ireturn, 0) := by decide +kernel
theorem at_371_0 : am_at (am_m 371) 0 = some (.aload_n 0, 0) := by decide +kernel
theorem at_371_1 : am_at (am_m 371) 1 = some (.iload_n 1, 0) := by decide +kernel
theorem at_371_2 : am_at (am_m 371) 2 = some (.invokevirtual 571, 359) := by decide +kernel
theorem at_371_5 : am_at (am_m 371) 5 = some (.iconst 0, 0) := by decide +kernel
theorem at_371_6 : am_at (am_m 371) 6 = some (.istore_n 2, 0) := by decide +kernel
theorem at_371_7 : am_at (am_m 371) 7 = some (.iconst 1, 0) := by decide +kernel
theorem at_371_8 : am_at (am_m 371) 8 = some (.istore_n 3, 0) := by decide +kernel
theorem at_371_9 : am_at (am_m 371) 9 = some (.aload_n 0, 0) := by decide +kernel
theorem at_371_10 : am_at (am_m 371) 10 = some (.getfield 69, 3100) := by decide +kernel
theorem at_371_13 : am_at (am_m 371) 13 = some (.iconst 0, 0) := by decide +kernel
theorem at_371_14 : am_at (am_m 371) 14 = some (.iconst 1, 0) := by decide +kernel
theorem at_371_15 : am_at (am_m 371) 15 = some (.iastore, 0) := by decide +kernel
theorem at_371_16 : am_at (am_m 371) 16 = some (.iconst 0, 0) := by decide +kernel
theorem at_371_17 : am_at (am_m 371) 17 = some (.istore 4, 0) := by decide +kernel
theorem at_371_19 : am_at (am_m 371) 19 = some (.iload 4, 0) := by decide +kernel
theorem at_371_21 : am_at (am_m 371) 21 = some (.aload_n 0, 0) := by decide +kernel
theorem at_371_22 : am_at (am_m 371) 22 = some (.getfield 306, 3086) := by decide +kernel
theorem at_371_25 : am_at (am_m 371) 25 = some (.if_icmp .ge 70, 95) := by decide +kernel
theorem at_371_28 : am_at (am_m 371) 28 = some (.iinc 3 (-1), 0) := by decide +kernel
theorem at_371_31 : am_at (am_m 371) 31 = some (.aload_n 0, 0) := by decide +kernel
theorem at_371_32 : am_at (am_m 371) 32 = some (.getfield 69, 3100) := by decide +kernel
theorem at_371_35 : am_at (am_m 371) 35 = some (.iload_n 3, 0) := by decide +kernel
theorem at_371_36 : am_at (am_m 371) 36 = some (.iaload, 0) := by decide +kernel
theorem at_371_37 : am_at (am_m 371) 37 = some (.istore 5, 0) := by decide +kernel
theorem at_371_39 : am_at (am_m 371) 39 = some (.iload 5, 0) := by decide +kernel
theorem at_371_41 : am_at (am_m 371) 41 = some (.iload_n 2, 0) := by decide +kernel
theorem at_371_42 : am_at (am_m 371) 42 = some (.if_icmp .le 8, 50) := by decide +kernel
theorem at_371_45 : am_at (am_m 371) 45 = some (.iload 5, 0) := by decide +kernel
theorem at_371_47 : am_at (am_m 371) 47 = some (.goto 4, 51) := by decide +kernel
theorem at_371_50 : am_at (am_m 371) 50 = some (.iload_n 2, 0) := by decide +kernel
theorem at_371_51 : am_at (am_m 371) 51 = some (.istore_n 2, 0) := by decide +kernel
theorem at_371_52 : am_at (am_m 371) 52 = some (.iconst 0, 0) := by decide +kernel
theorem at_371_53 : am_at (am_m 371) 53 = some (.istore 6, 0) := by decide +kernel
theorem at_371_55 : am_at (am_m 371) 55 = some (.iload 6, 0) := by decide +kernel
theorem at_371_57 : am_at (am_m 371) 57 = some (.aload_n 0, 0) := by decide +kernel
theorem at_371_58 : am_at (am_m 371) 58 = some (.getfield 45, 3088) := by decide +kernel
theorem at_371_61 : am_at (am_m 371) 61 = some (.iload 4, 0) := by decide +kernel
theorem at_371_63 : am_at (am_m 371) 63 = some (.iaload, 0) := by decide +kernel
theorem at_371_64 : am_at (am_m 371) 64 = some (.invokestatic 327, 343) := by decide +kernel
theorem at_371_67 : am_at (am_m 371) 67 = some (.if_icmp .ge 22, 89) := by decide +kernel
theorem at_371_70 : am_at (am_m 371) 70 = some (.aload_n 0, 0) := by decide +kernel
theorem at_371_71 : am_at (am_m 371) 71 = some (.getfield 69, 3100) := by decide +kernel
theorem at_371_74 : am_at (am_m 371) 74 = some (.iload_n 3, 0) := by decide +kernel
theorem at_371_75 : am_at (am_m 371) 75 = some (.iload 5, 0) := by decide +kernel
theorem at_371_77 : am_at (am_m 371) 77 = some (.iconst 1, 0) := by decide +kernel
theorem at_371_78 : am_at (am_m 371) 78 = some (.iadd, 0) := by decide +kernel
theorem at_371_79 : am_at (am_m 371) 79 = some (.iastore, 0) := by decide +kernel
theorem at_371_80 : am_at (am_m 371) 80 = some (.iinc 3 1, 0) := by decide +kernel
theorem at_371_83 : am_at (am_m 371) 83 = some (.iinc 6 1, 0) := by decide +kernel
theorem at_371_86 : am_at (am_m 371) 86 = some (.goto (-31), 55) := by decide +kernel
theorem at_371_89 : am_at (am_m 371) 89 = some (.iinc 4 1, 0) := by decide +kernel
theorem at_371_92 : am_at (am_m 371) 92 = some (.goto (-73), 19) := by decide +kernel
theorem at_371_95 : am_at (am_m 371) 95 = some (.iload_n 2, 0) := by decide +kernel
theorem at_371_96 : am_at (am_m 371) 96 = some (.ireturn, 0) := by decide +kernel
theorem at_372_0 : am_at (am_m 372) 0 = some (.aload_n 0, 0) := by decide +kernel
theorem at_372_1 : am_at (am_m 372) 1 = some (.aload_n 0, 0) := by decide +kernel
theorem at_372_2 : am_at (am_m 372) 2 = some (.iload_n 1, 0) := by decide +kernel
theorem at_372_3 : am_at (am_m 372) 3 = some (.invokevirtual 568, 358) := by decide +kernel
theorem at_372_6 : am_at (am_m 372) 6 = some (.ifCond .eq 7, 13) := by decide +kernel
theorem at_372_9 : am_at (am_m 372) 9 = some (.iconst 0, 0) := by decide +kernel
theorem at_372_10 : am_at (am_m 372) 10 = some (.goto 4, 14) := by decide +kernel
theorem at_372_13 : am_at (am_m 372) 13 = some (.iconst 1, 0) := by decide +kernel
theorem at_372_14 : am_at (am_m 372) 14 = some (.putfield 292, 3072) := by decide +kernel
theorem at_372_17 : am_at (am_m 372) 17 = some (.aload_n 0, 0) := by decide +kernel
theorem at_372_18 : am_at (am_m 372) 18 = some (.getfield 292, 3072) := by decide +kernel
theorem at_372_21 : am_at (am_m 372) 21 = some (.ifCond .le 7, 28) := by decide +kernel
theorem at_372_24 : am_at (am_m 372) 24 = some (.lconst 0, 0) := by decide +kernel
theorem at_372_25 : am_at (am_m 372) 25 = some (.goto 9, 34) := by decide +kernel
theorem at_372_28 : am_at (am_m 372) 28 = some (.aload_n 0, 0) := by decide +kernel
theorem at_372_29 : am_at (am_m 372) 29 = some (.getfield 34, 3082) := by decide +kernel
theorem at_372_32 : am_at (am_m 372) 32 = some (.iload_n 1, 0) := by decide +kernel
theorem at_372_33 : am_at (am_m 372) 33 = some (.laload, 0) := by decide +kernel
theorem at_372_34 : am_at (am_m 372) 34 = some (.lreturn, 0) := by decide +kernel
theorem at_373_0 : am_at (am_m 373) 0 = some (.aload_n 0, 0) := by decide +kernel
theorem at_373_1 : am_at (am_m 373) 1 = some (.aload_n 0, 0) := by decide +kernel
theorem at_373_2 : am_at (am_m 373) 2 = some (.iload_n 1, 0) := by decide +kernel
theorem at_373_3 : am_at (am_m 373) 3 = some (.invokevirtual 568, 358) := by decide +kernel
theorem at_373_6 : am_at (am_m 373) 6 = some (.ifCond .eq 33, 39) := by decide +kernel
theorem at_373_9 : am_at (am_m 373) 9 = some (.iload_n 2, 0) := by decide +kernel
theorem at_373_10 : am_at (am_m 373) 10 = some (.i2l, 0) := by decide +kernel
theorem at_373_11 : am_at (am_m 373) 11 = some (.lconst 0, 0) := by decide +kernel
theorem at_373_12 : am_at (am_m 373) 12 = some (.aload_n 0, 0) := by decide +kernel
theorem at_373_13 : am_at (am_m 373) 13 = some (.getfield 13, 3075) := by decide +kernel
theorem at_373_16 : am_at (am_m 373) 16 = some (.aload_n 0, 0) := by decide +kernel
theorem at_373_17 : am_at (am_m 373) 17 = some (.iload_n 1, 0) := by decide +kernel
theorem at_373_18 : am_at (am_m 373) 18 = some (.invokevirtual 568, 358) := by decide +kernel
theorem at_373_21 : am_at (am_m 373) 21 = some (.ifCond .eq 7, 28) := by decide +kernel
theorem at_373_24 : am_at (am_m 373) 24 = some (.iload_n 1, 0) := by decide +kernel
theorem at_373_25 : am_at (am_m 373) 25 = some (.goto 4, 29) := by decide +kernel
theorem at_373_28 : am_at (am_m 373) 28 = some (.iconst 0, 0) := by decide +kernel
theorem at_373_29 : am_at (am_m 373) 29 = some (.iaload, 0) := by decide +kernel
theorem at_373_30 : am_at (am_m 373) 30 = some (.i2l, 0) := by decide +kernel
theorem at_373_31 : am_at (am_m 373) 31 = some (.lconst 1, 0) := by decide +kernel
theorem at_373_32 : am_at (am_m 373) 32 = some (.lsub, 0) := by decide +kernel
theorem at_373_33 : am_at (am_m 373) 33 = some (.invokestatic 299, 327) := by decide +kernel
theorem at_373_36 : am_at (am_m 373) 36 = some (.ifCond .ne 7, 43) := by decide +kernel
theorem at_373_39 : am_at (am_m 373) 39 = some (.iconst 1, 0) := by decide +kernel
theorem at_373_40 : am_at (am_m 373) 40 = some (.goto 20, 60) := by decide +kernel
theorem at_373_43 : am_at (am_m 373) 43 = some (.iload_n 3, 0) := by decide +kernel
theorem at_373_44 : am_at (am_m 373) 44 = some (.i2l, 0) := by decide +kernel
theorem at_373_45 : am_at (am_m 373) 45 = some (.lconst 0, 0) := by decide +kernel
theorem at_373_46 : am_at (am_m 373) 46 = some (.ldc2_w 580, 53) := by decide +kernel
theorem at_373_49 : am_at (am_m 373) 49 = some (.invokestatic 299, 327) := by decide +kernel
theorem at_373_52 : am_at (am_m 373) 52 = some (.ifCond .ne 7, 59) := by decide +kernel
theorem at_373_55 : am_at (am_m 373) 55 = some (.iconst 2, 0) := by decide +kernel
theorem at_373_56 : am_at (am_m 373) 56 = some (.goto 4, 60) := by decide +kernel
theorem at_373_59 : am_at (am_m 373) 59 = some (.iconst 0, 0) := by decide +kernel
theorem at_373_60 : am_at (am_m 373) 60 = some (.putfield 292, 3072) := by decide +kernel
theorem at_373_63 : am_at (am_m 373) 63 = some (.aload_n 0, 0) := by decide +kernel
theorem at_373_64 : am_at (am_m 373) 64 = some (.getfield 292, 3072) := by decide +kernel
theorem at_373_67 : am_at (am_m 373) 67 = some (.ifCond .le 5, 72) := by decide +kernel
theorem at_373_70 : am_at (am_m 373) 70 = some (.iconst 0, 0) := by decide +kernel
theorem at_373_71 : am_at (am_m 373) 71 = some (.ireturn, 0) := by decide +kernel
theorem at_373_72 : am_at (am_m 373) 72 = some (.aload_n 0, 0) := by decide +kernel
theorem at_373_73 : am_at (am_m 373) 73 = some (.getfield 39, 3083) := by decide +kernel
theorem at_373_76 : am_at (am_m 373) 76 = some (.bipush 60, 0) := by decide +kernel
theorem at_373_78 : am_at (am_m 373) 78 = some (.iload_n 1, 0) := by decide +kernel
theorem at_373_79 : am_at (am_m 373) 79 = some (.imul, 0) := by decide +kernel
theorem at_373_80 : am_at (am_m 373) 80 = some (.iload_n 2, 0) := by decide +kernel
theorem at_373_81 : am_at (am_m 373) 81 = some (.iadd, 0) := by decide +kernel
theorem at_373_82 : am_at (am_m 373) 82 = some (.iaload, 0) := by decide +kernel
theorem at_373_83 : am_at (am_m 373) 83 = some (.istore 4, 0) := by decide +kernel
theorem at_373_85 : am_at (am_m 373) 85 = some (.aload_n 0, 0) := by decide +kernel
theorem at_373_86 : am_at (am_m 373) 86 = some (.getfield 42, 3084) := by decide +kernel
theorem at_373_89 : am_at (am_m 373) 89 = some (.bipush 60, 0) := by decide +kernel
theorem at_373_91 : am_at (am_m 373) 91 = some (.iload_n 1, 0) := by decide +kernel
theorem at_373_92 : am_at (am_m 373) 92 = some (.imul, 0) := by decide +kernel
theorem at_373_93 : am_at (am_m 373) 93 = some (.iload_n 2, 0) := by decide +kernel
theorem at_373_94 : am_at (am_m 373) 94 = some (.iadd, 0) := by decide +kernel
theorem at_373_95 : am_at (am_m 373) 95 = some (.iaload, 0) := by decide +kernel
theorem at_373_96 : am_at (am_m 373) 96 = some (.istore 5, 0) := by decide +kernel
theorem at_373_98 : am_at (am_m 373) 98 = some (.iload_n 3, 0) := by decide +kernel
theorem at_373_99 : am_at (am_m 373) 99 = some (.ifCond .ne 6, 105) := by decide +kernel
theorem at_373_102 : am_at (am_m 373) 102 = some (.iload 4, 0) := by decide +kernel
theorem at_373_104 : am_at (am_m 373) 104 = some (.ireturn, 0) := by decide +kernel
theorem at_373_105 : am_at (am_m 373) 105 = some (.aload_n 0, 0) := by decide +kernel
theorem at_373_106 : am_at (am_m 373) 106 = some (.getfield 7, 3074) := by decide +kernel
theorem at_373_109 : am_at (am_m 373) 109 = some (.iload_n 1, 0) := by decide +kernel
theorem at_373_110 : am_at (am_m 373) 110 = some (.iaload, 0) := by decide +kernel
theorem at_373_111 : am_at (am_m 373) 111 = some (.iconst 2, 0) := by decide +kernel
theorem at_373_112 : am_at (am_m 373) 112 = some (.if_icmp .ne 12, 124) := by decide +kernel
theorem at_373_115 : am_at (am_m 373) 115 = some (.iload 5, 0) := by decide +kernel
theorem at_373_117 : am_at (am_m 373) 117 = some (.iload_n 3, 0) := by decide +kernel
theorem at_373_118 : am_at (am_m 373) 118 = some (.iconst 1, 0) := by decide +kernel
theorem at_373_119 : am_at (am_m 373) 119 = some (.isub, 0) := by decide +kernel
theorem at_373_120 : am_at (am_m 373) 120 = some (.invokestatic 447, 367) := by decide +kernel
theorem at_373_123 : am_at (am_m 373) 123 = some (.ireturn, 0) := by decide +kernel
theorem at_373_124 : am_at (am_m 373) 124 = some (.iload_n 3, 0) := by decide +kernel
theorem at_373_125 : am_at (am_m 373) 125 = some (.iconst 1, 0) := by decide +kernel
theorem at_373_126 : am_at (am_m 373) 126 = some (.if_icmp .ne 8, 134) := by decide +kernel
theorem at_373_129 : am_at (am_m 373) 129 = some (.iload 5, 0) := by decide +kernel
theorem at_373_131 : am_at (am_m 373) 131 = some (.goto 4, 135) := by decide +kernel
theorem at_373_134 : am_at (am_m 373) 134 = some (.iconst 0, 0) := by decide +kernel
theorem at_373_135 : am_at (am_m 373) 135 = some (.ireturn, 0) := by decide +kernel
theorem at_374_0 : am_at (am_m 374) 0 = some (.aload_n 0, 0) := by decide +kernel
theorem at_374_1 : am_at (am_m 374) 1 = some (.aload_n 0, 0) := by decide +kernel
theorem at_374_2 : am_at (am_m 374) 2 = some (.iload_n 1, 0) := by decide +kernel
theorem at_374_3 : am_at (am_m 374) 3 = some (.invokevirtual 568, 358) := by decide +kernel
theorem at_374_6 : am_at (am_m 374) 6 = some (.ifCond .eq 15, 21) := by decide +kernel
theorem at_374_9 : am_at (am_m 374) 9 = some (.aload_n 0, 0) := by decide +kernel
theorem at_374_10 : am_at (am_m 374) 10 = some (.iload_n 2, 0) := by decide +kernel
theorem at_374_11 : am_at (am_m 374) 11 = some (.invokevirtual 568, 358) := by decide +kernel
theorem at_374_14 : am_at (am_m 374) 14 = some (.ifCond .eq 7, 21) := by decide +kernel
theorem at_374_17 : am_at (am_m 374) 17 = some (.iconst 0, 0) := by decide +kernel
theorem at_374_18 : am_at (am_m 374) 18 = some (.goto 4, 22) := by decide +kernel
theorem at_374_21 : am_at (am_m 374) 21 = some (.iconst 1, 0) := by decide +kernel
theorem at_374_22 : am_at (am_m 374) 22 = some (.putfield 292, 3072) := by decide +kernel
theorem at_374_25 : am_at (am_m 374) 25 = some (.aload_n 0, 0) := by decide +kernel
theorem at_374_26 : am_at (am_m 374) 26 = some (.getfield 292, 3072) := by decide +kernel
theorem at_374_29 : am_at (am_m 374) 29 = some (.ifCond .le 5, 34) := by decide +kernel
theorem at_374_32 : am_at (am_m 374) 32 = some (.iconst 0, 0) := by decide +kernel
theorem at_374_33 : am_at (am_m 374) 33 = some (.ireturn, 0) := by decide +kernel
theorem at_374_34 : am_at (am_m 374) 34 = some (.aload_n 0, 0) := by decide +kernel
theorem at_374_35 : am_at (am_m 374) 35 = some (.iload_n 1, 0) := by decide +kernel
theorem at_374_36 : am_at (am_m 374) 36 = some (.invokevirtual 571, 359) := by decide +kernel
theorem at_374_39 : am_at (am_m 374) 39 = some (.aload_n 0, 0) := by decide +kernel
theorem at_374_40 : am_at (am_m 374) 40 = some (.iload_n 2, 0) := by decide +kernel
theorem at_374_41 : am_at (am_m 374) 41 = some (.invokevirtual 582, 375) := by decide +kernel
theorem at_374_44 : am_at (am_m 374) 44 = some (.ireturn, 0) := by decide +kernel
theorem at_375_0 : am_at (am_m 375) 0 = some (.aload_n 0, 0) := by decide +kernel
theorem at_375_1 : am_at (am_m 375) 1 = some (.getfield 7, 3074) := by decide +kernel
theorem at_375_4 : am_at (am_m 375) 4 = some (.iload_n 1, 0) := by decide +kernel
theorem at_375_5 : am_at (am_m 375) 5 = some (.iaload, 0) := by decide +kernel
theorem at_375_6 : am_at (am_m 375) 6 = some (.aload_n 0, 0) := by decide +kernel
theorem at_375_7 : am_at (am_m 375) 7 = some (.getfield 303, 3085) := by decide +kernel
theorem at_375_10 : am_at (am_m 375) 10 = some (.if_icmp .ne 41, 51) := by decide +kernel
theorem at_375_13 : am_at (am_m 375) 13 = some (.aload_n 0, 0) := by decide +kernel
theorem at_375_14 : am_at (am_m 375) 14 = some (.getfield 13, 3075) := by decide +kernel
theorem at_375_17 : am_at (am_m 375) 17 = some (.iload_n 1, 0) := by decide +kernel
theorem at_375_18 : am_at (am_m 375) 18 = some (.iaload, 0) := by decide +kernel
theorem at_375_19 : am_at (am_m 375) 19 = some (.aload_n 0, 0) := by decide +kernel
theorem at_375_20 : am_at (am_m 375) 20 = some (.getfield 306, 3086) := by decide +kernel
theorem at_375_23 : am_at (am_m 375) 23 = some (.if_icmp .ne 28, 51) := by decide +kernel
theorem at_375_26 : am_at (am_m 375) 26 = some (.aload_n 0, 0) := by decide +kernel
theorem at_375_27 : am_at (am_m 375) 27 = some (.getfield 303, 3085) := by decide +kernel
theorem at_375_30 : am_at (am_m 375) 30 = some (.iconst 3, 0) := by decide +kernel
theorem at_375_31 : am_at (am_m 375) 31 = some (.if_icmp .ne 16, 47) := by decide +kernel
theorem at_375_34 : am_at (am_m 375) 34 = some (.aload_n 0, 0) := by decide +kernel
theorem at_375_35 : am_at (am_m 375) 35 = some (.getfield 16, 3076) := by decide +kernel
theorem at_375_38 : am_at (am_m 375) 38 = some (.iload_n 1, 0) := by decide +kernel
theorem at_375_39 : am_at (am_m 375) 39 = some (.iaload, 0) := by decide +kernel
theorem at_375_40 : am_at (am_m 375) 40 = some (.aload_n 0, 0) := by decide +kernel
theorem at_375_41 : am_at (am_m 375) 41 = some (.getfield 309, 3087) := by decide +kernel
theorem at_375_44 : am_at (am_m 375) 44 = some (.if_icmp .ne 7, 51) := by decide +kernel
theorem at_375_47 : am_at (am_m 375) 47 = some (.iconst 1, 0) := by decide +kernel
theorem at_375_48 : am_at (am_m 375) 48 = some (.goto 4, 52) := by decide +kernel
theorem at_375_51 : am_at (am_m 375) 51 = some (.iconst 0, 0) := by decide +kernel
theorem at_375_52 : am_at (am_m 375) 52 = some (.istore_n 2, 0) := by decide +kernel
theorem at_375_53 : am_at (am_m 375) 53 = some (.iconst 0, 0) := by decide +kernel
theorem at_375_54 : am_at (am_m 375) 54 = some (.istore_n 3, 0) := by decide +kernel
theorem at_375_55 : am_at (am_m 375) 55 = some (.iload_n 3, 0) := by decide +kernel
theorem at_375_56 : am_at (am_m 375) 56 = some (.aload_n 0, 0) := by decide +kernel
theorem at_375_57 : am_at (am_m 375) 57 = some (.getfield 306, 3086) := by decide +kernel
theorem at_375_60 : am_at (am_m 375) 60 = some (.if_icmp .ge 59, 119) := by decide +kernel
theorem at_375_63 : am_at (am_m 375) 63 = some (.iload_n 2, 0) := by decide +kernel
theorem at_375_64 : am_at (am_m 375) 64 = some (.ifCond .eq 55, 119) := by decide +kernel
theorem at_375_67 : am_at (am_m 375) 67 = some (.aload_n 0, 0) := by decide +kernel
theorem at_375_68 : am_at (am_m 375) 68 = some (.getfield 39, 3083) := by decide +kernel
theorem at_375_71 : am_at (am_m 375) 71 = some (.bipush 60, 0) := by decide +kernel
theorem at_375_73 : am_at (am_m 375) 73 = some (.iload_n 1, 0) := by decide +kernel
theorem at_375_74 : am_at (am_m 375) 74 = some (.imul, 0) := by decide +kernel
theorem at_375_75 : am_at (am_m 375) 75 = some (.iload_n 3, 0) := by decide +kernel
theorem at_375_76 : am_at (am_m 375) 76 = some (.iadd, 0) := by decide +kernel
theorem at_375_77 : am_at (am_m 375) 77 = some (.iaload, 0) := by decide +kernel
theorem at_375_78 : am_at (am_m 375) 78 = some (.aload_n 0, 0) := by decide +kernel
theorem at_375_79 : am_at (am_m 375) 79 = some (.getfield 45, 3088) := by decide +kernel
theorem at_375_82 : am_at (am_m 375) 82 = some (.iload_n 3, 0) := by decide +kernel
theorem at_375_83 : am_at (am_m 375) 83 = some (.iaload, 0) := by decide +kernel
theorem at_375_84 : am_at (am_m 375) 84 = some (.if_icmp .ne 27, 111) := by decide +kernel
theorem at_375_87 : am_at (am_m 375) 87 = some (.aload_n 0, 0) := by decide +kernel
theorem at_375_88 : am_at (am_m 375) 88 = some (.getfield 42, 3084) := by decide +kernel
theorem at_375_91 : am_at (am_m 375) 91 = some (.bipush 60, 0) := by decide +kernel
theorem at_375_93 : am_at (am_m 375) 93 = some (.iload_n 1, 0) := by decide +kernel
theorem at_375_94 : am_at (am_m 375) 94 = some (.imul, 0) := by decide +kernel
theorem at_375_95 : am_at (am_m 375) 95 = some (.iload_n 3, 0) := by decide +kernel
theorem at_375_96 : am_at (am_m 375) 96 = some (.iadd, 0) := by decide +kernel
theorem at_375_97 : am_at (am_m 375) 97 = some (.iaload, 0) := by decide +kernel
theorem at_375_98 : am_at (am_m 375) 98 = some (.aload_n 0, 0) := by decide +kernel
theorem at_375_99 : am_at (am_m 375) 99 = some (.getfield 48, 3089) := by decide +kernel
theorem at_375_102 : am_at (am_m 375) 102 = some (.iload_n 3, 0) := by decide +kernel
theorem at_375_103 : am_at (am_m 375) 103 = some (.iaload, 0) := by decide +kernel
theorem at_375_104 : am_at (am_m 375) 104 = some (.if_icmp .ne 7, 111) := by decide +kernel
theorem at_375_107 : am_at (am_m 375) 107 = some (.iconst 1, 0) := by decide +kernel
theorem at_375_108 : am_at (am_m 375) 108 = some (.goto 4, 112) := by decide +kernel
theorem at_375_111 : am_at (am_m 375) 111 = some (.iconst 0, 0) := by decide +kernel
theorem at_375_112 : am_at (am_m 375) 112 = some (.istore_n 2, 0) := by decide +kernel
theorem at_375_113 : am_at (am_m 375) 113 = some (.iinc 3 1, 0) := by decide +kernel
theorem at_375_116 : am_at (am_m 375) 116 = some (.goto (-61), 55) := by decide +kernel
theorem at_375_119 : am_at (am_m 375) 119 = some (.iload_n 2, 0) := by decide +kernel
theorem at_375_120 : am_at (am_m 375) 120 = some (.ireturn, 0) := by decide +kernel
theorem at_376_0 : am_at (am_m 376) 0 = some (.aload_n 0, 0) := by decide +kernel
theorem at_376_1 : am_at (am_m 376) 1 = some (.iload_n 1, 0) := by decide +kernel
theorem at_376_2 : am_at (am_m 376) 2 = some (.i2l, 0) := by decide +kernel
theorem at_376_3 : am_at (am_m 376) 3 = some (.lconst 1, 0) := by decide +kernel
theorem at_376_4 : am_at (am_m 376) 4 = some (.ldc2_w 630, 54) := by decide +kernel
theorem at_376_7 : am_at (am_m 376) 7 = some (.invokestatic 299, 327) := by decide +kernel
theorem at_376_10 : am_at (am_m 376) 10 = some (.ifCond .eq 7, 17) := by decide +kernel
theorem at_376_13 : am_at (am_m 376) 13 = some (.iconst 0, 0) := by decide +kernel
theorem at_376_14 : am_at (am_m 376) 14 = some (.goto 4, 18) := by decide +kernel
theorem at_376_17 : am_at (am_m 376) 17 = some (.iconst 1, 0) := by decide +kernel
theorem at_376_18 : am_at (am_m 376) 18 = some (.putfield 292, 3072) := by decide +kernel
theorem at_376_21 : am_at (am_m 376) 21 = some (.aload_n 0, 0) := by decide +kernel
theorem at_376_22 : am_at (am_m 376) 22 = some (.getfield 292, 3072) := by decide +kernel
theorem at_376_25 : am_at (am_m 376) 25 = some (.ifCond .le 5, 30) := by decide +kernel
theorem at_376_28 : am_at (am_m 376) 28 = some (.lconst 0, 0) := by decide +kernel
theorem at_376_29 : am_at (am_m 376) 29 = some (.lreturn, 0) := by decide +kernel
theorem at_376_30 : am_at (am_m 376) 30 = some (.aload_n 0, 0) := by decide +kernel
theorem at_376_31 : am_at (am_m 376) 31 = some (.invokevirtual 616, 377) := by decide +kernel
theorem at_376_34 : am_at (am_m 376) 34 = some (.aload_n 0, 0) := by decide +kernel
theorem at_376_35 : am_at (am_m 376) 35 = some (.iconst 0, 0) := by decide +kernel
theorem at_376_36 : am_at (am_m 376) 36 = some (.iconst 0, 0) := by decide +kernel
theorem at_376_37 : am_at (am_m 376) 37 = some (.iload_n 1, 0) := by decide +kernel
theorem at_376_38 : am_at (am_m 376) 38 = some (.invokevirtual 600, 383) := by decide +kernel
theorem at_376_41 : am_at (am_m 376) 41 = some (.lreturn, 0) := by decide +kernel
theorem at_377_0 : am_at (am_m 377) 0 = some (.aload_n 0, 0) := by decide +kernel
theorem at_377_1 : am_at (am_m 377) 1 = some (.getfield 604, 3152) := by decide +kernel
theorem at_377_4 : am_at (am_m 377) 4 = some (.ifCond .eq 4, 8) := by decide +kernel
theorem at_377_7 : am_at (am_m 377) 7 = some (.return_, 0) := by decide +kernel
theorem at_377_8 : am_at (am_m 377) 8 = some (.aload_n 0, 0) := by decide +kernel
theorem at_377_9 : am_at (am_m 377) 9 = some (.iconst 1, 0) := by decide +kernel
theorem at_377_10 : am_at (am_m 377) 10 = some (.putfield 604, 3152) := by decide +kernel
theorem at_377_13 : am_at (am_m 377) 13 = some (.iconst 1, 0) := by decide +kernel
theorem at_377_14 : am_at (am_m 377) 14 = some (.istore_n 1, 0) := by decide +kernel
theorem at_377_15 : am_at (am_m 377) 15 = some (.iload_n 1, 0) := by decide +kernel
theorem at_377_16 : am_at (am_m 377) 16 = some (.bipush 13, 0) := by decide +kernel
theorem at_377_18 : am_at (am_m 377) 18 = some (.if_icmp .ge 165, 183) := by decide +kernel
theorem at_377_21 : am_at (am_m 377) 21 = some (.iconst 0, 0) := by decide +kernel
theorem at_377_22 : am_at (am_m 377) 22 = some (.istore_n 2, 0) := by decide +kernel
theorem at_377_23 : am_at (am_m 377) 23 = some (.iload_n 2, 0) := by decide +kernel
theorem at_377_24 : am_at (am_m 377) 24 = some (.iconst 3, 0) := by decide +kernel
theorem at_377_25 : am_at (am_m 377) 25 = some (.if_icmp .ge 112, 137) := by decide +kernel
theorem at_377_28 : am_at (am_m 377) 28 = some (.lconst 0, 0) := by decide +kernel
theorem at_377_29 : am_at (am_m 377) 29 = some (.lstore_n 3, 0) := by decide +kernel
theorem at_377_30 : am_at (am_m 377) 30 = some (.lconst 0, 0) := by decide +kernel
theorem at_377_31 : am_at (am_m 377) 31 = some (.lstore 5, 0) := by decide +kernel
theorem at_377_33 : am_at (am_m 377) 33 = some (.iconst 0, 0) := by decide +kernel
theorem at_377_34 : am_at (am_m 377) 34 = some (.istore 7, 0) := by decide +kernel
theorem at_377_36 : am_at (am_m 377) 36 = some (.iload 7, 0) := by decide +kernel
theorem at_377_38 : am_at (am_m 377) 38 = some (.bipush 21, 0) := by decide +kernel
theorem at_377_40 : am_at (am_m 377) 40 = some (.if_icmp .ge 70, 110) := by decide +kernel
theorem at_377_43 : am_at (am_m 377) 43 = some (.aload_n 0, 0) := by decide +kernel
theorem at_377_44 : am_at (am_m 377) 44 = some (.getfield 163, 3154) := by decide +kernel
theorem at_377_47 : am_at (am_m 377) 47 = some (.sipush 273, 0) := by decide +kernel
theorem at_377_50 : am_at (am_m 377) 50 = some (.iload_n 2, 0) := by decide +kernel
theorem at_377_51 : am_at (am_m 377) 51 = some (.imul, 0) := by decide +kernel
theorem at_377_52 : am_at (am_m 377) 52 = some (.bipush 13, 0) := by decide +kernel
theorem at_377_54 : am_at (am_m 377) 54 = some (.iload 7, 0) := by decide +kernel
theorem at_377_56 : am_at (am_m 377) 56 = some (.imul, 0) := by decide +kernel
theorem at_377_57 : am_at (am_m 377) 57 = some (.iadd, 0) := by decide +kernel
theorem at_377_58 : am_at (am_m 377) 58 = some (.iload_n 1, 0) := by decide +kernel
theorem at_377_59 : am_at (am_m 377) 59 = some (.iadd, 0) := by decide +kernel
theorem at_377_60 : am_at (am_m 377) 60 = some (.aload_n 0, 0) := by decide +kernel
theorem at_377_61 : am_at (am_m 377) 61 = some (.iload_n 2, 0) := by decide +kernel
theorem at_377_62 : am_at (am_m 377) 62 = some (.iload 7, 0) := by decide +kernel
theorem at_377_64 : am_at (am_m 377) 64 = some (.iload_n 1, 0) := by decide +kernel
theorem at_377_65 : am_at (am_m 377) 65 = some (.invokevirtual 607, 378) := by decide +kernel
theorem at_377_68 : am_at (am_m 377) 68 = some (.lastore, 0) := by decide +kernel
theorem at_377_69 : am_at (am_m 377) 69 = some (.iload 7, 0) := by decide +kernel
theorem at_377_71 : am_at (am_m 377) 71 = some (.invokestatic 338, 334) := by decide +kernel
theorem at_377_74 : am_at (am_m 377) 74 = some (.ifCond .eq 19, 93) := by decide +kernel
theorem at_377_77 : am_at (am_m 377) 77 = some (.lload 5, 0) := by decide +kernel
theorem at_377_79 : am_at (am_m 377) 79 = some (.aload_n 0, 0) := by decide +kernel
theorem at_377_80 : am_at (am_m 377) 80 = some (.iload_n 2, 0) := by decide +kernel
theorem at_377_81 : am_at (am_m 377) 81 = some (.iload 7, 0) := by decide +kernel
theorem at_377_83 : am_at (am_m 377) 83 = some (.iload_n 1, 0) := by decide +kernel
theorem at_377_84 : am_at (am_m 377) 84 = some (.invokevirtual 610, 384) := by decide +kernel
theorem at_377_87 : am_at (am_m 377) 87 = some (.ladd, 0) := by decide +kernel
theorem at_377_88 : am_at (am_m 377) 88 = some (.lstore 5, 0) := by decide +kernel
theorem at_377_90 : am_at (am_m 377) 90 = some (.goto 14, 104) := by decide +kernel
theorem at_377_93 : am_at (am_m 377) 93 = some (.lload_n 3, 0) := by decide +kernel
theorem at_377_94 : am_at (am_m 377) 94 = some (.aload_n 0, 0) := by decide +kernel
theorem at_377_95 : am_at (am_m 377) 95 = some (.iload_n 2, 0) := by decide +kernel
theorem at_377_96 : am_at (am_m 377) 96 = some (.iload 7, 0) := by decide +kernel
theorem at_377_98 : am_at (am_m 377) 98 = some (.iload_n 1, 0) := by decide +kernel
theorem at_377_99 : am_at (am_m 377) 99 = some (.invokevirtual 610, 384) := by decide +kernel
theorem at_377_102 : am_at (am_m 377) 102 = some (.ladd, 0) := by decide +kernel
theorem at_377_103 : am_at (am_m 377) 103 = some (.lstore_n 3, 0) := by decide +kernel
theorem at_377_104 : am_at (am_m 377) 104 = some (.iinc 7 1, 0) := by decide +kernel
theorem at_377_107 : am_at (am_m 377) 107 = some (.goto (-71), 36) := by decide +kernel
theorem at_377_110 : am_at (am_m 377) 110 = some (.aload_n 0, 0) := by decide +kernel
theorem at_377_111 : am_at (am_m 377) 111 = some (.getfield 166, 3155) := by decide +kernel
theorem at_377_114 : am_at (am_m 377) 114 = some (.iconst 2, 0) := by decide +kernel
theorem at_377_115 : am_at (am_m 377) 115 = some (.iload_n 2, 0) := by decide +kernel
theorem at_377_116 : am_at (am_m 377) 116 = some (.imul, 0) := by decide +kernel
theorem at_377_117 : am_at (am_m 377) 117 = some (.lload_n 3, 0) := by decide +kernel
theorem at_377_118 : am_at (am_m 377) 118 = some (.lastore, 0) := by decide +kernel
theorem at_377_119 : am_at (am_m 377) 119 = some (.aload_n 0, 0) := by decide +kernel
theorem at_377_120 : am_at (am_m 377) 120 = some (.getfield 166, 3155) := by decide +kernel
theorem at_377_123 : am_at (am_m 377) 123 = some (.iconst 2, 0) := by decide +kernel
theorem at_377_124 : am_at (am_m 377) 124 = some (.iload_n 2, 0) := by decide +kernel
theorem at_377_125 : am_at (am_m 377) 125 = some (.imul, 0) := by decide +kernel
theorem at_377_126 : am_at (am_m 377) 126 = some (.iconst 1, 0) := by decide +kernel
theorem at_377_127 : am_at (am_m 377) 127 = some (.iadd, 0) := by decide +kernel
theorem at_377_128 : am_at (am_m 377) 128 = some (.lload 5, 0) := by decide +kernel
theorem at_377_130 : am_at (am_m 377) 130 = some (.lastore, 0) := by decide +kernel
theorem at_377_131 : am_at (am_m 377) 131 = some (.iinc 2 1, 0) := by decide +kernel
theorem at_377_134 : am_at (am_m 377) 134 = some (.goto (-111), 23) := by decide +kernel
theorem at_377_137 : am_at (am_m 377) 137 = some (.iconst 0, 0) := by decide +kernel
theorem at_377_138 : am_at (am_m 377) 138 = some (.istore_n 2, 0) := by decide +kernel
theorem at_377_139 : am_at (am_m 377) 139 = some (.iload_n 2, 0) := by decide +kernel
theorem at_377_140 : am_at (am_m 377) 140 = some (.bipush 6, 0) := by decide +kernel
theorem at_377_142 : am_at (am_m 377) 142 = some (.if_icmp .ge 35, 177) := by decide +kernel
theorem at_377_145 : am_at (am_m 377) 145 = some (.aload_n 0, 0) := by decide +kernel
theorem at_377_146 : am_at (am_m 377) 146 = some (.getfield 160, 3153) := by decide +kernel
theorem at_377_149 : am_at (am_m 377) 149 = some (.bipush 28, 0) := by decide +kernel
theorem at_377_151 : am_at (am_m 377) 151 = some (.iload_n 2, 0) := by decide +kernel
theorem at_377_152 : am_at (am_m 377) 152 = some (.iconst 2, 0) := by decide +kernel
theorem at_377_153 : am_at (am_m 377) 153 = some (.idiv, 0) := by decide +kernel
theorem at_377_154 : am_at (am_m 377) 154 = some (.imul, 0) := by decide +kernel
theorem at_377_155 : am_at (am_m 377) 155 = some (.bipush 14, 0) := by decide +kernel
theorem at_377_157 : am_at (am_m 377) 157 = some (.iload_n 2, 0) := by decide +kernel
theorem at_377_158 : am_at (am_m 377) 158 = some (.iconst 2, 0) := by decide +kernel
theorem at_377_159 : am_at (am_m 377) 159 = some (.irem, 0) := by decide +kernel
theorem at_377_160 : am_at (am_m 377) 160 = some (.imul, 0) := by decide +kernel
theorem at_377_161 : am_at (am_m 377) 161 = some (.iadd, 0) := by decide +kernel
theorem at_377_162 : am_at (am_m 377) 162 = some (.iload_n 1, 0) := by decide +kernel
theorem at_377_163 : am_at (am_m 377) 163 = some (.iadd, 0) := by decide +kernel
theorem at_377_164 : am_at (am_m 377) 164 = some (.aload_n 0, 0) := by decide +kernel
theorem at_377_165 : am_at (am_m 377) 165 = some (.getfield 166, 3155) := by decide +kernel
theorem at_377_168 : am_at (am_m 377) 168 = some (.iload_n 2, 0) := by decide +kernel
theorem at_377_169 : am_at (am_m 377) 169 = some (.laload, 0) := by decide +kernel
theorem at_377_170 : am_at (am_m 377) 170 = some (.lastore, 0) := by decide +kernel
theorem at_377_171 : am_at (am_m 377) 171 = some (.iinc 2 1, 0) := by decide +kernel
theorem at_377_174 : am_at (am_m 377) 174 = some (.goto (-35), 139) := by decide +kernel
theorem at_377_177 : am_at (am_m 377) 177 = some (.iinc 1 1, 0) := by decide +kernel
theorem at_377_180 : am_at (am_m 377) 180 = some (.goto (-165), 15) := by decide +kernel
theorem at_377_183 : am_at (am_m 377) 183 = some (.return_, 0) := by decide +kernel
theorem at_378_0 : am_at (am_m 378) 0 = some (.iload_n 1, 0) := by decide +kernel
theorem at_378_1 : am_at (am_m 378) 1 = some (.iload_n 2, 0) := by decide +kernel
theorem at_378_2 : am_at (am_m 378) 2 = some (.invokestatic 585, 379) := by decide +kernel
theorem at_378_5 : am_at (am_m 378) 5 = some (.ifCond .ne 5, 10) := by decide +kernel
theorem at_378_8 : am_at (am_m 378) 8 = some (.lconst 0, 0) := by decide +kernel
theorem at_378_9 : am_at (am_m 378) 9 = some (.lreturn, 0) := by decide +kernel
theorem at_378_10 : am_at (am_m 378) 10 = some (.iload_n 2, 0) := by decide +kernel
theorem at_378_11 : am_at (am_m 378) 11 = some (.invokestatic 327, 343) := by decide +kernel
theorem at_378_14 : am_at (am_m 378) 14 = some (.istore 4, 0) := by decide +kernel
theorem at_378_16 : am_at (am_m 378) 16 = some (.iload 4, 0) := by decide +kernel
theorem at_378_18 : am_at (am_m 378) 18 = some (.ifCond .ne 24, 42) := by decide +kernel
theorem at_378_21 : am_at (am_m 378) 21 = some (.iload_n 3, 0) := by decide +kernel
theorem at_378_22 : am_at (am_m 378) 22 = some (.iconst 1, 0) := by decide +kernel
theorem at_378_23 : am_at (am_m 378) 23 = some (.if_icmp .eq 7, 30) := by decide +kernel
theorem at_378_26 : am_at (am_m 378) 26 = some (.lconst 0, 0) := by decide +kernel
theorem at_378_27 : am_at (am_m 378) 27 = some (.goto 14, 41) := by decide +kernel
theorem at_378_30 : am_at (am_m 378) 30 = some (.iload_n 2, 0) := by decide +kernel
theorem at_378_31 : am_at (am_m 378) 31 = some (.ifCond .ne 9, 40) := by decide +kernel
theorem at_378_34 : am_at (am_m 378) 34 = some (.ldc2_w 588, 1) := by decide +kernel
theorem at_378_37 : am_at (am_m 378) 37 = some (.goto 4, 41) := by decide +kernel
theorem at_378_40 : am_at (am_m 378) 40 = some (.lconst 1, 0) := by decide +kernel
theorem at_378_41 : am_at (am_m 378) 41 = some (.lreturn, 0) := by decide +kernel
theorem at_378_42 : am_at (am_m 378) 42 = some (.lconst 0, 0) := by decide +kernel
theorem at_378_43 : am_at (am_m 378) 43 = some (.lstore 5, 0) := by decide +kernel
theorem at_378_45 : am_at (am_m 378) 45 = some (.iconst 1, 0) := by decide +kernel
theorem at_378_46 : am_at (am_m 378) 46 = some (.istore 7, 0) := by decide +kernel
theorem at_378_48 : am_at (am_m 378) 48 = some (.iload 7, 0) := by decide +kernel
theorem at_378_50 : am_at (am_m 378) 50 = some (.iload_n 3, 0) := by decide +kernel
theorem at_378_51 : am_at (am_m 378) 51 = some (.if_icmp .ge 60, 111) := by decide +kernel
theorem at_378_54 : am_at (am_m 378) 54 = some (.iload 4, 0) := by decide +kernel
theorem at_378_56 : am_at (am_m 378) 56 = some (.iconst 1, 0) := by decide +kernel
theorem at_378_57 : am_at (am_m 378) 57 = some (.if_icmp .le 7, 64) := by decide +kernel
theorem at_378_60 : am_at (am_m 378) 60 = some (.iconst 1, 0) := by decide +kernel
theorem at_378_61 : am_at (am_m 378) 61 = some (.goto 4, 65) := by decide +kernel
theorem at_378_64 : am_at (am_m 378) 64 = some (.iconst 0, 0) := by decide +kernel
theorem at_378_65 : am_at (am_m 378) 65 = some (.istore 8, 0) := by decide +kernel
theorem at_378_67 : am_at (am_m 378) 67 = some (.iload 8, 0) := by decide +kernel
theorem at_378_69 : am_at (am_m 378) 69 = some (.iload 4, 0) := by decide +kernel
theorem at_378_71 : am_at (am_m 378) 71 = some (.iconst 1, 0) := by decide +kernel
theorem at_378_72 : am_at (am_m 378) 72 = some (.if_icmp .le 7, 79) := by decide +kernel
theorem at_378_75 : am_at (am_m 378) 75 = some (.iload_n 3, 0) := by decide +kernel
theorem at_378_76 : am_at (am_m 378) 76 = some (.goto 4, 80) := by decide +kernel
theorem at_378_79 : am_at (am_m 378) 79 = some (.iconst 1, 0) := by decide +kernel
theorem at_378_80 : am_at (am_m 378) 80 = some (.if_icmp .ge 25, 105) := by decide +kernel
theorem at_378_83 : am_at (am_m 378) 83 = some (.lload 5, 0) := by decide +kernel
theorem at_378_85 : am_at (am_m 378) 85 = some (.aload_n 0, 0) := by decide +kernel
theorem at_378_86 : am_at (am_m 378) 86 = some (.iload_n 1, 0) := by decide +kernel
theorem at_378_87 : am_at (am_m 378) 87 = some (.iload_n 2, 0) := by decide +kernel
theorem at_378_88 : am_at (am_m 378) 88 = some (.iload_n 3, 0) := by decide +kernel
theorem at_378_89 : am_at (am_m 378) 89 = some (.iload 7, 0) := by decide +kernel
theorem at_378_91 : am_at (am_m 378) 91 = some (.iload 8, 0) := by decide +kernel
theorem at_378_93 : am_at (am_m 378) 93 = some (.invokevirtual 590, 380) := by decide +kernel
theorem at_378_96 : am_at (am_m 378) 96 = some (.ladd, 0) := by decide +kernel
theorem at_378_97 : am_at (am_m 378) 97 = some (.lstore 5, 0) := by decide +kernel
theorem at_378_99 : am_at (am_m 378) 99 = some (.iinc 8 1, 0) := by decide +kernel
theorem at_378_102 : am_at (am_m 378) 102 = some (.goto (-35), 67) := by decide +kernel
theorem at_378_105 : am_at (am_m 378) 105 = some (.iinc 7 1, 0) := by decide +kernel
theorem at_378_108 : am_at (am_m 378) 108 = some (.goto (-60), 48) := by decide +kernel
theorem at_378_111 : am_at (am_m 378) 111 = some (.lload 5, 0) := by decide +kernel
theorem at_378_113 : am_at (am_m 378) 113 = some (.lreturn, 0) := by decide +kernel
theorem at_379_0 : am_at (am_m 379) 0 = some (.iload_n 0, 0) := by decide +kernel
theorem at_379_1 : am_at (am_m 379) 1 = some (.ifCond .ne 22, 23) := by decide +kernel
theorem at_379_4 : am_at (am_m 379) 4 = some (.iload_n 1, 0) := by decide +kernel
theorem at_379_5 : am_at (am_m 379) 5 = some (.iconst 5, 0) := by decide +kernel
theorem at_379_6 : am_at (am_m 379) 6 = some (.if_icmp .eq 13, 19) := by decide +kernel
theorem at_379_9 : am_at (am_m 379) 9 = some (.iload_n 1, 0) := by decide +kernel
theorem at_379_10 : am_at (am_m 379) 10 = some (.bipush 6, 0) := by decide +kernel
theorem at_379_12 : am_at (am_m 379) 12 = some (.if_icmp .eq 7, 19) := by decide +kernel
theorem at_379_15 : am_at (am_m 379) 15 = some (.iconst 1, 0) := by decide +kernel
theorem at_379_16 : am_at (am_m 379) 16 = some (.goto 48, 64) := by decide +kernel
theorem at_379_19 : am_at (am_m 379) 19 = some (.iconst 0, 0) := by decide +kernel
theorem at_379_20 : am_at (am_m 379) 20 = some (.goto 44, 64) := by decide +kernel
theorem at_379_23 : am_at (am_m 379) 23 = some (.iload_n 0, 0) := by decide +kernel
theorem at_379_24 : am_at (am_m 379) 24 = some (.iconst 1, 0) := by decide +kernel
theorem at_379_25 : am_at (am_m 379) 25 = some (.if_icmp .ne 17, 42) := by decide +kernel
theorem at_379_28 : am_at (am_m 379) 28 = some (.iload_n 1, 0) := by decide +kernel
theorem at_379_29 : am_at (am_m 379) 29 = some (.bipush 19, 0) := by decide +kernel
theorem at_379_31 : am_at (am_m 379) 31 = some (.if_icmp .eq 7, 38) := by decide +kernel
theorem at_379_34 : am_at (am_m 379) 34 = some (.iconst 1, 0) := by decide +kernel
theorem at_379_35 : am_at (am_m 379) 35 = some (.goto 29, 64) := by decide +kernel
theorem at_379_38 : am_at (am_m 379) 38 = some (.iconst 0, 0) := by decide +kernel
theorem at_379_39 : am_at (am_m 379) 39 = some (.goto 25, 64) := by decide +kernel
theorem at_379_42 : am_at (am_m 379) 42 = some (.iload_n 1, 0) := by decide +kernel
theorem at_379_43 : am_at (am_m 379) 43 = some (.iconst 5, 0) := by decide +kernel
theorem at_379_44 : am_at (am_m 379) 44 = some (.if_icmp .eq 19, 63) := by decide +kernel
theorem at_379_47 : am_at (am_m 379) 47 = some (.iload_n 1, 0) := by decide +kernel
theorem at_379_48 : am_at (am_m 379) 48 = some (.bipush 6, 0) := by decide +kernel
theorem at_379_50 : am_at (am_m 379) 50 = some (.if_icmp .eq 13, 63) := by decide +kernel
theorem at_379_53 : am_at (am_m 379) 53 = some (.iload_n 1, 0) := by decide +kernel
theorem at_379_54 : am_at (am_m 379) 54 = some (.bipush 19, 0) := by decide +kernel
theorem at_379_56 : am_at (am_m 379) 56 = some (.if_icmp .eq 7, 63) := by decide +kernel
theorem at_379_59 : am_at (am_m 379) 59 = some (.iconst 1, 0) := by decide +kernel
theorem at_379_60 : am_at (am_m 379) 60 = some (.goto 4, 64) := by decide +kernel
theorem at_379_63 : am_at (am_m 379) 63 = some (.iconst 0, 0) := by decide +kernel
theorem at_379_64 : am_at (am_m 379) 64 = some (.ireturn, 0) := by decide +kernel
theorem at_380_0 : am_at (am_m 380) 0 = some (.iload_n 2, 0) := by decide +kernel
theorem at_380_1 : am_at (am_m 380) 1 = some (.invokestatic 327, 343) := by decide +kernel
theorem at_380_4 : am_at (am_m 380) 4 = some (.istore 6, 0) := by decide +kernel
theorem at_380_6 : am_at (am_m 380) 6 = some (.iload_n 3, 0) := by decide +kernel
theorem at_380_7 : am_at (am_m 380) 7 = some (.iconst 1, 0) := by decide +kernel
theorem at_380_8 : am_at (am_m 380) 8 = some (.isub, 0) := by decide +kernel
theorem at_380_9 : am_at (am_m 380) 9 = some (.iload 4, 0) := by decide +kernel
theorem at_380_11 : am_at (am_m 380) 11 = some (.isub, 0) := by decide +kernel
theorem at_380_12 : am_at (am_m 380) 12 = some (.iload 5, 0) := by decide +kernel
theorem at_380_14 : am_at (am_m 380) 14 = some (.isub, 0) := by decide +kernel
theorem at_380_15 : am_at (am_m 380) 15 = some (.istore 7, 0) := by decide +kernel
theorem at_380_17 : am_at (am_m 380) 17 = some (.iload 6, 0) := by decide +kernel
theorem at_380_19 : am_at (am_m 380) 19 = some (.iconst 3, 0) := by decide +kernel
theorem at_380_20 : am_at (am_m 380) 20 = some (.if_icmp .ge 11, 31) := by decide +kernel
theorem at_380_23 : am_at (am_m 380) 23 = some (.iload 7, 0) := by decide +kernel
theorem at_380_25 : am_at (am_m 380) 25 = some (.ifCond .eq 14, 39) := by decide +kernel
theorem at_380_28 : am_at (am_m 380) 28 = some (.goto 9, 37) := by decide +kernel
theorem at_380_31 : am_at (am_m 380) 31 = some (.iload 7, 0) := by decide +kernel
theorem at_380_33 : am_at (am_m 380) 33 = some (.iconst 1, 0) := by decide +kernel
theorem at_380_34 : am_at (am_m 380) 34 = some (.if_icmp .ge 5, 39) := by decide +kernel
theorem at_380_37 : am_at (am_m 380) 37 = some (.lconst 0, 0) := by decide +kernel
theorem at_380_38 : am_at (am_m 380) 38 = some (.lreturn, 0) := by decide +kernel
theorem at_380_39 : am_at (am_m 380) 39 = some (.aload_n 0, 0) := by decide +kernel
theorem at_380_40 : am_at (am_m 380) 40 = some (.iload_n 1, 0) := by decide +kernel
theorem at_380_41 : am_at (am_m 380) 41 = some (.iload_n 2, 0) := by decide +kernel
theorem at_380_42 : am_at (am_m 380) 42 = some (.iconst 0, 0) := by decide +kernel
theorem at_380_43 : am_at (am_m 380) 43 = some (.invokestatic 594, 381) := by decide +kernel
theorem at_380_46 : am_at (am_m 380) 46 = some (.iload_n 2, 0) := by decide +kernel
theorem at_380_47 : am_at (am_m 380) 47 = some (.iconst 0, 0) := by decide +kernel
theorem at_380_48 : am_at (am_m 380) 48 = some (.invokestatic 597, 382) := by decide +kernel
theorem at_380_51 : am_at (am_m 380) 51 = some (.iload 4, 0) := by decide +kernel
theorem at_380_53 : am_at (am_m 380) 53 = some (.invokevirtual 600, 383) := by decide +kernel
theorem at_380_56 : am_at (am_m 380) 56 = some (.lstore 8, 0) := by decide +kernel
theorem at_380_58 : am_at (am_m 380) 58 = some (.iload 6, 0) := by decide +kernel
theorem at_380_60 : am_at (am_m 380) 60 = some (.iconst 1, 0) := by decide +kernel
theorem at_380_61 : am_at (am_m 380) 61 = some (.if_icmp .le 26, 87) := by decide +kernel
theorem at_380_64 : am_at (am_m 380) 64 = some (.lload 8, 0) := by decide +kernel
theorem at_380_66 : am_at (am_m 380) 66 = some (.aload_n 0, 0) := by decide +kernel
theorem at_380_67 : am_at (am_m 380) 67 = some (.iload_n 1, 0) := by decide +kernel
theorem at_380_68 : am_at (am_m 380) 68 = some (.iload_n 2, 0) := by decide +kernel
theorem at_380_69 : am_at (am_m 380) 69 = some (.iconst 1, 0) := by decide +kernel
theorem at_380_70 : am_at (am_m 380) 70 = some (.invokestatic 594, 381) := by decide +kernel
theorem at_380_73 : am_at (am_m 380) 73 = some (.iload_n 2, 0) := by decide +kernel
theorem at_380_74 : am_at (am_m 380) 74 = some (.iconst 1, 0) := by decide +kernel
theorem at_380_75 : am_at (am_m 380) 75 = some (.invokestatic 597, 382) := by decide +kernel
theorem at_380_78 : am_at (am_m 380) 78 = some (.iload 5, 0) := by decide +kernel
theorem at_380_80 : am_at (am_m 380) 80 = some (.invokevirtual 600, 383) := by decide +kernel
theorem at_380_83 : am_at (am_m 380) 83 = some (.lmul, 0) := by decide +kernel
theorem at_380_84 : am_at (am_m 380) 84 = some (.goto 5, 89) := by decide +kernel
theorem at_380_87 : am_at (am_m 380) 87 = some (.lload 8, 0) := by decide +kernel
theorem at_380_89 : am_at (am_m 380) 89 = some (.lstore 8, 0) := by decide +kernel
theorem at_380_91 : am_at (am_m 380) 91 = some (.iload 6, 0) := by decide +kernel
theorem at_380_93 : am_at (am_m 380) 93 = some (.iconst 2, 0) := by decide +kernel
theorem at_380_94 : am_at (am_m 380) 94 = some (.if_icmp .le 21, 115) := by decide +kernel
theorem at_380_97 : am_at (am_m 380) 97 = some (.lload 8, 0) := by decide +kernel
theorem at_380_99 : am_at (am_m 380) 99 = some (.aload_n 0, 0) := by decide +kernel
theorem at_380_100 : am_at (am_m 380) 100 = some (.iload_n 1, 0) := by decide +kernel
theorem at_380_101 : am_at (am_m 380) 101 = some (.iload_n 2, 0) := by decide +kernel
theorem at_380_102 : am_at (am_m 380) 102 = some (.iconst 2, 0) := by decide +kernel
theorem at_380_103 : am_at (am_m 380) 103 = some (.invokestatic 597, 382) := by decide +kernel
theorem at_380_106 : am_at (am_m 380) 106 = some (.iload 7, 0) := by decide +kernel
theorem at_380_108 : am_at (am_m 380) 108 = some (.invokevirtual 600, 383) := by decide +kernel
theorem at_380_111 : am_at (am_m 380) 111 = some (.lmul, 0) := by decide +kernel
theorem at_380_112 : am_at (am_m 380) 112 = some (.goto 5, 117) := by decide +kernel
theorem at_380_115 : am_at (am_m 380) 115 = some (.lload 8, 0) := by decide +kernel
theorem at_380_117 : am_at (am_m 380) 117 = some (.lreturn, 0) := by decide +kernel
theorem at_381_0 : am_at (am_m 381) 0 = some (.iload_n 1, 0) := by decide +kernel
theorem at_381_1 : am_at (am_m 381) 1 = some (.bipush 19, 0) := by decide +kernel
theorem at_381_3 : am_at (am_m 381) 3 = some (.if_icmp .ne 12, 15) := by decide +kernel
theorem at_381_6 : am_at (am_m 381) 6 = some (.iload_n 2, 0) := by decide +kernel
theorem at_381_7 : am_at (am_m 381) 7 = some (.iconst 1, 0) := by decide +kernel
theorem at_381_8 : am_at (am_m 381) 8 = some (.if_icmp .ne 7, 15) := by decide +kernel
theorem at_381_11 : am_at (am_m 381) 11 = some (.iconst 1, 0) := by decide +kernel
theorem at_381_12 : am_at (am_m 381) 12 = some (.goto 4, 16) := by decide +kernel
theorem at_381_15 : am_at (am_m 381) 15 = some (.iload_n 0, 0) := by decide +kernel
theorem at_381_16 : am_at (am_m 381) 16 = some (.ireturn, 0) := by decide +kernel
theorem at_382_0 : am_at (am_m 382) 0 = some (.iload_n 0, 0) := by decide +kernel
theorem at_382_1 : am_at (am_m 382) 1 = some (.iload_n 1, 0) := by decide +kernel
theorem at_382_2 : am_at (am_m 382) 2 = some (.invokestatic 342, 330) := by decide +kernel
theorem at_382_5 : am_at (am_m 382) 5 = some (.ifCond .eq 7, 12) := by decide +kernel
theorem at_382_8 : am_at (am_m 382) 8 = some (.iconst 1, 0) := by decide +kernel
theorem at_382_9 : am_at (am_m 382) 9 = some (.goto 4, 13) := by decide +kernel
theorem at_382_12 : am_at (am_m 382) 12 = some (.iconst 0, 0) := by decide +kernel
theorem at_382_13 : am_at (am_m 382) 13 = some (.ireturn, 0) := by decide +kernel
theorem at_383_0 : am_at (am_m 383) 0 = some (.iload_n 3, 0) := by decide +kernel
theorem at_383_1 : am_at (am_m 383) 1 = some (.iconst 1, 0) := by decide +kernel
theorem at_383_2 : am_at (am_m 383) 2 = some (.if_icmp .ge 7, 9) := by decide +kernel
theorem at_383_5 : am_at (am_m 383) 5 = some (.lconst 0, 0) := by decide +kernel
theorem at_383_6 : am_at (am_m 383) 6 = some (.goto 19, 25) := by decide +kernel
theorem at_383_9 : am_at (am_m 383) 9 = some (.aload_n 0, 0) := by decide +kernel
theorem at_383_10 : am_at (am_m 383) 10 = some (.getfield 160, 3153) := by decide +kernel
theorem at_383_13 : am_at (am_m 383) 13 = some (.bipush 28, 0) := by decide +kernel
theorem at_383_15 : am_at (am_m 383) 15 = some (.iload_n 1, 0) := by decide +kernel
theorem at_383_16 : am_at (am_m 383) 16 = some (.imul, 0) := by decide +kernel
theorem at_383_17 : am_at (am_m 383) 17 = some (.bipush 14, 0) := by decide +kernel
theorem at_383_19 : am_at (am_m 383) 19 = some (.iload_n 2, 0) := by decide +kernel
theorem at_383_20 : am_at (am_m 383) 20 = some (.imul, 0) := by decide +kernel
theorem at_383_21 : am_at (am_m 383) 21 = some (.iadd, 0) := by decide +kernel
theorem at_383_22 : am_at (am_m 383) 22 = some (.iload_n 3, 0) := by decide +kernel
theorem at_383_23 : am_at (am_m 383) 23 = some (.iadd, 0) := by decide +kernel
theorem at_383_24 : am_at (am_m 383) 24 = some (.laload, 0) := by decide +kernel
theorem at_383_25 : am_at (am_m 383) 25 = some (.lreturn, 0) := by decide +kernel
theorem at_384_0 : am_at (am_m 384) 0 = some (.aload_n 0, 0) := by decide +kernel
theorem at_384_1 : am_at (am_m 384) 1 = some (.getfield 163, 3154) := by decide +kernel
theorem at_384_4 : am_at (am_m 384) 4 = some (.sipush 273, 0) := by decide +kernel
theorem at_384_7 : am_at (am_m 384) 7 = some (.iload_n 1, 0) := by decide +kernel
theorem at_384_8 : am_at (am_m 384) 8 = some (.imul, 0) := by decide +kernel
theorem at_384_9 : am_at (am_m 384) 9 = some (.bipush 13, 0) := by decide +kernel
theorem at_384_11 : am_at (am_m 384) 11 = some (.iload_n 2, 0) := by decide +kernel
theorem at_384_12 : am_at (am_m 384) 12 = some (.imul, 0) := by decide +kernel
theorem at_384_13 : am_at (am_m 384) 13 = some (.iadd, 0) := by decide +kernel
theorem at_384_14 : am_at (am_m 384) 14 = some (.iload_n 3, 0) := by decide +kernel
theorem at_384_15 : am_at (am_m 384) 15 = some (.iadd, 0) := by decide +kernel
theorem at_384_16 : am_at (am_m 384) 16 = some (.laload, 0) := by decide +kernel
theorem at_384_17 : am_at (am_m 384) 17 = some (.lreturn, 0) := by decide +kernel
theorem at_385_0 : am_at (am_m 385) 0 = some (.aload_n 0, 0) := by decide +kernel
theorem at_385_1 : am_at (am_m 385) 1 = some (.invokevirtual 616, 377) := by decide +kernel
theorem at_385_4 : am_at (am_m 385) 4 = some (.aload_n 0, 0) := by decide +kernel
theorem at_385_5 : am_at (am_m 385) 5 = some (.iload_n 1, 0) := by decide +kernel
theorem at_385_6 : am_at (am_m 385) 6 = some (.i2l, 0) := by decide +kernel
theorem at_385_7 : am_at (am_m 385) 7 = some (.lconst 1, 0) := by decide +kernel
theorem at_385_8 : am_at (am_m 385) 8 = some (.ldc2_w 630, 54) := by decide +kernel
theorem at_385_11 : am_at (am_m 385) 11 = some (.invokestatic 299, 327) := by decide +kernel
theorem at_385_14 : am_at (am_m 385) 14 = some (.ifCond .eq 36, 50) := by decide +kernel
theorem at_385_17 : am_at (am_m 385) 17 = some (.lload_n 2, 0) := by decide +kernel
theorem at_385_18 : am_at (am_m 385) 18 = some (.lconst 0, 0) := by decide +kernel
theorem at_385_19 : am_at (am_m 385) 19 = some (.aload_n 0, 0) := by decide +kernel
theorem at_385_20 : am_at (am_m 385) 20 = some (.iconst 0, 0) := by decide +kernel
theorem at_385_21 : am_at (am_m 385) 21 = some (.iconst 0, 0) := by decide +kernel
theorem at_385_22 : am_at (am_m 385) 22 = some (.iload_n 1, 0) := by decide +kernel
theorem at_385_23 : am_at (am_m 385) 23 = some (.i2l, 0) := by decide +kernel
theorem at_385_24 : am_at (am_m 385) 24 = some (.lconst 1, 0) := by decide +kernel
theorem at_385_25 : am_at (am_m 385) 25 = some (.ldc2_w 630, 54) := by decide +kernel
theorem at_385_28 : am_at (am_m 385) 28 = some (.invokestatic 299, 327) := by decide +kernel
theorem at_385_31 : am_at (am_m 385) 31 = some (.ifCond .eq 7, 38) := by decide +kernel
theorem at_385_34 : am_at (am_m 385) 34 = some (.iload_n 1, 0) := by decide +kernel
theorem at_385_35 : am_at (am_m 385) 35 = some (.goto 4, 39) := by decide +kernel
theorem at_385_38 : am_at (am_m 385) 38 = some (.iconst 1, 0) := by decide +kernel
theorem at_385_39 : am_at (am_m 385) 39 = some (.invokevirtual 600, 383) := by decide +kernel
theorem at_385_42 : am_at (am_m 385) 42 = some (.lconst 1, 0) := by decide +kernel
theorem at_385_43 : am_at (am_m 385) 43 = some (.lsub, 0) := by decide +kernel
theorem at_385_44 : am_at (am_m 385) 44 = some (.invokestatic 299, 327) := by decide +kernel
theorem at_385_47 : am_at (am_m 385) 47 = some (.ifCond .ne 7, 54) := by decide +kernel
theorem at_385_50 : am_at (am_m 385) 50 = some (.iconst 1, 0) := by decide +kernel
theorem at_385_51 : am_at (am_m 385) 51 = some (.goto 18, 69) := by decide +kernel
theorem at_385_54 : am_at (am_m 385) 54 = some (.aload_n 0, 0) := by decide +kernel
theorem at_385_55 : am_at (am_m 385) 55 = some (.getfield 296, 3073) := by decide +kernel
theorem at_385_58 : am_at (am_m 385) 58 = some (.sipush 600, 0) := by decide +kernel
theorem at_385_61 : am_at (am_m 385) 61 = some (.if_icmp .ne 7, 68) := by decide +kernel
theorem at_385_64 : am_at (am_m 385) 64 = some (.iconst 2, 0) := by decide +kernel
theorem at_385_65 : am_at (am_m 385) 65 = some (.goto 4, 69) := by decide +kernel
theorem at_385_68 : am_at (am_m 385) 68 = some (.iconst 0, 0) := by decide +kernel
theorem at_385_69 : am_at (am_m 385) 69 = some (.putfield 292, 3072) := by decide +kernel
theorem at_385_72 : am_at (am_m 385) 72 = some (.aload_n 0, 0) := by decide +kernel
theorem at_385_73 : am_at (am_m 385) 73 = some (.getfield 292, 3072) := by decide +kernel
theorem at_385_76 : am_at (am_m 385) 76 = some (.ifCond .le 5, 81) := by decide +kernel
theorem at_385_79 : am_at (am_m 385) 79 = some (.iconst 0, 0) := by decide +kernel
theorem at_385_80 : am_at (am_m 385) 80 = some (.ireturn, 0) := by decide +kernel
theorem at_385_81 : am_at (am_m 385) 81 = some (.aload_n 0, 0) := by decide +kernel
theorem at_385_82 : am_at (am_m 385) 82 = some (.iconst 0, 0) := by decide +kernel
theorem at_385_83 : am_at (am_m 385) 83 = some (.putfield 303, 3085) := by decide +kernel
theorem at_385_86 : am_at (am_m 385) 86 = some (.aload_n 0, 0) := by decide +kernel
theorem at_385_87 : am_at (am_m 385) 87 = some (.iconst 0, 0) := by decide +kernel
theorem at_385_88 : am_at (am_m 385) 88 = some (.putfield 306, 3086) := by decide +kernel
theorem at_385_91 : am_at (am_m 385) 91 = some (.aload_n 0, 0) := by decide +kernel
theorem at_385_92 : am_at (am_m 385) 92 = some (.iconst 0, 0) := by decide +kernel
theorem at_385_93 : am_at (am_m 385) 93 = some (.iconst 0, 0) := by decide +kernel
theorem at_385_94 : am_at (am_m 385) 94 = some (.iload_n 1, 0) := by decide +kernel
theorem at_385_95 : am_at (am_m 385) 95 = some (.lload_n 2, 0) := by decide +kernel
theorem at_385_96 : am_at (am_m 385) 96 = some (.invokevirtual 632, 386) := by decide +kernel
theorem at_385_99 : am_at (am_m 385) 99 = some (.aload_n 0, 0) := by decide +kernel
theorem at_385_100 : am_at (am_m 385) 100 = some (.iconst 1, 0) := by decide +kernel
theorem at_385_101 : am_at (am_m 385) 101 = some (.iconst (-1), 0) := by decide +kernel
theorem at_385_102 : am_at (am_m 385) 102 = some (.iconst (-1), 0) := by decide +kernel
theorem at_385_103 : am_at (am_m 385) 103 = some (.iconst (-1), 0) := by decide +kernel
theorem at_385_104 : am_at (am_m 385) 104 = some (.iconst (-1), 0) := by decide +kernel
theorem at_385_105 : am_at (am_m 385) 105 = some (.lconst 0, 0) := by decide +kernel
theorem at_385_106 : am_at (am_m 385) 106 = some (.invokevirtual 543, 356) := by decide +kernel
theorem at_385_109 : am_at (am_m 385) 109 = some (.ireturn, 0) := by decide +kernel
theorem at_386_0 : am_at (am_m 386) 0 = some (.aload_n 0, 0) := by decide +kernel
theorem at_386_1 : am_at (am_m 386) 1 = some (.invokevirtual 616, 377) := by decide +kernel
theorem at_386_4 : am_at (am_m 386) 4 = some (.aload_n 0, 0) := by decide +kernel
theorem at_386_5 : am_at (am_m 386) 5 = some (.iconst 0, 0) := by decide +kernel
theorem at_386_6 : am_at (am_m 386) 6 = some (.putfield 613, 3160) := by decide +kernel
theorem at_386_9 : am_at (am_m 386) 9 = some (.aload_n 0, 0) := by decide +kernel
theorem at_386_10 : am_at (am_m 386) 10 = some (.iload_n 1, 0) := by decide +kernel
theorem at_386_11 : am_at (am_m 386) 11 = some (.iload_n 2, 0) := by decide +kernel
theorem at_386_12 : am_at (am_m 386) 12 = some (.iload_n 3, 0) := by decide +kernel
theorem at_386_13 : am_at (am_m 386) 13 = some (.lload 4, 0) := by decide +kernel
theorem at_386_15 : am_at (am_m 386) 15 = some (.invokevirtual 619, 387) := by decide +kernel
theorem at_386_18 : am_at (am_m 386) 18 = some (.aload_n 0, 0) := by decide +kernel
theorem at_386_19 : am_at (am_m 386) 19 = some (.getfield 613, 3160) := by decide +kernel
theorem at_386_22 : am_at (am_m 386) 22 = some (.ifCond .le 56, 78) := by decide +kernel
theorem at_386_25 : am_at (am_m 386) 25 = some (.aload_n 0, 0) := by decide +kernel
theorem at_386_26 : am_at (am_m 386) 26 = some (.dup, 0) := by decide +kernel
theorem at_386_27 : am_at (am_m 386) 27 = some (.getfield 613, 3160) := by decide +kernel
theorem at_386_30 : am_at (am_m 386) 30 = some (.iconst 1, 0) := by decide +kernel
theorem at_386_31 : am_at (am_m 386) 31 = some (.isub, 0) := by decide +kernel
theorem at_386_32 : am_at (am_m 386) 32 = some (.putfield 613, 3160) := by decide +kernel
theorem at_386_35 : am_at (am_m 386) 35 = some (.aload_n 0, 0) := by decide +kernel
theorem at_386_36 : am_at (am_m 386) 36 = some (.aload_n 0, 0) := by decide +kernel
theorem at_386_37 : am_at (am_m 386) 37 = some (.getfield 169, 3156) := by decide +kernel
theorem at_386_40 : am_at (am_m 386) 40 = some (.aload_n 0, 0) := by decide +kernel
theorem at_386_41 : am_at (am_m 386) 41 = some (.getfield 613, 3160) := by decide +kernel
theorem at_386_44 : am_at (am_m 386) 44 = some (.iaload, 0) := by decide +kernel
theorem at_386_45 : am_at (am_m 386) 45 = some (.aload_n 0, 0) := by decide +kernel
theorem at_386_46 : am_at (am_m 386) 46 = some (.getfield 172, 3157) := by decide +kernel
theorem at_386_49 : am_at (am_m 386) 49 = some (.aload_n 0, 0) := by decide +kernel
theorem at_386_50 : am_at (am_m 386) 50 = some (.getfield 613, 3160) := by decide +kernel
theorem at_386_53 : am_at (am_m 386) 53 = some (.iaload, 0) := by decide +kernel
theorem at_386_54 : am_at (am_m 386) 54 = some (.aload_n 0, 0) := by decide +kernel
theorem at_386_55 : am_at (am_m 386) 55 = some (.getfield 175, 3158) := by decide +kernel
theorem at_386_58 : am_at (am_m 386) 58 = some (.aload_n 0, 0) := by decide +kernel
theorem at_386_59 : am_at (am_m 386) 59 = some (.getfield 613, 3160) := by decide +kernel
theorem at_386_62 : am_at (am_m 386) 62 = some (.iaload, 0) := by decide +kernel
theorem at_386_63 : am_at (am_m 386) 63 = some (.aload_n 0, 0) := by decide +kernel
theorem at_386_64 : am_at (am_m 386) 64 = some (.getfield 178, 3159) := by decide +kernel
theorem at_386_67 : am_at (am_m 386) 67 = some (.aload_n 0, 0) := by decide +kernel
theorem at_386_68 : am_at (am_m 386) 68 = some (.getfield 613, 3160) := by decide +kernel
theorem at_386_71 : am_at (am_m 386) 71 = some (.laload, 0) := by decide +kernel
theorem at_386_72 : am_at (am_m 386) 72 = some (.invokevirtual 623, 388) := by decide +kernel
theorem at_386_75 : am_at (am_m 386) 75 = some (.goto (-57), 18) := by decide +kernel
theorem at_386_78 : am_at (am_m 386) 78 = some (.return_, 0) := by decide +kernel
theorem at_387_0 : am_at (am_m 387) 0 = some (.aload_n 0, 0) := by decide +kernel
theorem at_387_1 : am_at (am_m 387) 1 = some (.getfield 169, 3156) := by decide +kernel
theorem at_387_4 : am_at (am_m 387) 4 = some (.aload_n 0, 0) := by decide +kernel
theorem at_387_5 : am_at (am_m 387) 5 = some (.getfield 613, 3160) := by decide +kernel
theorem at_387_8 : am_at (am_m 387) 8 = some (.iload_n 1, 0) := by decide +kernel
theorem at_387_9 : am_at (am_m 387) 9 = some (.iastore, 0) := by decide +kernel
theorem at_387_10 : am_at (am_m 387) 10 = some (.aload_n 0, 0) := by decide +kernel
theorem at_387_11 : am_at (am_m 387) 11 = some (.getfield 172, 3157) := by decide +kernel
theorem at_387_14 : am_at (am_m 387) 14 = some (.aload_n 0, 0) := by decide +kernel
theorem at_387_15 : am_at (am_m 387) 15 = some (.getfield 613, 3160) := by decide +kernel
theorem at_387_18 : am_at (am_m 387) 18 = some (.iload_n 2, 0) := by decide +kernel
theorem at_387_19 : am_at (am_m 387) 19 = some (.iastore, 0) := by decide +kernel
theorem at_387_20 : am_at (am_m 387) 20 = some (.aload_n 0, 0) := by decide +kernel
theorem at_387_21 : am_at (am_m 387) 21 = some (.getfield 175, 3158) := by decide +kernel
theorem at_387_24 : am_at (am_m 387) 24 = some (.aload_n 0, 0) := by decide +kernel
theorem at_387_25 : am_at (am_m 387) 25 = some (.getfield 613, 3160) := by decide +kernel
theorem at_387_28 : am_at (am_m 387) 28 = some (.iload_n 3, 0) := by decide +kernel
theorem at_387_29 : am_at (am_m 387) 29 = some (.iastore, 0) := by decide +kernel
theorem at_387_30 : am_at (am_m 387) 30 = some (.aload_n 0, 0) := by decide +kernel
theorem at_387_31 : am_at (am_m 387) 31 = some (.getfield 178, 3159) := by decide +kernel
theorem at_387_34 : am_at (am_m 387) 34 = some (.aload_n 0, 0) := by decide +kernel
theorem at_387_35 : am_at (am_m 387) 35 = some (.getfield 613, 3160) := by decide +kernel
theorem at_387_38 : am_at (am_m 387) 38 = some (.lload 4, 0) := by decide +kernel
theorem at_387_40 : am_at (am_m 387) 40 = some (.lastore, 0) := by decide +kernel
theorem at_387_41 : am_at (am_m 387) 41 = some (.aload_n 0, 0) := by decide +kernel
theorem at_387_42 : am_at (am_m 387) 42 = some (.dup, 0) := by decide +kernel
theorem at_387_43 : am_at (am_m 387) 43 = some (.getfield 613, 3160) := by decide +kernel
theorem at_387_46 : am_at (am_m 387) 46 = some (.iconst 1, 0) := by decide +kernel
theorem at_387_47 : am_at (am_m 387) 47 = some (.iadd, 0) := by decide +kernel
theorem at_387_48 : am_at (am_m 387) 48 = some (.putfield 613, 3160) := by decide +kernel
theorem at_387_51 : am_at (am_m 387) 51 = some (.return_, 0) := by decide +kernel
theorem at_388_0 : am_at (am_m 388) 0 = some (.lload 4, 0) := by decide +kernel
theorem at_388_2 : am_at (am_m 388) 2 = some (.lstore 6, 0) := by decide +kernel
theorem at_388_4 : am_at (am_m 388) 4 = some (.iconst 0, 0) := by decide +kernel
theorem at_388_5 : am_at (am_m 388) 5 = some (.istore 8, 0) := by decide +kernel
theorem at_388_7 : am_at (am_m 388) 7 = some (.iconst 0, 0) := by decide +kernel
theorem at_388_8 : am_at (am_m 388) 8 = some (.istore 9, 0) := by decide +kernel
theorem at_388_10 : am_at (am_m 388) 10 = some (.iload 9, 0) := by decide +kernel
theorem at_388_12 : am_at (am_m 388) 12 = some (.ifCond .ne 86, 98) := by decide +kernel
theorem at_388_15 : am_at (am_m 388) 15 = some (.iload 8, 0) := by decide +kernel
theorem at_388_17 : am_at (am_m 388) 17 = some (.invokestatic 338, 334) := by decide +kernel
theorem at_388_20 : am_at (am_m 388) 20 = some (.iload_n 2, 0) := by decide +kernel
theorem at_388_21 : am_at (am_m 388) 21 = some (.iconst 1, 0) := by decide +kernel
theorem at_388_22 : am_at (am_m 388) 22 = some (.if_icmp .ne 7, 29) := by decide +kernel
theorem at_388_25 : am_at (am_m 388) 25 = some (.iconst 1, 0) := by decide +kernel
theorem at_388_26 : am_at (am_m 388) 26 = some (.goto 4, 30) := by decide +kernel
theorem at_388_29 : am_at (am_m 388) 29 = some (.iconst 0, 0) := by decide +kernel
theorem at_388_30 : am_at (am_m 388) 30 = some (.if_icmp .ne 14, 44) := by decide +kernel
theorem at_388_33 : am_at (am_m 388) 33 = some (.aload_n 0, 0) := by decide +kernel
theorem at_388_34 : am_at (am_m 388) 34 = some (.iload_n 1, 0) := by decide +kernel
theorem at_388_35 : am_at (am_m 388) 35 = some (.iload 8, 0) := by decide +kernel
theorem at_388_37 : am_at (am_m 388) 37 = some (.iload_n 3, 0) := by decide +kernel
theorem at_388_38 : am_at (am_m 388) 38 = some (.invokevirtual 610, 384) := by decide +kernel
theorem at_388_41 : am_at (am_m 388) 41 = some (.goto 4, 45) := by decide +kernel
theorem at_388_44 : am_at (am_m 388) 44 = some (.lconst 0, 0) := by decide +kernel
theorem at_388_45 : am_at (am_m 388) 45 = some (.lstore 10, 0) := by decide +kernel
theorem at_388_47 : am_at (am_m 388) 47 = some (.lload 6, 0) := by decide +kernel
theorem at_388_49 : am_at (am_m 388) 49 = some (.lload 10, 0) := by decide +kernel
theorem at_388_51 : am_at (am_m 388) 51 = some (.lcmp, 0) := by decide +kernel
theorem at_388_52 : am_at (am_m 388) 52 = some (.ifCond .ge 7, 59) := by decide +kernel
theorem at_388_55 : am_at (am_m 388) 55 = some (.iconst 1, 0) := by decide +kernel
theorem at_388_56 : am_at (am_m 388) 56 = some (.goto 4, 60) := by decide +kernel
theorem at_388_59 : am_at (am_m 388) 59 = some (.iconst 0, 0) := by decide +kernel
theorem at_388_60 : am_at (am_m 388) 60 = some (.istore 9, 0) := by decide +kernel
theorem at_388_62 : am_at (am_m 388) 62 = some (.iload 9, 0) := by decide +kernel
theorem at_388_64 : am_at (am_m 388) 64 = some (.ifCond .eq 8, 72) := by decide +kernel
theorem at_388_67 : am_at (am_m 388) 67 = some (.lload 6, 0) := by decide +kernel
theorem at_388_69 : am_at (am_m 388) 69 = some (.goto 8, 77) := by decide +kernel
theorem at_388_72 : am_at (am_m 388) 72 = some (.lload 6, 0) := by decide +kernel
theorem at_388_74 : am_at (am_m 388) 74 = some (.lload 10, 0) := by decide +kernel
theorem at_388_76 : am_at (am_m 388) 76 = some (.lsub, 0) := by decide +kernel
theorem at_388_77 : am_at (am_m 388) 77 = some (.lstore 6, 0) := by decide +kernel
theorem at_388_79 : am_at (am_m 388) 79 = some (.iload 9, 0) := by decide +kernel
theorem at_388_81 : am_at (am_m 388) 81 = some (.ifCond .eq 8, 89) := by decide +kernel
theorem at_388_84 : am_at (am_m 388) 84 = some (.iload 8, 0) := by decide +kernel
theorem at_388_86 : am_at (am_m 388) 86 = some (.goto 7, 93) := by decide +kernel
theorem at_388_89 : am_at (am_m 388) 89 = some (.iload 8, 0) := by decide +kernel
theorem at_388_91 : am_at (am_m 388) 91 = some (.iconst 1, 0) := by decide +kernel
theorem at_388_92 : am_at (am_m 388) 92 = some (.iadd, 0) := by decide +kernel
theorem at_388_93 : am_at (am_m 388) 93 = some (.istore 8, 0) := by decide +kernel
theorem at_388_95 : am_at (am_m 388) 95 = some (.goto (-85), 10) := by decide +kernel
theorem at_388_98 : am_at (am_m 388) 98 = some (.iload 8, 0) := by decide +kernel
theorem at_388_100 : am_at (am_m 388) 100 = some (.invokestatic 327, 343) := by decide +kernel
theorem at_388_103 : am_at (am_m 388) 103 = some (.istore 10, 0) := by decide +kernel
theorem at_388_105 : am_at (am_m 388) 105 = some (.aload_n 0, 0) := by decide +kernel
theorem at_388_106 : am_at (am_m 388) 106 = some (.iload 8, 0) := by decide +kernel
theorem at_388_108 : am_at (am_m 388) 108 = some (.iload 8, 0) := by decide +kernel
theorem at_388_110 : am_at (am_m 388) 110 = some (.ifCond .ne 9, 119) := by decide +kernel
theorem at_388_113 : am_at (am_m 388) 113 = some (.lload 6, 0) := by decide +kernel
theorem at_388_115 : am_at (am_m 388) 115 = some (.l2i, 0) := by decide +kernel
theorem at_388_116 : am_at (am_m 388) 116 = some (.goto 4, 120) := by decide +kernel
theorem at_388_119 : am_at (am_m 388) 119 = some (.iconst 0, 0) := by decide +kernel
theorem at_388_120 : am_at (am_m 388) 120 = some (.invokevirtual 335, 335) := by decide +kernel
theorem at_388_123 : am_at (am_m 388) 123 = some (.iload 10, 0) := by decide +kernel
theorem at_388_125 : am_at (am_m 388) 125 = some (.ifCond .ne 4, 129) := by decide +kernel
theorem at_388_128 : am_at (am_m 388) 128 = some (.return_, 0) := by decide +kernel
theorem at_388_129 : am_at (am_m 388) 129 = some (.iconst 1, 0) := by decide +kernel
theorem at_388_130 : am_at (am_m 388) 130 = some (.istore 11, 0) := by decide +kernel
theorem at_388_132 : am_at (am_m 388) 132 = some (.iload 11, 0) := by decide +kernel
theorem at_388_134 : am_at (am_m 388) 134 = some (.iload_n 3, 0) := by decide +kernel
theorem at_388_135 : am_at (am_m 388) 135 = some (.if_icmp .ge 88, 223) := by decide +kernel
theorem at_388_138 : am_at (am_m 388) 138 = some (.iload 10, 0) := by decide +kernel
theorem at_388_140 : am_at (am_m 388) 140 = some (.iconst 1, 0) := by decide +kernel
theorem at_388_141 : am_at (am_m 388) 141 = some (.if_icmp .le 7, 148) := by decide +kernel
theorem at_388_144 : am_at (am_m 388) 144 = some (.iconst 1, 0) := by decide +kernel
theorem at_388_145 : am_at (am_m 388) 145 = some (.goto 4, 149) := by decide +kernel
theorem at_388_148 : am_at (am_m 388) 148 = some (.iconst 0, 0) := by decide +kernel
theorem at_388_149 : am_at (am_m 388) 149 = some (.istore 12, 0) := by decide +kernel
theorem at_388_151 : am_at (am_m 388) 151 = some (.iload 12, 0) := by decide +kernel
theorem at_388_153 : am_at (am_m 388) 153 = some (.iload 10, 0) := by decide +kernel
theorem at_388_155 : am_at (am_m 388) 155 = some (.iconst 1, 0) := by decide +kernel
theorem at_388_156 : am_at (am_m 388) 156 = some (.if_icmp .le 7, 163) := by decide +kernel
theorem at_388_159 : am_at (am_m 388) 159 = some (.iload_n 3, 0) := by decide +kernel
theorem at_388_160 : am_at (am_m 388) 160 = some (.goto 4, 164) := by decide +kernel
theorem at_388_163 : am_at (am_m 388) 163 = some (.iconst 1, 0) := by decide +kernel
theorem at_388_164 : am_at (am_m 388) 164 = some (.if_icmp .ge 53, 217) := by decide +kernel
theorem at_388_167 : am_at (am_m 388) 167 = some (.aload_n 0, 0) := by decide +kernel
theorem at_388_168 : am_at (am_m 388) 168 = some (.iload_n 1, 0) := by decide +kernel
theorem at_388_169 : am_at (am_m 388) 169 = some (.iload 8, 0) := by decide +kernel
theorem at_388_171 : am_at (am_m 388) 171 = some (.iload_n 3, 0) := by decide +kernel
theorem at_388_172 : am_at (am_m 388) 172 = some (.iload 11, 0) := by decide +kernel
theorem at_388_174 : am_at (am_m 388) 174 = some (.iload 12, 0) := by decide +kernel
theorem at_388_176 : am_at (am_m 388) 176 = some (.invokevirtual 590, 380) := by decide +kernel
theorem at_388_179 : am_at (am_m 388) 179 = some (.lstore 13, 0) := by decide +kernel
theorem at_388_181 : am_at (am_m 388) 181 = some (.lload 6, 0) := by decide +kernel
theorem at_388_183 : am_at (am_m 388) 183 = some (.lload 13, 0) := by decide +kernel
theorem at_388_185 : am_at (am_m 388) 185 = some (.lcmp, 0) := by decide +kernel
theorem at_388_186 : am_at (am_m 388) 186 = some (.ifCond .ge 18, 204) := by decide +kernel
theorem at_388_189 : am_at (am_m 388) 189 = some (.aload_n 0, 0) := by decide +kernel
theorem at_388_190 : am_at (am_m 388) 190 = some (.iload_n 1, 0) := by decide +kernel
theorem at_388_191 : am_at (am_m 388) 191 = some (.iload 8, 0) := by decide +kernel
theorem at_388_193 : am_at (am_m 388) 193 = some (.iload_n 3, 0) := by decide +kernel
theorem at_388_194 : am_at (am_m 388) 194 = some (.iload 11, 0) := by decide +kernel
theorem at_388_196 : am_at (am_m 388) 196 = some (.iload 12, 0) := by decide +kernel
theorem at_388_198 : am_at (am_m 388) 198 = some (.lload 6, 0) := by decide +kernel
theorem at_388_200 : am_at (am_m 388) 200 = some (.invokevirtual 626, 389) := by decide +kernel
theorem at_388_203 : am_at (am_m 388) 203 = some (.return_, 0) := by decide +kernel
theorem at_388_204 : am_at (am_m 388) 204 = some (.lload 6, 0) := by decide +kernel
theorem at_388_206 : am_at (am_m 388) 206 = some (.lload 13, 0) := by decide +kernel
theorem at_388_208 : am_at (am_m 388) 208 = some (.lsub, 0) := by decide +kernel
theorem at_388_209 : am_at (am_m 388) 209 = some (.lstore 6, 0) := by decide +kernel
theorem at_388_211 : am_at (am_m 388) 211 = some (.iinc 12 1, 0) := by decide +kernel
theorem at_388_214 : am_at (am_m 388) 214 = some (.goto (-63), 151) := by decide +kernel
theorem at_388_217 : am_at (am_m 388) 217 = some (.iinc 11 1, 0) := by decide +kernel
theorem at_388_220 : am_at (am_m 388) 220 = some (.goto (-88), 132) := by decide +kernel
theorem at_388_223 : am_at (am_m 388) 223 = some (.return_, 0) := by decide +kernel
theorem at_389_0 : am_at (am_m 389) 0 = some (.iload_n 2, 0) := by decide +kernel
theorem at_389_1 : am_at (am_m 389) 1 = some (.invokestatic 327, 343) := by decide +kernel
theorem at_389_4 : am_at (am_m 389) 4 = some (.istore 8, 0) := by decide +kernel
theorem at_389_6 : am_at (am_m 389) 6 = some (.iload_n 3, 0) := by decide +kernel
theorem at_389_7 : am_at (am_m 389) 7 = some (.iconst 1, 0) := by decide +kernel
theorem at_389_8 : am_at (am_m 389) 8 = some (.isub, 0) := by decide +kernel
theorem at_389_9 : am_at (am_m 389) 9 = some (.iload 4, 0) := by decide +kernel
theorem at_389_11 : am_at (am_m 389) 11 = some (.isub, 0) := by decide +kernel
theorem at_389_12 : am_at (am_m 389) 12 = some (.iload 5, 0) := by decide +kernel
theorem at_389_14 : am_at (am_m 389) 14 = some (.isub, 0) := by decide +kernel
theorem at_389_15 : am_at (am_m 389) 15 = some (.istore 9, 0) := by decide +kernel
theorem at_389_17 : am_at (am_m 389) 17 = some (.iload 8, 0) := by decide +kernel
theorem at_389_19 : am_at (am_m 389) 19 = some (.iconst 2, 0) := by decide +kernel
theorem at_389_20 : am_at (am_m 389) 20 = some (.if_icmp .le 18, 38) := by decide +kernel
theorem at_389_23 : am_at (am_m 389) 23 = some (.aload_n 0, 0) := by decide +kernel
theorem at_389_24 : am_at (am_m 389) 24 = some (.iload_n 1, 0) := by decide +kernel
theorem at_389_25 : am_at (am_m 389) 25 = some (.iload_n 2, 0) := by decide +kernel
theorem at_389_26 : am_at (am_m 389) 26 = some (.iconst 2, 0) := by decide +kernel
theorem at_389_27 : am_at (am_m 389) 27 = some (.invokestatic 597, 382) := by decide +kernel
theorem at_389_30 : am_at (am_m 389) 30 = some (.iload 9, 0) := by decide +kernel
theorem at_389_32 : am_at (am_m 389) 32 = some (.invokevirtual 600, 383) := by decide +kernel
theorem at_389_35 : am_at (am_m 389) 35 = some (.goto 4, 39) := by decide +kernel
theorem at_389_38 : am_at (am_m 389) 38 = some (.lconst 1, 0) := by decide +kernel
theorem at_389_39 : am_at (am_m 389) 39 = some (.lstore 10, 0) := by decide +kernel
theorem at_389_41 : am_at (am_m 389) 41 = some (.iload 8, 0) := by decide +kernel
theorem at_389_43 : am_at (am_m 389) 43 = some (.iconst 1, 0) := by decide +kernel
theorem at_389_44 : am_at (am_m 389) 44 = some (.if_icmp .le 23, 67) := by decide +kernel
theorem at_389_47 : am_at (am_m 389) 47 = some (.aload_n 0, 0) := by decide +kernel
theorem at_389_48 : am_at (am_m 389) 48 = some (.iload_n 1, 0) := by decide +kernel
theorem at_389_49 : am_at (am_m 389) 49 = some (.iload_n 2, 0) := by decide +kernel
theorem at_389_50 : am_at (am_m 389) 50 = some (.iconst 1, 0) := by decide +kernel
theorem at_389_51 : am_at (am_m 389) 51 = some (.invokestatic 594, 381) := by decide +kernel
theorem at_389_54 : am_at (am_m 389) 54 = some (.iload_n 2, 0) := by decide +kernel
theorem at_389_55 : am_at (am_m 389) 55 = some (.iconst 1, 0) := by decide +kernel
theorem at_389_56 : am_at (am_m 389) 56 = some (.invokestatic 597, 382) := by decide +kernel
theorem at_389_59 : am_at (am_m 389) 59 = some (.iload 5, 0) := by decide +kernel
theorem at_389_61 : am_at (am_m 389) 61 = some (.invokevirtual 600, 383) := by decide +kernel
theorem at_389_64 : am_at (am_m 389) 64 = some (.goto 4, 68) := by decide +kernel
theorem at_389_67 : am_at (am_m 389) 67 = some (.lconst 1, 0) := by decide +kernel
theorem at_389_68 : am_at (am_m 389) 68 = some (.lstore 12, 0) := by decide +kernel
theorem at_389_70 : am_at (am_m 389) 70 = some (.iload 8, 0) := by decide +kernel
theorem at_389_72 : am_at (am_m 389) 72 = some (.iconst 2, 0) := by decide +kernel
theorem at_389_73 : am_at (am_m 389) 73 = some (.if_icmp .le 20, 93) := by decide +kernel
theorem at_389_76 : am_at (am_m 389) 76 = some (.aload_n 0, 0) := by decide +kernel
theorem at_389_77 : am_at (am_m 389) 77 = some (.iload_n 1, 0) := by decide +kernel
theorem at_389_78 : am_at (am_m 389) 78 = some (.iload_n 2, 0) := by decide +kernel
theorem at_389_79 : am_at (am_m 389) 79 = some (.iconst 2, 0) := by decide +kernel
theorem at_389_80 : am_at (am_m 389) 80 = some (.invokestatic 597, 382) := by decide +kernel
theorem at_389_83 : am_at (am_m 389) 83 = some (.iload 9, 0) := by decide +kernel
theorem at_389_85 : am_at (am_m 389) 85 = some (.lload 6, 0) := by decide +kernel
theorem at_389_87 : am_at (am_m 389) 87 = some (.lload 10, 0) := by decide +kernel
theorem at_389_89 : am_at (am_m 389) 89 = some (.lrem, 0) := by decide +kernel
theorem at_389_90 : am_at (am_m 389) 90 = some (.invokevirtual 619, 387) := by decide +kernel
theorem at_389_93 : am_at (am_m 389) 93 = some (.iload 8, 0) := by decide +kernel
theorem at_389_95 : am_at (am_m 389) 95 = some (.iconst 1, 0) := by decide +kernel
theorem at_389_96 : am_at (am_m 389) 96 = some (.if_icmp .le 28, 124) := by decide +kernel
theorem at_389_99 : am_at (am_m 389) 99 = some (.aload_n 0, 0) := by decide +kernel
theorem at_389_100 : am_at (am_m 389) 100 = some (.iload_n 1, 0) := by decide +kernel
theorem at_389_101 : am_at (am_m 389) 101 = some (.iload_n 2, 0) := by decide +kernel
theorem at_389_102 : am_at (am_m 389) 102 = some (.iconst 1, 0) := by decide +kernel
theorem at_389_103 : am_at (am_m 389) 103 = some (.invokestatic 594, 381) := by decide +kernel
theorem at_389_106 : am_at (am_m 389) 106 = some (.iload_n 2, 0) := by decide +kernel
theorem at_389_107 : am_at (am_m 389) 107 = some (.iconst 1, 0) := by decide +kernel
theorem at_389_108 : am_at (am_m 389) 108 = some (.invokestatic 597, 382) := by decide +kernel
theorem at_389_111 : am_at (am_m 389) 111 = some (.iload 5, 0) := by decide +kernel
theorem at_389_113 : am_at (am_m 389) 113 = some (.lload 6, 0) := by decide +kernel
theorem at_389_115 : am_at (am_m 389) 115 = some (.lload 10, 0) := by decide +kernel
theorem at_389_117 : am_at (am_m 389) 117 = some (.ldiv, 0) := by decide +kernel
theorem at_389_118 : am_at (am_m 389) 118 = some (.lload 12, 0) := by decide +kernel
theorem at_389_120 : am_at (am_m 389) 120 = some (.lrem, 0) := by decide +kernel
theorem at_389_121 : am_at (am_m 389) 121 = some (.invokevirtual 619, 387) := by decide +kernel
theorem at_389_124 : am_at (am_m 389) 124 = some (.aload_n 0, 0) := by decide +kernel
theorem at_389_125 : am_at (am_m 389) 125 = some (.iload_n 1, 0) := by decide +kernel
theorem at_389_126 : am_at (am_m 389) 126 = some (.iload_n 2, 0) := by decide +kernel
theorem at_389_127 : am_at (am_m 389) 127 = some (.iconst 0, 0) := by decide +kernel
theorem at_389_128 : am_at (am_m 389) 128 = some (.invokestatic 594, 381) := by decide +kernel
theorem at_389_131 : am_at (am_m 389) 131 = some (.iload_n 2, 0) := by decide +kernel
theorem at_389_132 : am_at (am_m 389) 132 = some (.iconst 0, 0) := by decide +kernel
theorem at_389_133 : am_at (am_m 389) 133 = some (.invokestatic 597, 382) := by decide +kernel
theorem at_389_136 : am_at (am_m 389) 136 = some (.iload 4, 0) := by decide +kernel
theorem at_389_138 : am_at (am_m 389) 138 = some (.lload 6, 0) := by decide +kernel
theorem at_389_140 : am_at (am_m 389) 140 = some (.lload 10, 0) := by decide +kernel
theorem at_389_142 : am_at (am_m 389) 142 = some (.ldiv, 0) := by decide +kernel
theorem at_389_143 : am_at (am_m 389) 143 = some (.lload 12, 0) := by decide +kernel
theorem at_389_145 : am_at (am_m 389) 145 = some (.ldiv, 0) := by decide +kernel
theorem at_389_146 : am_at (am_m 389) 146 = some (.invokevirtual 619, 387) := by decide +kernel
theorem at_389_149 : am_at (am_m 389) 149 = some (.return_, 0) := by decide +kernel
theorem at_390_0 : am_at (am_m 390) 0 = some (.aload_n 0, 0) := by decide +kernel
theorem at_390_1 : am_at (am_m 390) 1 = some (.aload_n 0, 0) := by decide +kernel
theorem at_390_2 : am_at (am_m 390) 2 = some (.iload_n 1, 0) := by decide +kernel
theorem at_390_3 : am_at (am_m 390) 3 = some (.invokevirtual 568, 358) := by decide +kernel
theorem at_390_6 : am_at (am_m 390) 6 = some (.ifCond .ne 7, 13) := by decide +kernel
theorem at_390_9 : am_at (am_m 390) 9 = some (.iconst 1, 0) := by decide +kernel
theorem at_390_10 : am_at (am_m 390) 10 = some (.goto 52, 62) := by decide +kernel
theorem at_390_13 : am_at (am_m 390) 13 = some (.aload_n 0, 0) := by decide +kernel
theorem at_390_14 : am_at (am_m 390) 14 = some (.getfield 7, 3074) := by decide +kernel
theorem at_390_17 : am_at (am_m 390) 17 = some (.aload_n 0, 0) := by decide +kernel
theorem at_390_18 : am_at (am_m 390) 18 = some (.iload_n 1, 0) := by decide +kernel
theorem at_390_19 : am_at (am_m 390) 19 = some (.invokevirtual 568, 358) := by decide +kernel
theorem at_390_22 : am_at (am_m 390) 22 = some (.ifCond .eq 7, 29) := by decide +kernel
theorem at_390_25 : am_at (am_m 390) 25 = some (.iload_n 1, 0) := by decide +kernel
theorem at_390_26 : am_at (am_m 390) 26 = some (.goto 4, 30) := by decide +kernel
theorem at_390_29 : am_at (am_m 390) 29 = some (.iconst 0, 0) := by decide +kernel
theorem at_390_30 : am_at (am_m 390) 30 = some (.iaload, 0) := by decide +kernel
theorem at_390_31 : am_at (am_m 390) 31 = some (.ifCond .ne 26, 57) := by decide +kernel
theorem at_390_34 : am_at (am_m 390) 34 = some (.aload_n 0, 0) := by decide +kernel
theorem at_390_35 : am_at (am_m 390) 35 = some (.getfield 13, 3075) := by decide +kernel
theorem at_390_38 : am_at (am_m 390) 38 = some (.aload_n 0, 0) := by decide +kernel
theorem at_390_39 : am_at (am_m 390) 39 = some (.iload_n 1, 0) := by decide +kernel
theorem at_390_40 : am_at (am_m 390) 40 = some (.invokevirtual 568, 358) := by decide +kernel
theorem at_390_43 : am_at (am_m 390) 43 = some (.ifCond .eq 7, 50) := by decide +kernel
theorem at_390_46 : am_at (am_m 390) 46 = some (.iload_n 1, 0) := by decide +kernel
theorem at_390_47 : am_at (am_m 390) 47 = some (.goto 4, 51) := by decide +kernel
theorem at_390_50 : am_at (am_m 390) 50 = some (.iconst 0, 0) := by decide +kernel
theorem at_390_51 : am_at (am_m 390) 51 = some (.iaload, 0) := by decide +kernel
theorem at_390_52 : am_at (am_m 390) 52 = some (.bipush 12, 0) := by decide +kernel
theorem at_390_54 : am_at (am_m 390) 54 = some (.if_icmp .le 7, 61) := by decide +kernel
theorem at_390_57 : am_at (am_m 390) 57 = some (.iconst 2, 0) := by decide +kernel
theorem at_390_58 : am_at (am_m 390) 58 = some (.goto 4, 62) := by decide +kernel
theorem at_390_61 : am_at (am_m 390) 61 = some (.iconst 0, 0) := by decide +kernel
theorem at_390_62 : am_at (am_m 390) 62 = some (.putfield 292, 3072) := by decide +kernel
theorem at_390_65 : am_at (am_m 390) 65 = some (.aload_n 0, 0) := by decide +kernel
theorem at_390_66 : am_at (am_m 390) 66 = some (.getfield 292, 3072) := by decide +kernel
theorem at_390_69 : am_at (am_m 390) 69 = some (.ifCond .le 5, 74) := by decide +kernel
theorem at_390_72 : am_at (am_m 390) 72 = some (.lconst 0, 0) := by decide +kernel
theorem at_390_73 : am_at (am_m 390) 73 = some (.lreturn, 0) := by decide +kernel
theorem at_390_74 : am_at (am_m 390) 74 = some (.aload_n 0, 0) := by decide +kernel
theorem at_390_75 : am_at (am_m 390) 75 = some (.invokevirtual 616, 377) := by decide +kernel
theorem at_390_78 : am_at (am_m 390) 78 = some (.aload_n 0, 0) := by decide +kernel
theorem at_390_79 : am_at (am_m 390) 79 = some (.iload_n 1, 0) := by decide +kernel
theorem at_390_80 : am_at (am_m 390) 80 = some (.invokevirtual 635, 391) := by decide +kernel
theorem at_390_83 : am_at (am_m 390) 83 = some (.iconst 0, 0) := by decide +kernel
theorem at_390_84 : am_at (am_m 390) 84 = some (.istore_n 2, 0) := by decide +kernel
theorem at_390_85 : am_at (am_m 390) 85 = some (.iload_n 2, 0) := by decide +kernel
theorem at_390_86 : am_at (am_m 390) 86 = some (.aload_n 0, 0) := by decide +kernel
theorem at_390_87 : am_at (am_m 390) 87 = some (.getfield 315, 3090) := by decide +kernel
theorem at_390_90 : am_at (am_m 390) 90 = some (.if_icmp .ge 39, 129) := by decide +kernel
theorem at_390_93 : am_at (am_m 390) 93 = some (.aload_n 0, 0) := by decide +kernel
theorem at_390_94 : am_at (am_m 390) 94 = some (.getfield 51, 3093) := by decide +kernel
theorem at_390_97 : am_at (am_m 390) 97 = some (.iload_n 2, 0) := by decide +kernel
theorem at_390_98 : am_at (am_m 390) 98 = some (.iaload, 0) := by decide +kernel
theorem at_390_99 : am_at (am_m 390) 99 = some (.ifCond .ne 24, 123) := by decide +kernel
theorem at_390_102 : am_at (am_m 390) 102 = some (.aload_n 0, 0) := by decide +kernel
theorem at_390_103 : am_at (am_m 390) 103 = some (.getfield 54, 3094) := by decide +kernel
theorem at_390_106 : am_at (am_m 390) 106 = some (.iload_n 2, 0) := by decide +kernel
theorem at_390_107 : am_at (am_m 390) 107 = some (.iaload, 0) := by decide +kernel
theorem at_390_108 : am_at (am_m 390) 108 = some (.i2l, 0) := by decide +kernel
theorem at_390_109 : am_at (am_m 390) 109 = some (.lconst 0, 0) := by decide +kernel
theorem at_390_110 : am_at (am_m 390) 110 = some (.ldc2_w 638, 55) := by decide +kernel
theorem at_390_113 : am_at (am_m 390) 113 = some (.invokestatic 299, 327) := by decide +kernel
theorem at_390_116 : am_at (am_m 390) 116 = some (.ifCond .ne 7, 123) := by decide +kernel
theorem at_390_119 : am_at (am_m 390) 119 = some (.ldc2_w 640, 14) := by decide +kernel
theorem at_390_122 : am_at (am_m 390) 122 = some (.lreturn, 0) := by decide +kernel
theorem at_390_123 : am_at (am_m 390) 123 = some (.iinc 2 1, 0) := by decide +kernel
theorem at_390_126 : am_at (am_m 390) 126 = some (.goto (-41), 85) := by decide +kernel
theorem at_390_129 : am_at (am_m 390) 129 = some (.aload_n 0, 0) := by decide +kernel
theorem at_390_130 : am_at (am_m 390) 130 = some (.getfield 184, 3162) := by decide +kernel
theorem at_390_133 : am_at (am_m 390) 133 = some (.iconst 0, 0) := by decide +kernel
theorem at_390_134 : am_at (am_m 390) 134 = some (.iconst 0, 0) := by decide +kernel
theorem at_390_135 : am_at (am_m 390) 135 = some (.iastore, 0) := by decide +kernel
theorem at_390_136 : am_at (am_m 390) 136 = some (.iconst 0, 0) := by decide +kernel
theorem at_390_137 : am_at (am_m 390) 137 = some (.istore_n 2, 0) := by decide +kernel
theorem at_390_138 : am_at (am_m 390) 138 = some (.iload_n 2, 0) := by decide +kernel
theorem at_390_139 : am_at (am_m 390) 139 = some (.aload_n 0, 0) := by decide +kernel
theorem at_390_140 : am_at (am_m 390) 140 = some (.getfield 315, 3090) := by decide +kernel
theorem at_390_143 : am_at (am_m 390) 143 = some (.if_icmp .ge 57, 200) := by decide +kernel
theorem at_390_146 : am_at (am_m 390) 146 = some (.iconst 0, 0) := by decide +kernel
theorem at_390_147 : am_at (am_m 390) 147 = some (.istore_n 3, 0) := by decide +kernel
theorem at_390_148 : am_at (am_m 390) 148 = some (.iload_n 3, 0) := by decide +kernel
theorem at_390_149 : am_at (am_m 390) 149 = some (.aload_n 0, 0) := by decide +kernel
theorem at_390_150 : am_at (am_m 390) 150 = some (.getfield 51, 3093) := by decide +kernel
theorem at_390_153 : am_at (am_m 390) 153 = some (.iload_n 2, 0) := by decide +kernel
theorem at_390_154 : am_at (am_m 390) 154 = some (.iaload, 0) := by decide +kernel
theorem at_390_155 : am_at (am_m 390) 155 = some (.invokestatic 327, 343) := by decide +kernel
theorem at_390_158 : am_at (am_m 390) 158 = some (.if_icmp .ge 36, 194) := by decide +kernel
theorem at_390_161 : am_at (am_m 390) 161 = some (.aload_n 0, 0) := by decide +kernel
theorem at_390_162 : am_at (am_m 390) 162 = some (.getfield 184, 3162) := by decide +kernel
theorem at_390_165 : am_at (am_m 390) 165 = some (.aload_n 0, 0) := by decide +kernel
theorem at_390_166 : am_at (am_m 390) 166 = some (.iload_n 2, 0) := by decide +kernel
theorem at_390_167 : am_at (am_m 390) 167 = some (.iload_n 3, 0) := by decide +kernel
theorem at_390_168 : am_at (am_m 390) 168 = some (.invokevirtual 642, 393) := by decide +kernel
theorem at_390_171 : am_at (am_m 390) 171 = some (.aload_n 0, 0) := by decide +kernel
theorem at_390_172 : am_at (am_m 390) 172 = some (.getfield 184, 3162) := by decide +kernel
theorem at_390_175 : am_at (am_m 390) 175 = some (.iload_n 2, 0) := by decide +kernel
theorem at_390_176 : am_at (am_m 390) 176 = some (.iaload, 0) := by decide +kernel
theorem at_390_177 : am_at (am_m 390) 177 = some (.aload_n 0, 0) := by decide +kernel
theorem at_390_178 : am_at (am_m 390) 178 = some (.getfield 51, 3093) := by decide +kernel
theorem at_390_181 : am_at (am_m 390) 181 = some (.iload_n 2, 0) := by decide +kernel
theorem at_390_182 : am_at (am_m 390) 182 = some (.iaload, 0) := by decide +kernel
theorem at_390_183 : am_at (am_m 390) 183 = some (.iload_n 3, 0) := by decide +kernel
theorem at_390_184 : am_at (am_m 390) 184 = some (.invokestatic 594, 381) := by decide +kernel
theorem at_390_187 : am_at (am_m 390) 187 = some (.iastore, 0) := by decide +kernel
theorem at_390_188 : am_at (am_m 390) 188 = some (.iinc 3 1, 0) := by decide +kernel
theorem at_390_191 : am_at (am_m 390) 191 = some (.goto (-43), 148) := by decide +kernel
theorem at_390_194 : am_at (am_m 390) 194 = some (.iinc 2 1, 0) := by decide +kernel
theorem at_390_197 : am_at (am_m 390) 197 = some (.goto (-59), 138) := by decide +kernel
theorem at_390_200 : am_at (am_m 390) 200 = some (.aload_n 0, 0) := by decide +kernel
theorem at_390_201 : am_at (am_m 390) 201 = some (.getfield 315, 3090) := by decide +kernel
theorem at_390_204 : am_at (am_m 390) 204 = some (.iconst 1, 0) := by decide +kernel
theorem at_390_205 : am_at (am_m 390) 205 = some (.isub, 0) := by decide +kernel
theorem at_390_206 : am_at (am_m 390) 206 = some (.istore_n 2, 0) := by decide +kernel
theorem at_390_207 : am_at (am_m 390) 207 = some (.iload_n 2, 0) := by decide +kernel
theorem at_390_208 : am_at (am_m 390) 208 = some (.ifCond .lt 20, 228) := by decide +kernel
theorem at_390_211 : am_at (am_m 390) 211 = some (.aload_n 0, 0) := by decide +kernel
theorem at_390_212 : am_at (am_m 390) 212 = some (.getfield 181, 3161) := by decide +kernel
theorem at_390_215 : am_at (am_m 390) 215 = some (.iload_n 2, 0) := by decide +kernel
theorem at_390_216 : am_at (am_m 390) 216 = some (.aload_n 0, 0) := by decide +kernel
theorem at_390_217 : am_at (am_m 390) 217 = some (.iload_n 2, 0) := by decide +kernel
theorem at_390_218 : am_at (am_m 390) 218 = some (.invokevirtual 645, 394) := by decide +kernel
theorem at_390_221 : am_at (am_m 390) 221 = some (.lastore, 0) := by decide +kernel
theorem at_390_222 : am_at (am_m 390) 222 = some (.iinc 2 (-1), 0) := by decide +kernel
theorem at_390_225 : am_at (am_m 390) 225 = some (.goto (-18), 207) := by decide +kernel
theorem at_390_228 : am_at (am_m 390) 228 = some (.aload_n 0, 0) := by decide +kernel
theorem at_390_229 : am_at (am_m 390) 229 = some (.getfield 181, 3161) := by decide +kernel
theorem at_390_232 : am_at (am_m 390) 232 = some (.iconst 0, 0) := by decide +kernel
theorem at_390_233 : am_at (am_m 390) 233 = some (.laload, 0) := by decide +kernel
theorem at_390_234 : am_at (am_m 390) 234 = some (.lreturn, 0) := by decide +kernel
theorem at_391_0 : am_at (am_m 391) 0 = some (.aload_n 0, 0) := by decide +kernel
theorem at_391_1 : am_at (am_m 391) 1 = some (.aload_n 0, 0) := by decide +kernel
theorem at_391_2 : am_at (am_m 391) 2 = some (.getfield 7, 3074) := by decide +kernel
theorem at_391_5 : am_at (am_m 391) 5 = some (.iload_n 1, 0) := by decide +kernel
theorem at_391_6 : am_at (am_m 391) 6 = some (.iaload, 0) := by decide +kernel
theorem at_391_7 : am_at (am_m 391) 7 = some (.putfield 312, 3092) := by decide +kernel
theorem at_391_10 : am_at (am_m 391) 10 = some (.aload_n 0, 0) := by decide +kernel
theorem at_391_11 : am_at (am_m 391) 11 = some (.aload_n 0, 0) := by decide +kernel
theorem at_391_12 : am_at (am_m 391) 12 = some (.getfield 13, 3075) := by decide +kernel
theorem at_391_15 : am_at (am_m 391) 15 = some (.iload_n 1, 0) := by decide +kernel
theorem at_391_16 : am_at (am_m 391) 16 = some (.iaload, 0) := by decide +kernel
theorem at_391_17 : am_at (am_m 391) 17 = some (.putfield 315, 3090) := by decide +kernel
theorem at_391_20 : am_at (am_m 391) 20 = some (.aload_n 0, 0) := by decide +kernel
theorem at_391_21 : am_at (am_m 391) 21 = some (.aload_n 0, 0) := by decide +kernel
theorem at_391_22 : am_at (am_m 391) 22 = some (.getfield 16, 3076) := by decide +kernel
theorem at_391_25 : am_at (am_m 391) 25 = some (.iload_n 1, 0) := by decide +kernel
theorem at_391_26 : am_at (am_m 391) 26 = some (.iaload, 0) := by decide +kernel
theorem at_391_27 : am_at (am_m 391) 27 = some (.putfield 318, 3091) := by decide +kernel
theorem at_391_30 : am_at (am_m 391) 30 = some (.iconst 0, 0) := by decide +kernel
theorem at_391_31 : am_at (am_m 391) 31 = some (.istore_n 2, 0) := by decide +kernel
theorem at_391_32 : am_at (am_m 391) 32 = some (.iload_n 2, 0) := by decide +kernel
theorem at_391_33 : am_at (am_m 391) 33 = some (.aload_n 0, 0) := by decide +kernel
theorem at_391_34 : am_at (am_m 391) 34 = some (.getfield 315, 3090) := by decide +kernel
theorem at_391_37 : am_at (am_m 391) 37 = some (.if_icmp .ge 43, 80) := by decide +kernel
theorem at_391_40 : am_at (am_m 391) 40 = some (.aload_n 0, 0) := by decide +kernel
theorem at_391_41 : am_at (am_m 391) 41 = some (.getfield 51, 3093) := by decide +kernel
theorem at_391_44 : am_at (am_m 391) 44 = some (.iload_n 2, 0) := by decide +kernel
theorem at_391_45 : am_at (am_m 391) 45 = some (.aload_n 0, 0) := by decide +kernel
theorem at_391_46 : am_at (am_m 391) 46 = some (.getfield 39, 3083) := by decide +kernel
theorem at_391_49 : am_at (am_m 391) 49 = some (.bipush 60, 0) := by decide +kernel
theorem at_391_51 : am_at (am_m 391) 51 = some (.iload_n 1, 0) := by decide +kernel
theorem at_391_52 : am_at (am_m 391) 52 = some (.imul, 0) := by decide +kernel
theorem at_391_53 : am_at (am_m 391) 53 = some (.iload_n 2, 0) := by decide +kernel
theorem at_391_54 : am_at (am_m 391) 54 = some (.iadd, 0) := by decide +kernel
theorem at_391_55 : am_at (am_m 391) 55 = some (.iaload, 0) := by decide +kernel
theorem at_391_56 : am_at (am_m 391) 56 = some (.iastore, 0) := by decide +kernel
theorem at_391_57 : am_at (am_m 391) 57 = some (.aload_n 0, 0) := by decide +kernel
theorem at_391_58 : am_at (am_m 391) 58 = some (.getfield 54, 3094) := by decide +kernel
theorem at_391_61 : am_at (am_m 391) 61 = some (.iload_n 2, 0) := by decide +kernel
theorem at_391_62 : am_at (am_m 391) 62 = some (.aload_n 0, 0) := by decide +kernel
theorem at_391_63 : am_at (am_m 391) 63 = some (.getfield 42, 3084) := by decide +kernel
theorem at_391_66 : am_at (am_m 391) 66 = some (.bipush 60, 0) := by decide +kernel
theorem at_391_68 : am_at (am_m 391) 68 = some (.iload_n 1, 0) := by decide +kernel
theorem at_391_69 : am_at (am_m 391) 69 = some (.imul, 0) := by decide +kernel
theorem at_391_70 : am_at (am_m 391) 70 = some (.iload_n 2, 0) := by decide +kernel
theorem at_391_71 : am_at (am_m 391) 71 = some (.iadd, 0) := by decide +kernel
theorem at_391_72 : am_at (am_m 391) 72 = some (.iaload, 0) := by decide +kernel
theorem at_391_73 : am_at (am_m 391) 73 = some (.iastore, 0) := by decide +kernel
theorem at_391_74 : am_at (am_m 391) 74 = some (.iinc 2 1, 0) := by decide +kernel
theorem at_391_77 : am_at (am_m 391) 77 = some (.goto (-45), 32) := by decide +kernel
theorem at_391_80 : am_at (am_m 391) 80 = some (.aload_n 0, 0) := by decide +kernel
theorem at_391_81 : am_at (am_m 391) 81 = some (.getfield 312, 3092) := by decide +kernel
theorem at_391_84 : am_at (am_m 391) 84 = some (.ifCond .ne 7, 91) := by decide +kernel
theorem at_391_87 : am_at (am_m 391) 87 = some (.aload_n 0, 0) := by decide +kernel
theorem at_391_88 : am_at (am_m 391) 88 = some (.invokevirtual 321, 392) := by decide +kernel
theorem at_391_91 : am_at (am_m 391) 91 = some (.return_, 0) := by decide +kernel
theorem at_392_0 : am_at (am_m 392) 0 = some (.aload_n 0, 0) := by decide +kernel
theorem at_392_1 : am_at (am_m 392) 1 = some (.getfield 315, 3090) := by decide +kernel
theorem at_392_4 : am_at (am_m 392) 4 = some (.iconst 1, 0) := by decide +kernel
theorem at_392_5 : am_at (am_m 392) 5 = some (.isub, 0) := by decide +kernel
theorem at_392_6 : am_at (am_m 392) 6 = some (.istore_n 1, 0) := by decide +kernel
theorem at_392_7 : am_at (am_m 392) 7 = some (.iload_n 1, 0) := by decide +kernel
theorem at_392_8 : am_at (am_m 392) 8 = some (.ifCond .lt 50, 58) := by decide +kernel
theorem at_392_11 : am_at (am_m 392) 11 = some (.iconst 1, 0) := by decide +kernel
theorem at_392_12 : am_at (am_m 392) 12 = some (.istore_n 2, 0) := by decide +kernel
theorem at_392_13 : am_at (am_m 392) 13 = some (.iconst 0, 0) := by decide +kernel
theorem at_392_14 : am_at (am_m 392) 14 = some (.istore_n 3, 0) := by decide +kernel
theorem at_392_15 : am_at (am_m 392) 15 = some (.iload_n 3, 0) := by decide +kernel
theorem at_392_16 : am_at (am_m 392) 16 = some (.aload_n 0, 0) := by decide +kernel
theorem at_392_17 : am_at (am_m 392) 17 = some (.getfield 51, 3093) := by decide +kernel
theorem at_392_20 : am_at (am_m 392) 20 = some (.iload_n 1, 0) := by decide +kernel
theorem at_392_21 : am_at (am_m 392) 21 = some (.iaload, 0) := by decide +kernel
theorem at_392_22 : am_at (am_m 392) 22 = some (.invokestatic 327, 343) := by decide +kernel
theorem at_392_25 : am_at (am_m 392) 25 = some (.if_icmp .ge 20, 45) := by decide +kernel
theorem at_392_28 : am_at (am_m 392) 28 = some (.iload_n 2, 0) := by decide +kernel
theorem at_392_29 : am_at (am_m 392) 29 = some (.aload_n 0, 0) := by decide +kernel
theorem at_392_30 : am_at (am_m 392) 30 = some (.getfield 63, 3098) := by decide +kernel
theorem at_392_33 : am_at (am_m 392) 33 = some (.iload_n 1, 0) := by decide +kernel
theorem at_392_34 : am_at (am_m 392) 34 = some (.iload_n 2, 0) := by decide +kernel
theorem at_392_35 : am_at (am_m 392) 35 = some (.iadd, 0) := by decide +kernel
theorem at_392_36 : am_at (am_m 392) 36 = some (.iaload, 0) := by decide +kernel
theorem at_392_37 : am_at (am_m 392) 37 = some (.iadd, 0) := by decide +kernel
theorem at_392_38 : am_at (am_m 392) 38 = some (.istore_n 2, 0) := by decide +kernel
theorem at_392_39 : am_at (am_m 392) 39 = some (.iinc 3 1, 0) := by decide +kernel
theorem at_392_42 : am_at (am_m 392) 42 = some (.goto (-27), 15) := by decide +kernel
theorem at_392_45 : am_at (am_m 392) 45 = some (.aload_n 0, 0) := by decide +kernel
theorem at_392_46 : am_at (am_m 392) 46 = some (.getfield 63, 3098) := by decide +kernel
theorem at_392_49 : am_at (am_m 392) 49 = some (.iload_n 1, 0) := by decide +kernel
theorem at_392_50 : am_at (am_m 392) 50 = some (.iload_n 2, 0) := by decide +kernel
theorem at_392_51 : am_at (am_m 392) 51 = some (.iastore, 0) := by decide +kernel
theorem at_392_52 : am_at (am_m 392) 52 = some (.iinc 1 (-1), 0) := by decide +kernel
theorem at_392_55 : am_at (am_m 392) 55 = some (.goto (-48), 7) := by decide +kernel
theorem at_392_58 : am_at (am_m 392) 58 = some (.return_, 0) := by decide +kernel
theorem at_393_0 : am_at (am_m 393) 0 = some (.iload_n 1, 0) := by decide +kernel
theorem at_393_1 : am_at (am_m 393) 1 = some (.iconst 1, 0) := by decide +kernel
theorem at_393_2 : am_at (am_m 393) 2 = some (.iadd, 0) := by decide +kernel
theorem at_393_3 : am_at (am_m 393) 3 = some (.istore_n 3, 0) := by decide +kernel
theorem at_393_4 : am_at (am_m 393) 4 = some (.iconst 0, 0) := by decide +kernel
theorem at_393_5 : am_at (am_m 393) 5 = some (.istore 4, 0) := by decide +kernel
theorem at_393_7 : am_at (am_m 393) 7 = some (.iload 4, 0) := by decide +kernel
theorem at_393_9 : am_at (am_m 393) 9 = some (.iload_n 2, 0) := by decide +kernel
theorem at_393_10 : am_at (am_m 393) 10 = some (.if_icmp .ge 18, 28) := by decide +kernel
theorem at_393_13 : am_at (am_m 393) 13 = some (.iload_n 3, 0) := by decide +kernel
theorem at_393_14 : am_at (am_m 393) 14 = some (.aload_n 0, 0) := by decide +kernel
theorem at_393_15 : am_at (am_m 393) 15 = some (.getfield 63, 3098) := by decide +kernel
theorem at_393_18 : am_at (am_m 393) 18 = some (.iload_n 3, 0) := by decide +kernel
theorem at_393_19 : am_at (am_m 393) 19 = some (.iaload, 0) := by decide +kernel
theorem at_393_20 : am_at (am_m 393) 20 = some (.iadd, 0) := by decide +kernel
theorem at_393_21 : am_at (am_m 393) 21 = some (.istore_n 3, 0) := by decide +kernel
theorem at_393_22 : am_at (am_m 393) 22 = some (.iinc 4 1, 0) := by decide +kernel
theorem at_393_25 : am_at (am_m 393) 25 = some (.goto (-18), 7) := by decide +kernel
theorem at_393_28 : am_at (am_m 393) 28 = some (.iload_n 3, 0) := by decide +kernel
theorem at_393_29 : am_at (am_m 393) 29 = some (.ireturn, 0) := by decide +kernel
theorem at_394_0 : am_at (am_m 394) 0 = some (.aload_n 0, 0) := by decide +kernel
theorem at_394_1 : am_at (am_m 394) 1 = some (.getfield 51, 3093) := by decide +kernel
theorem at_394_4 : am_at (am_m 394) 4 = some (.iload_n 1, 0) := by decide +kernel
theorem at_394_5 : am_at (am_m 394) 5 = some (.iaload, 0) := by decide +kernel
theorem at_394_6 : am_at (am_m 394) 6 = some (.istore_n 2, 0) := by decide +kernel
theorem at_394_7 : am_at (am_m 394) 7 = some (.aload_n 0, 0) := by decide +kernel
theorem at_394_8 : am_at (am_m 394) 8 = some (.getfield 184, 3162) := by decide +kernel
theorem at_394_11 : am_at (am_m 394) 11 = some (.iload_n 1, 0) := by decide +kernel
theorem at_394_12 : am_at (am_m 394) 12 = some (.iaload, 0) := by decide +kernel
theorem at_394_13 : am_at (am_m 394) 13 = some (.istore_n 3, 0) := by decide +kernel
theorem at_394_14 : am_at (am_m 394) 14 = some (.aload_n 0, 0) := by decide +kernel
theorem at_394_15 : am_at (am_m 394) 15 = some (.getfield 63, 3098) := by decide +kernel
theorem at_394_18 : am_at (am_m 394) 18 = some (.iload_n 1, 0) := by decide +kernel
theorem at_394_19 : am_at (am_m 394) 19 = some (.iaload, 0) := by decide +kernel
theorem at_394_20 : am_at (am_m 394) 20 = some (.istore 4, 0) := by decide +kernel
theorem at_394_22 : am_at (am_m 394) 22 = some (.iload_n 2, 0) := by decide +kernel
theorem at_394_23 : am_at (am_m 394) 23 = some (.ifCond .ne 13, 36) := by decide +kernel
theorem at_394_26 : am_at (am_m 394) 26 = some (.aload_n 0, 0) := by decide +kernel
theorem at_394_27 : am_at (am_m 394) 27 = some (.getfield 54, 3094) := by decide +kernel
theorem at_394_30 : am_at (am_m 394) 30 = some (.iload_n 1, 0) := by decide +kernel
theorem at_394_31 : am_at (am_m 394) 31 = some (.iaload, 0) := by decide +kernel
theorem at_394_32 : am_at (am_m 394) 32 = some (.i2l, 0) := by decide +kernel
theorem at_394_33 : am_at (am_m 394) 33 = some (.goto 4, 37) := by decide +kernel
theorem at_394_36 : am_at (am_m 394) 36 = some (.lconst 0, 0) := by decide +kernel
theorem at_394_37 : am_at (am_m 394) 37 = some (.lstore 5, 0) := by decide +kernel
theorem at_394_39 : am_at (am_m 394) 39 = some (.iconst 0, 0) := by decide +kernel
theorem at_394_40 : am_at (am_m 394) 40 = some (.istore 7, 0) := by decide +kernel
theorem at_394_42 : am_at (am_m 394) 42 = some (.iload 7, 0) := by decide +kernel
theorem at_394_44 : am_at (am_m 394) 44 = some (.iload_n 2, 0) := by decide +kernel
theorem at_394_45 : am_at (am_m 394) 45 = some (.if_icmp .ge 39, 84) := by decide +kernel
theorem at_394_48 : am_at (am_m 394) 48 = some (.lload 5, 0) := by decide +kernel
theorem at_394_50 : am_at (am_m 394) 50 = some (.iload 7, 0) := by decide +kernel
theorem at_394_52 : am_at (am_m 394) 52 = some (.invokestatic 338, 334) := by decide +kernel
theorem at_394_55 : am_at (am_m 394) 55 = some (.iload_n 2, 0) := by decide +kernel
theorem at_394_56 : am_at (am_m 394) 56 = some (.invokestatic 338, 334) := by decide +kernel
theorem at_394_59 : am_at (am_m 394) 59 = some (.if_icmp .ne 15, 74) := by decide +kernel
theorem at_394_62 : am_at (am_m 394) 62 = some (.aload_n 0, 0) := by decide +kernel
theorem at_394_63 : am_at (am_m 394) 63 = some (.iload_n 3, 0) := by decide +kernel
theorem at_394_64 : am_at (am_m 394) 64 = some (.iload 7, 0) := by decide +kernel
theorem at_394_66 : am_at (am_m 394) 66 = some (.iload 4, 0) := by decide +kernel
theorem at_394_68 : am_at (am_m 394) 68 = some (.invokevirtual 610, 384) := by decide +kernel
theorem at_394_71 : am_at (am_m 394) 71 = some (.goto 4, 75) := by decide +kernel
theorem at_394_74 : am_at (am_m 394) 74 = some (.lconst 0, 0) := by decide +kernel
theorem at_394_75 : am_at (am_m 394) 75 = some (.ladd, 0) := by decide +kernel
theorem at_394_76 : am_at (am_m 394) 76 = some (.lstore 5, 0) := by decide +kernel
theorem at_394_78 : am_at (am_m 394) 78 = some (.iinc 7 1, 0) := by decide +kernel
theorem at_394_81 : am_at (am_m 394) 81 = some (.goto (-39), 42) := by decide +kernel
theorem at_394_84 : am_at (am_m 394) 84 = some (.iload_n 2, 0) := by decide +kernel
theorem at_394_85 : am_at (am_m 394) 85 = some (.invokestatic 327, 343) := by decide +kernel
theorem at_394_88 : am_at (am_m 394) 88 = some (.istore 7, 0) := by decide +kernel
theorem at_394_90 : am_at (am_m 394) 90 = some (.iload 7, 0) := by decide +kernel
theorem at_394_92 : am_at (am_m 394) 92 = some (.ifCond .ne 6, 98) := by decide +kernel
theorem at_394_95 : am_at (am_m 394) 95 = some (.lload 5, 0) := by decide +kernel
theorem at_394_97 : am_at (am_m 394) 97 = some (.lreturn, 0) := by decide +kernel
theorem at_394_98 : am_at (am_m 394) 98 = some (.aload_n 0, 0) := by decide +kernel
theorem at_394_99 : am_at (am_m 394) 99 = some (.getfield 63, 3098) := by decide +kernel
theorem at_394_102 : am_at (am_m 394) 102 = some (.iload_n 1, 0) := by decide +kernel
theorem at_394_103 : am_at (am_m 394) 103 = some (.iconst 1, 0) := by decide +kernel
theorem at_394_104 : am_at (am_m 394) 104 = some (.iadd, 0) := by decide +kernel
theorem at_394_105 : am_at (am_m 394) 105 = some (.iaload, 0) := by decide +kernel
theorem at_394_106 : am_at (am_m 394) 106 = some (.istore 8, 0) := by decide +kernel
theorem at_394_108 : am_at (am_m 394) 108 = some (.iload 7, 0) := by decide +kernel
theorem at_394_110 : am_at (am_m 394) 110 = some (.iconst 1, 0) := by decide +kernel
theorem at_394_111 : am_at (am_m 394) 111 = some (.if_icmp .le 17, 128) := by decide +kernel
theorem at_394_114 : am_at (am_m 394) 114 = some (.aload_n 0, 0) := by decide +kernel
theorem at_394_115 : am_at (am_m 394) 115 = some (.getfield 63, 3098) := by decide +kernel
theorem at_394_118 : am_at (am_m 394) 118 = some (.aload_n 0, 0) := by decide +kernel
theorem at_394_119 : am_at (am_m 394) 119 = some (.iload_n 1, 0) := by decide +kernel
theorem at_394_120 : am_at (am_m 394) 120 = some (.iconst 1, 0) := by decide +kernel
theorem at_394_121 : am_at (am_m 394) 121 = some (.invokevirtual 642, 393) := by decide +kernel
theorem at_394_124 : am_at (am_m 394) 124 = some (.iaload, 0) := by decide +kernel
theorem at_394_125 : am_at (am_m 394) 125 = some (.goto 4, 129) := by decide +kernel
theorem at_394_128 : am_at (am_m 394) 128 = some (.iconst 0, 0) := by decide +kernel
theorem at_394_129 : am_at (am_m 394) 129 = some (.istore 9, 0) := by decide +kernel
theorem at_394_131 : am_at (am_m 394) 131 = some (.iconst 1, 0) := by decide +kernel
theorem at_394_132 : am_at (am_m 394) 132 = some (.istore 10, 0) := by decide +kernel
theorem at_394_134 : am_at (am_m 394) 134 = some (.iload 10, 0) := by decide +kernel
theorem at_394_136 : am_at (am_m 394) 136 = some (.iload 8, 0) := by decide +kernel
theorem at_394_138 : am_at (am_m 394) 138 = some (.if_icmp .gt 79, 217) := by decide +kernel
theorem at_394_141 : am_at (am_m 394) 141 = some (.iload 7, 0) := by decide +kernel
theorem at_394_143 : am_at (am_m 394) 143 = some (.iconst 1, 0) := by decide +kernel
theorem at_394_144 : am_at (am_m 394) 144 = some (.if_icmp .le 7, 151) := by decide +kernel
theorem at_394_147 : am_at (am_m 394) 147 = some (.iconst 1, 0) := by decide +kernel
theorem at_394_148 : am_at (am_m 394) 148 = some (.goto 4, 152) := by decide +kernel
theorem at_394_151 : am_at (am_m 394) 151 = some (.iconst 0, 0) := by decide +kernel
theorem at_394_152 : am_at (am_m 394) 152 = some (.istore 11, 0) := by decide +kernel
theorem at_394_154 : am_at (am_m 394) 154 = some (.iload 11, 0) := by decide +kernel
theorem at_394_156 : am_at (am_m 394) 156 = some (.iload 7, 0) := by decide +kernel
theorem at_394_158 : am_at (am_m 394) 158 = some (.iconst 1, 0) := by decide +kernel
theorem at_394_159 : am_at (am_m 394) 159 = some (.if_icmp .le 8, 167) := by decide +kernel
theorem at_394_162 : am_at (am_m 394) 162 = some (.iload 4, 0) := by decide +kernel
theorem at_394_164 : am_at (am_m 394) 164 = some (.goto 4, 168) := by decide +kernel
theorem at_394_167 : am_at (am_m 394) 167 = some (.iconst 1, 0) := by decide +kernel
theorem at_394_168 : am_at (am_m 394) 168 = some (.if_icmp .ge 43, 211) := by decide +kernel
theorem at_394_171 : am_at (am_m 394) 171 = some (.iload 10, 0) := by decide +kernel
theorem at_394_173 : am_at (am_m 394) 173 = some (.iload 8, 0) := by decide +kernel
theorem at_394_175 : am_at (am_m 394) 175 = some (.if_icmp .ne 13, 188) := by decide +kernel
theorem at_394_178 : am_at (am_m 394) 178 = some (.iload 11, 0) := by decide +kernel
theorem at_394_180 : am_at (am_m 394) 180 = some (.iload 9, 0) := by decide +kernel
theorem at_394_182 : am_at (am_m 394) 182 = some (.if_icmp .lt 6, 188) := by decide +kernel
theorem at_394_185 : am_at (am_m 394) 185 = some (.goto 26, 211) := by decide +kernel
theorem at_394_188 : am_at (am_m 394) 188 = some (.lload 5, 0) := by decide +kernel
theorem at_394_190 : am_at (am_m 394) 190 = some (.aload_n 0, 0) := by decide +kernel
theorem at_394_191 : am_at (am_m 394) 191 = some (.iload_n 3, 0) := by decide +kernel
theorem at_394_192 : am_at (am_m 394) 192 = some (.iload_n 2, 0) := by decide +kernel
theorem at_394_193 : am_at (am_m 394) 193 = some (.iload 4, 0) := by decide +kernel
theorem at_394_195 : am_at (am_m 394) 195 = some (.iload 10, 0) := by decide +kernel
theorem at_394_197 : am_at (am_m 394) 197 = some (.iload 11, 0) := by decide +kernel
theorem at_394_199 : am_at (am_m 394) 199 = some (.invokevirtual 590, 380) := by decide +kernel
theorem at_394_202 : am_at (am_m 394) 202 = some (.ladd, 0) := by decide +kernel
theorem at_394_203 : am_at (am_m 394) 203 = some (.lstore 5, 0) := by decide +kernel
theorem at_394_205 : am_at (am_m 394) 205 = some (.iinc 11 1, 0) := by decide +kernel
theorem at_394_208 : am_at (am_m 394) 208 = some (.goto (-54), 154) := by decide +kernel
theorem at_394_211 : am_at (am_m 394) 211 = some (.iinc 10 1, 0) := by decide +kernel
theorem at_394_214 : am_at (am_m 394) 214 = some (.goto (-80), 134) := by decide +kernel
theorem at_394_217 : am_at (am_m 394) 217 = some (.iload 7, 0) := by decide +kernel
theorem at_394_219 : am_at (am_m 394) 219 = some (.iconst 2, 0) := by decide +kernel
theorem at_394_220 : am_at (am_m 394) 220 = some (.if_icmp .le 27, 247) := by decide +kernel
theorem at_394_223 : am_at (am_m 394) 223 = some (.aload_n 0, 0) := by decide +kernel
theorem at_394_224 : am_at (am_m 394) 224 = some (.iload_n 3, 0) := by decide +kernel
theorem at_394_225 : am_at (am_m 394) 225 = some (.iload_n 2, 0) := by decide +kernel
theorem at_394_226 : am_at (am_m 394) 226 = some (.iconst 2, 0) := by decide +kernel
theorem at_394_227 : am_at (am_m 394) 227 = some (.invokestatic 597, 382) := by decide +kernel
theorem at_394_230 : am_at (am_m 394) 230 = some (.aload_n 0, 0) := by decide +kernel
theorem at_394_231 : am_at (am_m 394) 231 = some (.getfield 63, 3098) := by decide +kernel
theorem at_394_234 : am_at (am_m 394) 234 = some (.aload_n 0, 0) := by decide +kernel
theorem at_394_235 : am_at (am_m 394) 235 = some (.iload_n 1, 0) := by decide +kernel
theorem at_394_236 : am_at (am_m 394) 236 = some (.iconst 2, 0) := by decide +kernel
theorem at_394_237 : am_at (am_m 394) 237 = some (.invokevirtual 642, 393) := by decide +kernel
theorem at_394_240 : am_at (am_m 394) 240 = some (.iaload, 0) := by decide +kernel
theorem at_394_241 : am_at (am_m 394) 241 = some (.invokevirtual 600, 383) := by decide +kernel
theorem at_394_244 : am_at (am_m 394) 244 = some (.goto 4, 248) := by decide +kernel
theorem at_394_247 : am_at (am_m 394) 247 = some (.lconst 1, 0) := by decide +kernel
theorem at_394_248 : am_at (am_m 394) 248 = some (.lstore 10, 0) := by decide +kernel
theorem at_394_250 : am_at (am_m 394) 250 = some (.iload 7, 0) := by decide +kernel
theorem at_394_252 : am_at (am_m 394) 252 = some (.iconst 1, 0) := by decide +kernel
theorem at_394_253 : am_at (am_m 394) 253 = some (.if_icmp .le 23, 276) := by decide +kernel
theorem at_394_256 : am_at (am_m 394) 256 = some (.aload_n 0, 0) := by decide +kernel
theorem at_394_257 : am_at (am_m 394) 257 = some (.iload_n 3, 0) := by decide +kernel
theorem at_394_258 : am_at (am_m 394) 258 = some (.iload_n 2, 0) := by decide +kernel
theorem at_394_259 : am_at (am_m 394) 259 = some (.iconst 1, 0) := by decide +kernel
theorem at_394_260 : am_at (am_m 394) 260 = some (.invokestatic 594, 381) := by decide +kernel
theorem at_394_263 : am_at (am_m 394) 263 = some (.iload_n 2, 0) := by decide +kernel
theorem at_394_264 : am_at (am_m 394) 264 = some (.iconst 1, 0) := by decide +kernel
theorem at_394_265 : am_at (am_m 394) 265 = some (.invokestatic 597, 382) := by decide +kernel
theorem at_394_268 : am_at (am_m 394) 268 = some (.iload 9, 0) := by decide +kernel
theorem at_394_270 : am_at (am_m 394) 270 = some (.invokevirtual 600, 383) := by decide +kernel
theorem at_394_273 : am_at (am_m 394) 273 = some (.goto 4, 277) := by decide +kernel
theorem at_394_276 : am_at (am_m 394) 276 = some (.lconst 1, 0) := by decide +kernel
theorem at_394_277 : am_at (am_m 394) 277 = some (.lstore 12, 0) := by decide +kernel
theorem at_394_279 : am_at (am_m 394) 279 = some (.lload 5, 0) := by decide +kernel
theorem at_394_281 : am_at (am_m 394) 281 = some (.aload_n 0, 0) := by decide +kernel
theorem at_394_282 : am_at (am_m 394) 282 = some (.getfield 181, 3161) := by decide +kernel
theorem at_394_285 : am_at (am_m 394) 285 = some (.iload_n 1, 0) := by decide +kernel
theorem at_394_286 : am_at (am_m 394) 286 = some (.iconst 1, 0) := by decide +kernel
theorem at_394_287 : am_at (am_m 394) 287 = some (.iadd, 0) := by decide +kernel
theorem at_394_288 : am_at (am_m 394) 288 = some (.laload, 0) := by decide +kernel
theorem at_394_289 : am_at (am_m 394) 289 = some (.lload 12, 0) := by decide +kernel
theorem at_394_291 : am_at (am_m 394) 291 = some (.lmul, 0) := by decide +kernel
theorem at_394_292 : am_at (am_m 394) 292 = some (.lload 10, 0) := by decide +kernel
theorem at_394_294 : am_at (am_m 394) 294 = some (.lmul, 0) := by decide +kernel
theorem at_394_295 : am_at (am_m 394) 295 = some (.ladd, 0) := by decide +kernel
theorem at_394_296 : am_at (am_m 394) 296 = some (.lstore 5, 0) := by decide +kernel
theorem at_394_298 : am_at (am_m 394) 298 = some (.lload 5, 0) := by decide +kernel
theorem at_394_300 : am_at (am_m 394) 300 = some (.iload 7, 0) := by decide +kernel
theorem at_394_302 : am_at (am_m 394) 302 = some (.iconst 1, 0) := by decide +kernel
theorem at_394_303 : am_at (am_m 394) 303 = some (.if_icmp .le 20, 323) := by decide +kernel
theorem at_394_306 : am_at (am_m 394) 306 = some (.aload_n 0, 0) := by decide +kernel
theorem at_394_307 : am_at (am_m 394) 307 = some (.getfield 181, 3161) := by decide +kernel
theorem at_394_310 : am_at (am_m 394) 310 = some (.aload_n 0, 0) := by decide +kernel
theorem at_394_311 : am_at (am_m 394) 311 = some (.iload_n 1, 0) := by decide +kernel
theorem at_394_312 : am_at (am_m 394) 312 = some (.iconst 1, 0) := by decide +kernel
theorem at_394_313 : am_at (am_m 394) 313 = some (.invokevirtual 642, 393) := by decide +kernel
theorem at_394_316 : am_at (am_m 394) 316 = some (.laload, 0) := by decide +kernel
theorem at_394_317 : am_at (am_m 394) 317 = some (.lload 10, 0) := by decide +kernel
theorem at_394_319 : am_at (am_m 394) 319 = some (.lmul, 0) := by decide +kernel
theorem at_394_320 : am_at (am_m 394) 320 = some (.goto 4, 324) := by decide +kernel
theorem at_394_323 : am_at (am_m 394) 323 = some (.lconst 0, 0) := by decide +kernel
theorem at_394_324 : am_at (am_m 394) 324 = some (.ladd, 0) := by decide +kernel
theorem at_394_325 : am_at (am_m 394) 325 = some (.lstore 5, 0) := by decide +kernel
theorem at_394_327 : am_at (am_m 394) 327 = some (.lload 5, 0) := by decide +kernel
theorem at_394_329 : am_at (am_m 394) 329 = some (.iload 7, 0) := by decide +kernel
theorem at_394_331 : am_at (am_m 394) 331 = some (.iconst 2, 0) := by decide +kernel
theorem at_394_332 : am_at (am_m 394) 332 = some (.if_icmp .le 17, 349) := by decide +kernel
theorem at_394_335 : am_at (am_m 394) 335 = some (.aload_n 0, 0) := by decide +kernel
theorem at_394_336 : am_at (am_m 394) 336 = some (.getfield 181, 3161) := by decide +kernel
theorem at_394_339 : am_at (am_m 394) 339 = some (.aload_n 0, 0) := by decide +kernel
theorem at_394_340 : am_at (am_m 394) 340 = some (.iload_n 1, 0) := by decide +kernel
theorem at_394_341 : am_at (am_m 394) 341 = some (.iconst 2, 0) := by decide +kernel
theorem at_394_342 : am_at (am_m 394) 342 = some (.invokevirtual 642, 393) := by decide +kernel
theorem at_394_345 : am_at (am_m 394) 345 = some (.laload, 0) := by decide +kernel
theorem at_394_346 : am_at (am_m 394) 346 = some (.goto 4, 350) := by decide +kernel
theorem at_394_349 : am_at (am_m 394) 349 = some (.lconst 0, 0) := by decide +kernel
theorem at_394_350 : am_at (am_m 394) 350 = some (.ladd, 0) := by decide +kernel
theorem at_394_351 : am_at (am_m 394) 351 = some (.lreturn, 0) := by decide +kernel
theorem at_395_0 : am_at (am_m 395) 0 = some (.aload_n 0, 0) := by decide +kernel
theorem at_395_1 : am_at (am_m 395) 1 = some (.iconst 0, 0) := by decide +kernel
theorem at_395_2 : am_at (am_m 395) 2 = some (.putfield 292, 3072) := by decide +kernel
theorem at_395_5 : am_at (am_m 395) 5 = some (.aload_n 0, 0) := by decide +kernel
theorem at_395_6 : am_at (am_m 395) 6 = some (.getfield 649, 3112) := by decide +kernel
theorem at_395_9 : am_at (am_m 395) 9 = some (.bipush 8, 0) := by decide +kernel
theorem at_395_11 : am_at (am_m 395) 11 = some (.if_icmp .ne 5, 16) := by decide +kernel
theorem at_395_14 : am_at (am_m 395) 14 = some (.iconst (-1), 0) := by decide +kernel
theorem at_395_15 : am_at (am_m 395) 15 = some (.ireturn, 0) := by decide +kernel
theorem at_395_16 : am_at (am_m 395) 16 = some (.aload_n 0, 0) := by decide +kernel
theorem at_395_17 : am_at (am_m 395) 17 = some (.getfield 103, 3113) := by decide +kernel
theorem at_395_20 : am_at (am_m 395) 20 = some (.aload_n 0, 0) := by decide +kernel
theorem at_395_21 : am_at (am_m 395) 21 = some (.getfield 649, 3112) := by decide +kernel
theorem at_395_24 : am_at (am_m 395) 24 = some (.iload_n 1, 0) := by decide +kernel
theorem at_395_25 : am_at (am_m 395) 25 = some (.iastore, 0) := by decide +kernel
theorem at_395_26 : am_at (am_m 395) 26 = some (.aload_n 0, 0) := by decide +kernel
theorem at_395_27 : am_at (am_m 395) 27 = some (.dup, 0) := by decide +kernel
theorem at_395_28 : am_at (am_m 395) 28 = some (.getfield 649, 3112) := by decide +kernel
theorem at_395_31 : am_at (am_m 395) 31 = some (.iconst 1, 0) := by decide +kernel
theorem at_395_32 : am_at (am_m 395) 32 = some (.iadd, 0) := by decide +kernel
theorem at_395_33 : am_at (am_m 395) 33 = some (.putfield 649, 3112) := by decide +kernel
theorem at_395_36 : am_at (am_m 395) 36 = some (.aload_n 0, 0) := by decide +kernel
theorem at_395_37 : am_at (am_m 395) 37 = some (.getfield 649, 3112) := by decide +kernel
theorem at_395_40 : am_at (am_m 395) 40 = some (.ireturn, 0) := by decide +kernel
theorem at_396_0 : am_at (am_m 396) 0 = some (.aload_n 0, 0) := by decide +kernel
theorem at_396_1 : am_at (am_m 396) 1 = some (.iload 5, 0) := by decide +kernel
theorem at_396_3 : am_at (am_m 396) 3 = some (.i2l, 0) := by decide +kernel
theorem at_396_4 : am_at (am_m 396) 4 = some (.lconst 1, 0) := by decide +kernel
theorem at_396_5 : am_at (am_m 396) 5 = some (.ldc2_w 638, 55) := by decide +kernel
theorem at_396_8 : am_at (am_m 396) 8 = some (.invokestatic 299, 327) := by decide +kernel
theorem at_396_11 : am_at (am_m 396) 11 = some (.ifCond .ne 7, 18) := by decide +kernel
theorem at_396_14 : am_at (am_m 396) 14 = some (.iconst 1, 0) := by decide +kernel
theorem at_396_15 : am_at (am_m 396) 15 = some (.goto 17, 32) := by decide +kernel
theorem at_396_18 : am_at (am_m 396) 18 = some (.aload_n 0, 0) := by decide +kernel
theorem at_396_19 : am_at (am_m 396) 19 = some (.getfield 652, 3103) := by decide +kernel
theorem at_396_22 : am_at (am_m 396) 22 = some (.bipush 24, 0) := by decide +kernel
theorem at_396_24 : am_at (am_m 396) 24 = some (.if_icmp .ne 7, 31) := by decide +kernel
theorem at_396_27 : am_at (am_m 396) 27 = some (.iconst 2, 0) := by decide +kernel
theorem at_396_28 : am_at (am_m 396) 28 = some (.goto 4, 32) := by decide +kernel
theorem at_396_31 : am_at (am_m 396) 31 = some (.iconst 0, 0) := by decide +kernel
theorem at_396_32 : am_at (am_m 396) 32 = some (.putfield 292, 3072) := by decide +kernel
theorem at_396_35 : am_at (am_m 396) 35 = some (.aload_n 0, 0) := by decide +kernel
theorem at_396_36 : am_at (am_m 396) 36 = some (.getfield 292, 3072) := by decide +kernel
theorem at_396_39 : am_at (am_m 396) 39 = some (.ifCond .le 5, 44) := by decide +kernel
theorem at_396_42 : am_at (am_m 396) 42 = some (.iconst 0, 0) := by decide +kernel
theorem at_396_43 : am_at (am_m 396) 43 = some (.ireturn, 0) := by decide +kernel
theorem at_396_44 : am_at (am_m 396) 44 = some (.aload_n 0, 0) := by decide +kernel
theorem at_396_45 : am_at (am_m 396) 45 = some (.getfield 78, 3104) := by decide +kernel
theorem at_396_48 : am_at (am_m 396) 48 = some (.aload_n 0, 0) := by decide +kernel
theorem at_396_49 : am_at (am_m 396) 49 = some (.getfield 652, 3103) := by decide +kernel
theorem at_396_52 : am_at (am_m 396) 52 = some (.iload_n 1, 0) := by decide +kernel
theorem at_396_53 : am_at (am_m 396) 53 = some (.iastore, 0) := by decide +kernel
theorem at_396_54 : am_at (am_m 396) 54 = some (.aload_n 0, 0) := by decide +kernel
theorem at_396_55 : am_at (am_m 396) 55 = some (.getfield 81, 3105) := by decide +kernel
theorem at_396_58 : am_at (am_m 396) 58 = some (.aload_n 0, 0) := by decide +kernel
theorem at_396_59 : am_at (am_m 396) 59 = some (.getfield 652, 3103) := by decide +kernel
theorem at_396_62 : am_at (am_m 396) 62 = some (.iload_n 2, 0) := by decide +kernel
theorem at_396_63 : am_at (am_m 396) 63 = some (.iastore, 0) := by decide +kernel
theorem at_396_64 : am_at (am_m 396) 64 = some (.aload_n 0, 0) := by decide +kernel
theorem at_396_65 : am_at (am_m 396) 65 = some (.getfield 84, 3106) := by decide +kernel
theorem at_396_68 : am_at (am_m 396) 68 = some (.aload_n 0, 0) := by decide +kernel
theorem at_396_69 : am_at (am_m 396) 69 = some (.getfield 652, 3103) := by decide +kernel
theorem at_396_72 : am_at (am_m 396) 72 = some (.iload_n 3, 0) := by decide +kernel
theorem at_396_73 : am_at (am_m 396) 73 = some (.iastore, 0) := by decide +kernel
theorem at_396_74 : am_at (am_m 396) 74 = some (.aload_n 0, 0) := by decide +kernel
theorem at_396_75 : am_at (am_m 396) 75 = some (.getfield 87, 3107) := by decide +kernel
theorem at_396_78 : am_at (am_m 396) 78 = some (.aload_n 0, 0) := by decide +kernel
theorem at_396_79 : am_at (am_m 396) 79 = some (.getfield 652, 3103) := by decide +kernel
theorem at_396_82 : am_at (am_m 396) 82 = some (.iload 4, 0) := by decide +kernel
theorem at_396_84 : am_at (am_m 396) 84 = some (.iastore, 0) := by decide +kernel
theorem at_396_85 : am_at (am_m 396) 85 = some (.aload_n 0, 0) := by decide +kernel
theorem at_396_86 : am_at (am_m 396) 86 = some (.getfield 90, 3108) := by decide +kernel
theorem at_396_89 : am_at (am_m 396) 89 = some (.aload_n 0, 0) := by decide +kernel
theorem at_396_90 : am_at (am_m 396) 90 = some (.getfield 652, 3103) := by decide +kernel
theorem at_396_93 : am_at (am_m 396) 93 = some (.iload 5, 0) := by decide +kernel
theorem at_396_95 : am_at (am_m 396) 95 = some (.iastore, 0) := by decide +kernel
theorem at_396_96 : am_at (am_m 396) 96 = some (.aload_n 0, 0) := by decide +kernel
theorem at_396_97 : am_at (am_m 396) 97 = some (.getfield 93, 3109) := by decide +kernel
theorem at_396_100 : am_at (am_m 396) 100 = some (.aload_n 0, 0) := by decide +kernel
theorem at_396_101 : am_at (am_m 396) 101 = some (.getfield 652, 3103) := by decide +kernel
theorem at_396_104 : am_at (am_m 396) 104 = some (.iload 6, 0) := by decide +kernel
theorem at_396_106 : am_at (am_m 396) 106 = some (.bastore, 0) := by decide +kernel
theorem at_396_107 : am_at (am_m 396) 107 = some (.aload_n 0, 0) := by decide +kernel
theorem at_396_108 : am_at (am_m 396) 108 = some (.getfield 97, 3110) := by decide +kernel
theorem at_396_111 : am_at (am_m 396) 111 = some (.aload_n 0, 0) := by decide +kernel
theorem at_396_112 : am_at (am_m 396) 112 = some (.getfield 652, 3103) := by decide +kernel
theorem at_396_115 : am_at (am_m 396) 115 = some (.aload_n 0, 0) := by decide +kernel
theorem at_396_116 : am_at (am_m 396) 116 = some (.getfield 649, 3112) := by decide +kernel
theorem at_396_119 : am_at (am_m 396) 119 = some (.iastore, 0) := by decide +kernel
theorem at_396_120 : am_at (am_m 396) 120 = some (.iconst 0, 0) := by decide +kernel
theorem at_396_121 : am_at (am_m 396) 121 = some (.istore 7, 0) := by decide +kernel
theorem at_396_123 : am_at (am_m 396) 123 = some (.iload 7, 0) := by decide +kernel
theorem at_396_125 : am_at (am_m 396) 125 = some (.bipush 8, 0) := by decide +kernel
theorem at_396_127 : am_at (am_m 396) 127 = some (.if_icmp .ge 44, 171) := by decide +kernel
theorem at_396_130 : am_at (am_m 396) 130 = some (.aload_n 0, 0) := by decide +kernel
theorem at_396_131 : am_at (am_m 396) 131 = some (.getfield 100, 3111) := by decide +kernel
theorem at_396_134 : am_at (am_m 396) 134 = some (.bipush 8, 0) := by decide +kernel
theorem at_396_136 : am_at (am_m 396) 136 = some (.aload_n 0, 0) := by decide +kernel
theorem at_396_137 : am_at (am_m 396) 137 = some (.getfield 652, 3103) := by decide +kernel
theorem at_396_140 : am_at (am_m 396) 140 = some (.imul, 0) := by decide +kernel
theorem at_396_141 : am_at (am_m 396) 141 = some (.iload 7, 0) := by decide +kernel
theorem at_396_143 : am_at (am_m 396) 143 = some (.iadd, 0) := by decide +kernel
theorem at_396_144 : am_at (am_m 396) 144 = some (.iload 7, 0) := by decide +kernel
theorem at_396_146 : am_at (am_m 396) 146 = some (.aload_n 0, 0) := by decide +kernel
theorem at_396_147 : am_at (am_m 396) 147 = some (.getfield 649, 3112) := by decide +kernel
theorem at_396_150 : am_at (am_m 396) 150 = some (.if_icmp .ge 13, 163) := by decide +kernel
theorem at_396_153 : am_at (am_m 396) 153 = some (.aload_n 0, 0) := by decide +kernel
theorem at_396_154 : am_at (am_m 396) 154 = some (.getfield 103, 3113) := by decide +kernel
theorem at_396_157 : am_at (am_m 396) 157 = some (.iload 7, 0) := by decide +kernel
theorem at_396_159 : am_at (am_m 396) 159 = some (.iaload, 0) := by decide +kernel
theorem at_396_160 : am_at (am_m 396) 160 = some (.goto 4, 164) := by decide +kernel
theorem at_396_163 : am_at (am_m 396) 163 = some (.iconst 0, 0) := by decide +kernel
theorem at_396_164 : am_at (am_m 396) 164 = some (.iastore, 0) := by decide +kernel
theorem at_396_165 : am_at (am_m 396) 165 = some (.iinc 7 1, 0) := by decide +kernel
theorem at_396_168 : am_at (am_m 396) 168 = some (.goto (-45), 123) := by decide +kernel
theorem at_396_171 : am_at (am_m 396) 171 = some (.aload_n 0, 0) := by decide +kernel
theorem at_396_172 : am_at (am_m 396) 172 = some (.iconst 0, 0) := by decide +kernel
theorem at_396_173 : am_at (am_m 396) 173 = some (.putfield 649, 3112) := by decide +kernel
theorem at_396_176 : am_at (am_m 396) 176 = some (.aload_n 0, 0) := by decide +kernel
theorem at_396_177 : am_at (am_m 396) 177 = some (.dup, 0) := by decide +kernel
theorem at_396_178 : am_at (am_m 396) 178 = some (.getfield 652, 3103) := by decide +kernel
theorem at_396_181 : am_at (am_m 396) 181 = some (.iconst 1, 0) := by decide +kernel
theorem at_396_182 : am_at (am_m 396) 182 = some (.iadd, 0) := by decide +kernel
theorem at_396_183 : am_at (am_m 396) 183 = some (.putfield 652, 3103) := by decide +kernel
theorem at_396_186 : am_at (am_m 396) 186 = some (.aload_n 0, 0) := by decide +kernel
theorem at_396_187 : am_at (am_m 396) 187 = some (.getfield 652, 3103) := by decide +kernel
theorem at_396_190 : am_at (am_m 396) 190 = some (.iconst 1, 0) := by decide +kernel
theorem at_396_191 : am_at (am_m 396) 191 = some (.isub, 0) := by decide +kernel
theorem at_396_192 : am_at (am_m 396) 192 = some (.ireturn, 0) := by decide +kernel
theorem at_397_0 : am_at (am_m 397) 0 = some (.aload_n 0, 0) := by decide +kernel
theorem at_397_1 : am_at (am_m 397) 1 = some (.aload_n 0, 0) := by decide +kernel
theorem at_397_2 : am_at (am_m 397) 2 = some (.iload_n 1, 0) := by decide +kernel
theorem at_397_3 : am_at (am_m 397) 3 = some (.invokevirtual 655, 398) := by decide +kernel
theorem at_397_6 : am_at (am_m 397) 6 = some (.ifCond .eq 7, 13) := by decide +kernel
theorem at_397_9 : am_at (am_m 397) 9 = some (.iconst 0, 0) := by decide +kernel
theorem at_397_10 : am_at (am_m 397) 10 = some (.goto 4, 14) := by decide +kernel
theorem at_397_13 : am_at (am_m 397) 13 = some (.iconst 1, 0) := by decide +kernel
theorem at_397_14 : am_at (am_m 397) 14 = some (.putfield 292, 3072) := by decide +kernel
theorem at_397_17 : am_at (am_m 397) 17 = some (.aload_n 0, 0) := by decide +kernel
theorem at_397_18 : am_at (am_m 397) 18 = some (.getfield 292, 3072) := by decide +kernel
theorem at_397_21 : am_at (am_m 397) 21 = some (.ifCond .le 5, 26) := by decide +kernel
theorem at_397_24 : am_at (am_m 397) 24 = some (.iconst 0, 0) := by decide +kernel
theorem at_397_25 : am_at (am_m 397) 25 = some (.ireturn, 0) := by decide +kernel
theorem at_397_26 : am_at (am_m 397) 26 = some (.aload_n 0, 0) := by decide +kernel
theorem at_397_27 : am_at (am_m 397) 27 = some (.dup, 0) := by decide +kernel
theorem at_397_28 : am_at (am_m 397) 28 = some (.getfield 652, 3103) := by decide +kernel
theorem at_397_31 : am_at (am_m 397) 31 = some (.iconst 1, 0) := by decide +kernel
theorem at_397_32 : am_at (am_m 397) 32 = some (.isub, 0) := by decide +kernel
theorem at_397_33 : am_at (am_m 397) 33 = some (.putfield 652, 3103) := by decide +kernel
theorem at_397_36 : am_at (am_m 397) 36 = some (.iload_n 1, 0) := by decide +kernel
theorem at_397_37 : am_at (am_m 397) 37 = some (.istore_n 2, 0) := by decide +kernel
theorem at_397_38 : am_at (am_m 397) 38 = some (.iload_n 2, 0) := by decide +kernel
theorem at_397_39 : am_at (am_m 397) 39 = some (.aload_n 0, 0) := by decide +kernel
theorem at_397_40 : am_at (am_m 397) 40 = some (.getfield 652, 3103) := by decide +kernel
theorem at_397_43 : am_at (am_m 397) 43 = some (.if_icmp .ge 146, 189) := by decide +kernel
theorem at_397_46 : am_at (am_m 397) 46 = some (.aload_n 0, 0) := by decide +kernel
theorem at_397_47 : am_at (am_m 397) 47 = some (.getfield 78, 3104) := by decide +kernel
theorem at_397_50 : am_at (am_m 397) 50 = some (.iload_n 2, 0) := by decide +kernel
theorem at_397_51 : am_at (am_m 397) 51 = some (.aload_n 0, 0) := by decide +kernel
theorem at_397_52 : am_at (am_m 397) 52 = some (.getfield 78, 3104) := by decide +kernel
theorem at_397_55 : am_at (am_m 397) 55 = some (.iload_n 2, 0) := by decide +kernel
theorem at_397_56 : am_at (am_m 397) 56 = some (.iconst 1, 0) := by decide +kernel
theorem at_397_57 : am_at (am_m 397) 57 = some (.iadd, 0) := by decide +kernel
theorem at_397_58 : am_at (am_m 397) 58 = some (.iaload, 0) := by decide +kernel
theorem at_397_59 : am_at (am_m 397) 59 = some (.iastore, 0) := by decide +kernel
theorem at_397_60 : am_at (am_m 397) 60 = some (.aload_n 0, 0) := by decide +kernel
theorem at_397_61 : am_at (am_m 397) 61 = some (.getfield 81, 3105) := by decide +kernel
theorem at_397_64 : am_at (am_m 397) 64 = some (.iload_n 2, 0) := by decide +kernel
theorem at_397_65 : am_at (am_m 397) 65 = some (.aload_n 0, 0) := by decide +kernel
theorem at_397_66 : am_at (am_m 397) 66 = some (.getfield 81, 3105) := by decide +kernel
theorem at_397_69 : am_at (am_m 397) 69 = some (.iload_n 2, 0) := by decide +kernel
theorem at_397_70 : am_at (am_m 397) 70 = some (.iconst 1, 0) := by decide +kernel
theorem at_397_71 : am_at (am_m 397) 71 = some (.iadd, 0) := by decide +kernel
theorem at_397_72 : am_at (am_m 397) 72 = some (.iaload, 0) := by decide +kernel
theorem at_397_73 : am_at (am_m 397) 73 = some (.iastore, 0) := by decide +kernel
theorem at_397_74 : am_at (am_m 397) 74 = some (.aload_n 0, 0) := by decide +kernel
theorem at_397_75 : am_at (am_m 397) 75 = some (.getfield 84, 3106) := by decide +kernel
theorem at_397_78 : am_at (am_m 397) 78 = some (.iload_n 2, 0) := by decide +kernel
theorem at_397_79 : am_at (am_m 397) 79 = some (.aload_n 0, 0) := by decide +kernel
theorem at_397_80 : am_at (am_m 397) 80 = some (.getfield 84, 3106) := by decide +kernel
theorem at_397_83 : am_at (am_m 397) 83 = some (.iload_n 2, 0) := by decide +kernel
theorem at_397_84 : am_at (am_m 397) 84 = some (.iconst 1, 0) := by decide +kernel
theorem at_397_85 : am_at (am_m 397) 85 = some (.iadd, 0) := by decide +kernel
theorem at_397_86 : am_at (am_m 397) 86 = some (.iaload, 0) := by decide +kernel
theorem at_397_87 : am_at (am_m 397) 87 = some (.iastore, 0) := by decide +kernel
theorem at_397_88 : am_at (am_m 397) 88 = some (.aload_n 0, 0) := by decide +kernel
theorem at_397_89 : am_at (am_m 397) 89 = some (.getfield 87, 3107) := by decide +kernel
theorem at_397_92 : am_at (am_m 397) 92 = some (.iload_n 2, 0) := by decide +kernel
theorem at_397_93 : am_at (am_m 397) 93 = some (.aload_n 0, 0) := by decide +kernel
theorem at_397_94 : am_at (am_m 397) 94 = some (.getfield 87, 3107) := by decide +kernel
theorem at_397_97 : am_at (am_m 397) 97 = some (.iload_n 2, 0) := by decide +kernel
theorem at_397_98 : am_at (am_m 397) 98 = some (.iconst 1, 0) := by decide +kernel
theorem at_397_99 : am_at (am_m 397) 99 = some (.iadd, 0) := by decide +kernel
theorem at_397_100 : am_at (am_m 397) 100 = some (.iaload, 0) := by decide +kernel
theorem at_397_101 : am_at (am_m 397) 101 = some (.iastore, 0) := by decide +kernel
theorem at_397_102 : am_at (am_m 397) 102 = some (.aload_n 0, 0) := by decide +kernel
theorem at_397_103 : am_at (am_m 397) 103 = some (.getfield 90, 3108) := by decide +kernel
theorem at_397_106 : am_at (am_m 397) 106 = some (.iload_n 2, 0) := by decide +kernel
theorem at_397_107 : am_at (am_m 397) 107 = some (.aload_n 0, 0) := by decide +kernel
theorem at_397_108 : am_at (am_m 397) 108 = some (.getfield 90, 3108) := by decide +kernel
theorem at_397_111 : am_at (am_m 397) 111 = some (.iload_n 2, 0) := by decide +kernel
theorem at_397_112 : am_at (am_m 397) 112 = some (.iconst 1, 0) := by decide +kernel
theorem at_397_113 : am_at (am_m 397) 113 = some (.iadd, 0) := by decide +kernel
theorem at_397_114 : am_at (am_m 397) 114 = some (.iaload, 0) := by decide +kernel
theorem at_397_115 : am_at (am_m 397) 115 = some (.iastore, 0) := by decide +kernel
theorem at_397_116 : am_at (am_m 397) 116 = some (.aload_n 0, 0) := by decide +kernel
theorem at_397_117 : am_at (am_m 397) 117 = some (.getfield 93, 3109) := by decide +kernel
theorem at_397_120 : am_at (am_m 397) 120 = some (.iload_n 2, 0) := by decide +kernel
theorem at_397_121 : am_at (am_m 397) 121 = some (.aload_n 0, 0) := by decide +kernel
theorem at_397_122 : am_at (am_m 397) 122 = some (.getfield 93, 3109) := by decide +kernel
theorem at_397_125 : am_at (am_m 397) 125 = some (.iload_n 2, 0) := by decide +kernel
theorem at_397_126 : am_at (am_m 397) 126 = some (.iconst 1, 0) := by decide +kernel
theorem at_397_127 : am_at (am_m 397) 127 = some (.iadd, 0) := by decide +kernel
theorem at_397_128 : am_at (am_m 397) 128 = some (.baload, 0) := by decide +kernel
theorem at_397_129 : am_at (am_m 397) 129 = some (.bastore, 0) := by decide +kernel
theorem at_397_130 : am_at (am_m 397) 130 = some (.aload_n 0, 0) := by decide +kernel
theorem at_397_131 : am_at (am_m 397) 131 = some (.getfield 97, 3110) := by decide +kernel
theorem at_397_134 : am_at (am_m 397) 134 = some (.iload_n 2, 0) := by decide +kernel
theorem at_397_135 : am_at (am_m 397) 135 = some (.aload_n 0, 0) := by decide +kernel
theorem at_397_136 : am_at (am_m 397) 136 = some (.getfield 97, 3110) := by decide +kernel
theorem at_397_139 : am_at (am_m 397) 139 = some (.iload_n 2, 0) := by decide +kernel
theorem at_397_140 : am_at (am_m 397) 140 = some (.iconst 1, 0) := by decide +kernel
theorem at_397_141 : am_at (am_m 397) 141 = some (.iadd, 0) := by decide +kernel
theorem at_397_142 : am_at (am_m 397) 142 = some (.iaload, 0) := by decide +kernel
theorem at_397_143 : am_at (am_m 397) 143 = some (.iastore, 0) := by decide +kernel
theorem at_397_144 : am_at (am_m 397) 144 = some (.iconst 0, 0) := by decide +kernel
theorem at_397_145 : am_at (am_m 397) 145 = some (.istore_n 3, 0) := by decide +kernel
theorem at_397_146 : am_at (am_m 397) 146 = some (.iload_n 3, 0) := by decide +kernel
theorem at_397_147 : am_at (am_m 397) 147 = some (.bipush 8, 0) := by decide +kernel
theorem at_397_149 : am_at (am_m 397) 149 = some (.if_icmp .ge 34, 183) := by decide +kernel
theorem at_397_152 : am_at (am_m 397) 152 = some (.aload_n 0, 0) := by decide +kernel
theorem at_397_153 : am_at (am_m 397) 153 = some (.getfield 100, 3111) := by decide +kernel
theorem at_397_156 : am_at (am_m 397) 156 = some (.bipush 8, 0) := by decide +kernel
theorem at_397_158 : am_at (am_m 397) 158 = some (.iload_n 2, 0) := by decide +kernel
theorem at_397_159 : am_at (am_m 397) 159 = some (.imul, 0) := by decide +kernel
theorem at_397_160 : am_at (am_m 397) 160 = some (.iload_n 3, 0) := by decide +kernel
theorem at_397_161 : am_at (am_m 397) 161 = some (.iadd, 0) := by decide +kernel
theorem at_397_162 : am_at (am_m 397) 162 = some (.aload_n 0, 0) := by decide +kernel
theorem at_397_163 : am_at (am_m 397) 163 = some (.getfield 100, 3111) := by decide +kernel
theorem at_397_166 : am_at (am_m 397) 166 = some (.bipush 8, 0) := by decide +kernel
theorem at_397_168 : am_at (am_m 397) 168 = some (.iload_n 2, 0) := by decide +kernel
theorem at_397_169 : am_at (am_m 397) 169 = some (.imul, 0) := by decide +kernel
theorem at_397_170 : am_at (am_m 397) 170 = some (.bipush 8, 0) := by decide +kernel
theorem at_397_172 : am_at (am_m 397) 172 = some (.iadd, 0) := by decide +kernel
theorem at_397_173 : am_at (am_m 397) 173 = some (.iload_n 3, 0) := by decide +kernel
theorem at_397_174 : am_at (am_m 397) 174 = some (.iadd, 0) := by decide +kernel
theorem at_397_175 : am_at (am_m 397) 175 = some (.iaload, 0) := by decide +kernel
theorem at_397_176 : am_at (am_m 397) 176 = some (.iastore, 0) := by decide +kernel
theorem at_397_177 : am_at (am_m 397) 177 = some (.iinc 3 1, 0) := by decide +kernel
theorem at_397_180 : am_at (am_m 397) 180 = some (.goto (-34), 146) := by decide +kernel
theorem at_397_183 : am_at (am_m 397) 183 = some (.iinc 2 1, 0) := by decide +kernel
theorem at_397_186 : am_at (am_m 397) 186 = some (.goto (-148), 38) := by decide +kernel
theorem at_397_189 : am_at (am_m 397) 189 = some (.aload_n 0, 0) := by decide +kernel
theorem at_397_190 : am_at (am_m 397) 190 = some (.getfield 652, 3103) := by decide +kernel
theorem at_397_193 : am_at (am_m 397) 193 = some (.ireturn, 0) := by decide +kernel
theorem at_398_0 : am_at (am_m 398) 0 = some (.iload_n 1, 0) := by decide +kernel
theorem at_398_1 : am_at (am_m 398) 1 = some (.i2l, 0) := by decide +kernel
theorem at_398_2 : am_at (am_m 398) 2 = some (.lconst 0, 0) := by decide +kernel
theorem at_398_3 : am_at (am_m 398) 3 = some (.aload_n 0, 0) := by decide +kernel
theorem at_398_4 : am_at (am_m 398) 4 = some (.getfield 652, 3103) := by decide +kernel
theorem at_398_7 : am_at (am_m 398) 7 = some (.i2l, 0) := by decide +kernel
theorem at_398_8 : am_at (am_m 398) 8 = some (.lconst 1, 0) := by decide +kernel
theorem at_398_9 : am_at (am_m 398) 9 = some (.lsub, 0) := by decide +kernel
theorem at_398_10 : am_at (am_m 398) 10 = some (.invokestatic 299, 327) := by decide +kernel
theorem at_398_13 : am_at (am_m 398) 13 = some (.ireturn, 0) := by decide +kernel
theorem at_399_0 : am_at (am_m 399) 0 = some (.aload_n 0, 0) := by decide +kernel
theorem at_399_1 : am_at (am_m 399) 1 = some (.iconst 0, 0) := by decide +kernel
theorem at_399_2 : am_at (am_m 399) 2 = some (.putfield 292, 3072) := by decide +kernel
theorem at_399_5 : am_at (am_m 399) 5 = some (.aload_n 0, 0) := by decide +kernel
theorem at_399_6 : am_at (am_m 399) 6 = some (.getfield 652, 3103) := by decide +kernel
theorem at_399_9 : am_at (am_m 399) 9 = some (.ireturn, 0) := by decide +kernel
theorem at_400_0 : am_at (am_m 400) 0 = some (.aload_n 0, 0) := by decide +kernel
theorem at_400_1 : am_at (am_m 400) 1 = some (.aload_n 0, 0) := by decide +kernel
theorem at_400_2 : am_at (am_m 400) 2 = some (.iload_n 1, 0) := by decide +kernel
theorem at_400_3 : am_at (am_m 400) 3 = some (.invokevirtual 655, 398) := by decide +kernel
theorem at_400_6 : am_at (am_m 400) 6 = some (.ifCond .ne 7, 13) := by decide +kernel
theorem at_400_9 : am_at (am_m 400) 9 = some (.iconst 1, 0) := by decide +kernel
theorem at_400_10 : am_at (am_m 400) 10 = some (.goto 20, 30) := by decide +kernel
theorem at_400_13 : am_at (am_m 400) 13 = some (.iload_n 2, 0) := by decide +kernel
theorem at_400_14 : am_at (am_m 400) 14 = some (.i2l, 0) := by decide +kernel
theorem at_400_15 : am_at (am_m 400) 15 = some (.lconst 0, 0) := by decide +kernel
theorem at_400_16 : am_at (am_m 400) 16 = some (.ldc2_w 658, 56) := by decide +kernel
theorem at_400_19 : am_at (am_m 400) 19 = some (.invokestatic 299, 327) := by decide +kernel
theorem at_400_22 : am_at (am_m 400) 22 = some (.ifCond .ne 7, 29) := by decide +kernel
theorem at_400_25 : am_at (am_m 400) 25 = some (.iconst 2, 0) := by decide +kernel
theorem at_400_26 : am_at (am_m 400) 26 = some (.goto 4, 30) := by decide +kernel
theorem at_400_29 : am_at (am_m 400) 29 = some (.iconst 0, 0) := by decide +kernel
theorem at_400_30 : am_at (am_m 400) 30 = some (.putfield 292, 3072) := by decide +kernel
theorem at_400_33 : am_at (am_m 400) 33 = some (.aload_n 0, 0) := by decide +kernel
theorem at_400_34 : am_at (am_m 400) 34 = some (.getfield 292, 3072) := by decide +kernel
theorem at_400_37 : am_at (am_m 400) 37 = some (.ifCond .le 5, 42) := by decide +kernel
theorem at_400_40 : am_at (am_m 400) 40 = some (.iconst 0, 0) := by decide +kernel
theorem at_400_41 : am_at (am_m 400) 41 = some (.ireturn, 0) := by decide +kernel
theorem at_400_42 : am_at (am_m 400) 42 = some (.iload_n 2, 0) := by decide +kernel
theorem at_400_43 : am_at (am_m 400) 43 = some (.tableswitch 98 0 6 #[41, 48, 55, 62, 69, 76, 91], 0) := by decide +kernel
theorem at_400_84 : am_at (am_m 400) 84 = some (.aload_n 0, 0) := by decide +kernel
theorem at_400_85 : am_at (am_m 400) 85 = some (.getfield 78, 3104) := by decide +kernel
theorem at_400_88 : am_at (am_m 400) 88 = some (.iload_n 1, 0) := by decide +kernel
theorem at_400_89 : am_at (am_m 400) 89 = some (.iaload, 0) := by decide +kernel
theorem at_400_90 : am_at (am_m 400) 90 = some (.ireturn, 0) := by decide +kernel
theorem at_400_91 : am_at (am_m 400) 91 = some (.aload_n 0, 0) := by decide +kernel
theorem at_400_92 : am_at (am_m 400) 92 = some (.getfield 81, 3105) := by decide +kernel
theorem at_400_95 : am_at (am_m 400) 95 = some (.iload_n 1, 0) := by decide +kernel
theorem at_400_96 : am_at (am_m 400) 96 = some (.iaload, 0) := by decide +kernel
theorem at_400_97 : am_at (am_m 400) 97 = some (.ireturn, 0) := by decide +kernel
theorem at_400_98 : am_at (am_m 400) 98 = some (.aload_n 0, 0) := by decide +kernel
theorem at_400_99 : am_at (am_m 400) 99 = some (.getfield 84, 3106) := by decide +kernel
theorem at_400_102 : am_at (am_m 400) 102 = some (.iload_n 1, 0) := by decide +kernel
theorem at_400_103 : am_at (am_m 400) 103 = some (.iaload, 0) := by decide +kernel
theorem at_400_104 : am_at (am_m 400) 104 = some (.ireturn, 0) := by decide +kernel
theorem at_400_105 : am_at (am_m 400) 105 = some (.aload_n 0, 0) := by decide +kernel
theorem at_400_106 : am_at (am_m 400) 106 = some (.getfield 87, 3107) := by decide +kernel
theorem at_400_109 : am_at (am_m 400) 109 = some (.iload_n 1, 0) := by decide +kernel
theorem at_400_110 : am_at (am_m 400) 110 = some (.iaload, 0) := by decide +kernel
theorem at_400_111 : am_at (am_m 400) 111 = some (.ireturn, 0) := by decide +kernel
theorem at_400_112 : am_at (am_m 400) 112 = some (.aload_n 0, 0) := by decide +kernel
theorem at_400_113 : am_at (am_m 400) 113 = some (.getfield 90, 3108) := by decide +kernel
theorem at_400_116 : am_at (am_m 400) 116 = some (.iload_n 1, 0) := by decide +kernel
theorem at_400_117 : am_at (am_m 400) 117 = some (.iaload, 0) := by decide +kernel
theorem at_400_118 : am_at (am_m 400) 118 = some (.ireturn, 0) := by decide +kernel
theorem at_400_119 : am_at (am_m 400) 119 = some (.aload_n 0, 0) := by decide +kernel
theorem at_400_120 : am_at (am_m 400) 120 = some (.getfield 93, 3109) := by decide +kernel
theorem at_400_123 : am_at (am_m 400) 123 = some (.iload_n 1, 0) := by decide +kernel
theorem at_400_124 : am_at (am_m 400) 124 = some (.baload, 0) := by decide +kernel
theorem at_400_125 : am_at (am_m 400) 125 = some (.ifCond .eq 7, 132) := by decide +kernel
theorem at_400_128 : am_at (am_m 400) 128 = some (.iconst 1, 0) := by decide +kernel
theorem at_400_129 : am_at (am_m 400) 129 = some (.goto 4, 133) := by decide +kernel
theorem at_400_132 : am_at (am_m 400) 132 = some (.iconst 0, 0) := by decide +kernel
theorem at_400_133 : am_at (am_m 400) 133 = some (.ireturn, 0) := by decide +kernel
theorem at_400_134 : am_at (am_m 400) 134 = some (.aload_n 0, 0) := by decide +kernel
theorem at_400_135 : am_at (am_m 400) 135 = some (.getfield 97, 3110) := by decide +kernel
theorem at_400_138 : am_at (am_m 400) 138 = some (.iload_n 1, 0) := by decide +kernel
theorem at_400_139 : am_at (am_m 400) 139 = some (.iaload, 0) := by decide +kernel
theorem at_400_140 : am_at (am_m 400) 140 = some (.ireturn, 0) := by decide +kernel
theorem at_400_141 : am_at (am_m 400) 141 = some (.aload_n 0, 0) := by decide +kernel
theorem at_400_142 : am_at (am_m 400) 142 = some (.getfield 100, 3111) := by decide +kernel
theorem at_400_145 : am_at (am_m 400) 145 = some (.bipush 8, 0) := by decide +kernel
theorem at_400_147 : am_at (am_m 400) 147 = some (.iload_n 1, 0) := by decide +kernel
theorem at_400_148 : am_at (am_m 400) 148 = some (.imul, 0) := by decide +kernel
theorem at_400_149 : am_at (am_m 400) 149 = some (.iload_n 2, 0) := by decide +kernel
theorem at_400_150 : am_at (am_m 400) 150 = some (.iadd, 0) := by decide +kernel
theorem at_400_151 : am_at (am_m 400) 151 = some (.bipush 7, 0) := by decide +kernel
theorem at_400_153 : am_at (am_m 400) 153 = some (.isub, 0) := by decide +kernel
theorem at_400_154 : am_at (am_m 400) 154 = some (.iaload, 0) := by decide +kernel
theorem at_400_155 : am_at (am_m 400) 155 = some (.ireturn, 0) := by decide +kernel
theorem at_401_0 : am_at (am_m 401) 0 = some (.aload_n 0, 0) := by decide +kernel
theorem at_401_1 : am_at (am_m 401) 1 = some (.aload_n 0, 0) := by decide +kernel
theorem at_401_2 : am_at (am_m 401) 2 = some (.iload_n 1, 0) := by decide +kernel
theorem at_401_3 : am_at (am_m 401) 3 = some (.invokevirtual 568, 358) := by decide +kernel
theorem at_401_6 : am_at (am_m 401) 6 = some (.ifCond .eq 15, 21) := by decide +kernel
theorem at_401_9 : am_at (am_m 401) 9 = some (.aload_n 0, 0) := by decide +kernel
theorem at_401_10 : am_at (am_m 401) 10 = some (.iload_n 2, 0) := by decide +kernel
theorem at_401_11 : am_at (am_m 401) 11 = some (.invokevirtual 655, 398) := by decide +kernel
theorem at_401_14 : am_at (am_m 401) 14 = some (.ifCond .eq 7, 21) := by decide +kernel
theorem at_401_17 : am_at (am_m 401) 17 = some (.iconst 0, 0) := by decide +kernel
theorem at_401_18 : am_at (am_m 401) 18 = some (.goto 4, 22) := by decide +kernel
theorem at_401_21 : am_at (am_m 401) 21 = some (.iconst 1, 0) := by decide +kernel
theorem at_401_22 : am_at (am_m 401) 22 = some (.putfield 292, 3072) := by decide +kernel
theorem at_401_25 : am_at (am_m 401) 25 = some (.aload_n 0, 0) := by decide +kernel
theorem at_401_26 : am_at (am_m 401) 26 = some (.getfield 292, 3072) := by decide +kernel
theorem at_401_29 : am_at (am_m 401) 29 = some (.ifCond .le 5, 34) := by decide +kernel
theorem at_401_32 : am_at (am_m 401) 32 = some (.iconst 0, 0) := by decide +kernel
theorem at_401_33 : am_at (am_m 401) 33 = some (.ireturn, 0) := by decide +kernel
theorem at_401_34 : am_at (am_m 401) 34 = some (.aload_n 0, 0) := by decide +kernel
theorem at_401_35 : am_at (am_m 401) 35 = some (.iload_n 1, 0) := by decide +kernel
theorem at_401_36 : am_at (am_m 401) 36 = some (.invokevirtual 571, 359) := by decide +kernel
theorem at_401_39 : am_at (am_m 401) 39 = some (.aload_n 0, 0) := by decide +kernel
theorem at_401_40 : am_at (am_m 401) 40 = some (.iload_n 2, 0) := by decide +kernel
theorem at_401_41 : am_at (am_m 401) 41 = some (.invokevirtual 666, 402) := by decide +kernel
theorem at_401_44 : am_at (am_m 401) 44 = some (.aload_n 0, 0) := by decide +kernel
theorem at_401_45 : am_at (am_m 401) 45 = some (.invokevirtual 669, 403) := by decide +kernel
theorem at_401_48 : am_at (am_m 401) 48 = some (.aload_n 0, 0) := by decide +kernel
theorem at_401_49 : am_at (am_m 401) 49 = some (.invokevirtual 672, 419) := by decide +kernel
theorem at_401_52 : am_at (am_m 401) 52 = some (.ireturn, 0) := by decide +kernel
theorem at_402_0 : am_at (am_m 402) 0 = some (.aload_n 0, 0) := by decide +kernel
theorem at_402_1 : am_at (am_m 402) 1 = some (.aload_n 0, 0) := by decide +kernel
theorem at_402_2 : am_at (am_m 402) 2 = some (.getfield 78, 3104) := by decide +kernel
theorem at_402_5 : am_at (am_m 402) 5 = some (.iload_n 1, 0) := by decide +kernel
theorem at_402_6 : am_at (am_m 402) 6 = some (.iaload, 0) := by decide +kernel
theorem at_402_7 : am_at (am_m 402) 7 = some (.putfield 367, 3123) := by decide +kernel
theorem at_402_10 : am_at (am_m 402) 10 = some (.aload_n 0, 0) := by decide +kernel
theorem at_402_11 : am_at (am_m 402) 11 = some (.aload_n 0, 0) := by decide +kernel
theorem at_402_12 : am_at (am_m 402) 12 = some (.getfield 81, 3105) := by decide +kernel
theorem at_402_15 : am_at (am_m 402) 15 = some (.iload_n 1, 0) := by decide +kernel
theorem at_402_16 : am_at (am_m 402) 16 = some (.iaload, 0) := by decide +kernel
theorem at_402_17 : am_at (am_m 402) 17 = some (.putfield 370, 3124) := by decide +kernel
theorem at_402_20 : am_at (am_m 402) 20 = some (.aload_n 0, 0) := by decide +kernel
theorem at_402_21 : am_at (am_m 402) 21 = some (.aload_n 0, 0) := by decide +kernel
theorem at_402_22 : am_at (am_m 402) 22 = some (.getfield 84, 3106) := by decide +kernel
theorem at_402_25 : am_at (am_m 402) 25 = some (.iload_n 1, 0) := by decide +kernel
theorem at_402_26 : am_at (am_m 402) 26 = some (.iaload, 0) := by decide +kernel
theorem at_402_27 : am_at (am_m 402) 27 = some (.putfield 373, 3125) := by decide +kernel
theorem at_402_30 : am_at (am_m 402) 30 = some (.aload_n 0, 0) := by decide +kernel
theorem at_402_31 : am_at (am_m 402) 31 = some (.aload_n 0, 0) := by decide +kernel
theorem at_402_32 : am_at (am_m 402) 32 = some (.getfield 97, 3110) := by decide +kernel
theorem at_402_35 : am_at (am_m 402) 35 = some (.iload_n 1, 0) := by decide +kernel
theorem at_402_36 : am_at (am_m 402) 36 = some (.iaload, 0) := by decide +kernel
theorem at_402_37 : am_at (am_m 402) 37 = some (.putfield 376, 3126) := by decide +kernel
theorem at_402_40 : am_at (am_m 402) 40 = some (.iconst 0, 0) := by decide +kernel
theorem at_402_41 : am_at (am_m 402) 41 = some (.istore_n 2, 0) := by decide +kernel
theorem at_402_42 : am_at (am_m 402) 42 = some (.iload_n 2, 0) := by decide +kernel
theorem at_402_43 : am_at (am_m 402) 43 = some (.bipush 8, 0) := by decide +kernel
theorem at_402_45 : am_at (am_m 402) 45 = some (.if_icmp .ge 26, 71) := by decide +kernel
theorem at_402_48 : am_at (am_m 402) 48 = some (.aload_n 0, 0) := by decide +kernel
theorem at_402_49 : am_at (am_m 402) 49 = some (.getfield 124, 3127) := by decide +kernel
theorem at_402_52 : am_at (am_m 402) 52 = some (.iload_n 2, 0) := by decide +kernel
theorem at_402_53 : am_at (am_m 402) 53 = some (.aload_n 0, 0) := by decide +kernel
theorem at_402_54 : am_at (am_m 402) 54 = some (.getfield 100, 3111) := by decide +kernel
theorem at_402_57 : am_at (am_m 402) 57 = some (.bipush 8, 0) := by decide +kernel
theorem at_402_59 : am_at (am_m 402) 59 = some (.iload_n 1, 0) := by decide +kernel
theorem at_402_60 : am_at (am_m 402) 60 = some (.imul, 0) := by decide +kernel
theorem at_402_61 : am_at (am_m 402) 61 = some (.iload_n 2, 0) := by decide +kernel
theorem at_402_62 : am_at (am_m 402) 62 = some (.iadd, 0) := by decide +kernel
theorem at_402_63 : am_at (am_m 402) 63 = some (.iaload, 0) := by decide +kernel
theorem at_402_64 : am_at (am_m 402) 64 = some (.iastore, 0) := by decide +kernel
theorem at_402_65 : am_at (am_m 402) 65 = some (.iinc 2 1, 0) := by decide +kernel
theorem at_402_68 : am_at (am_m 402) 68 = some (.goto (-26), 42) := by decide +kernel
theorem at_402_71 : am_at (am_m 402) 71 = some (.return_, 0) := by decide +kernel
theorem at_403_0 : am_at (am_m 403) 0 = some (.aload_n 0, 0) := by decide +kernel
theorem at_403_1 : am_at (am_m 403) 1 = some (.iconst 0, 0) := by decide +kernel
theorem at_403_2 : am_at (am_m 403) 2 = some (.putfield 382, 3120) := by decide +kernel
theorem at_403_5 : am_at (am_m 403) 5 = some (.aload_n 0, 0) := by decide +kernel
theorem at_403_6 : am_at (am_m 403) 6 = some (.iconst 0, 0) := by decide +kernel
theorem at_403_7 : am_at (am_m 403) 7 = some (.putfield 379, 3122) := by decide +kernel
theorem at_403_10 : am_at (am_m 403) 10 = some (.aload_n 0, 0) := by decide +kernel
theorem at_403_11 : am_at (am_m 403) 11 = some (.iconst 0, 0) := by decide +kernel
theorem at_403_12 : am_at (am_m 403) 12 = some (.putfield 385, 3121) := by decide +kernel
theorem at_403_15 : am_at (am_m 403) 15 = some (.aload_n 0, 0) := by decide +kernel
theorem at_403_16 : am_at (am_m 403) 16 = some (.getfield 303, 3085) := by decide +kernel
theorem at_403_19 : am_at (am_m 403) 19 = some (.ifCond .ne 10, 29) := by decide +kernel
theorem at_403_22 : am_at (am_m 403) 22 = some (.aload_n 0, 0) := by decide +kernel
theorem at_403_23 : am_at (am_m 403) 23 = some (.invokevirtual 388, 404) := by decide +kernel
theorem at_403_26 : am_at (am_m 403) 26 = some (.goto 37, 63) := by decide +kernel
theorem at_403_29 : am_at (am_m 403) 29 = some (.aload_n 0, 0) := by decide +kernel
theorem at_403_30 : am_at (am_m 403) 30 = some (.getfield 303, 3085) := by decide +kernel
theorem at_403_33 : am_at (am_m 403) 33 = some (.iconst 1, 0) := by decide +kernel
theorem at_403_34 : am_at (am_m 403) 34 = some (.if_icmp .ne 10, 44) := by decide +kernel
theorem at_403_37 : am_at (am_m 403) 37 = some (.aload_n 0, 0) := by decide +kernel
theorem at_403_38 : am_at (am_m 403) 38 = some (.invokevirtual 391, 415) := by decide +kernel
theorem at_403_41 : am_at (am_m 403) 41 = some (.goto 22, 63) := by decide +kernel
theorem at_403_44 : am_at (am_m 403) 44 = some (.aload_n 0, 0) := by decide +kernel
theorem at_403_45 : am_at (am_m 403) 45 = some (.getfield 303, 3085) := by decide +kernel
theorem at_403_48 : am_at (am_m 403) 48 = some (.iconst 2, 0) := by decide +kernel
theorem at_403_49 : am_at (am_m 403) 49 = some (.if_icmp .ne 10, 59) := by decide +kernel
theorem at_403_52 : am_at (am_m 403) 52 = some (.aload_n 0, 0) := by decide +kernel
theorem at_403_53 : am_at (am_m 403) 53 = some (.invokevirtual 394, 416) := by decide +kernel
theorem at_403_56 : am_at (am_m 403) 56 = some (.goto 7, 63) := by decide +kernel
theorem at_403_59 : am_at (am_m 403) 59 = some (.aload_n 0, 0) := by decide +kernel
theorem at_403_60 : am_at (am_m 403) 60 = some (.invokevirtual 397, 417) := by decide +kernel
theorem at_403_63 : am_at (am_m 403) 63 = some (.aload_n 0, 0) := by decide +kernel
theorem at_403_64 : am_at (am_m 403) 64 = some (.aload_n 0, 0) := by decide +kernel
theorem at_403_65 : am_at (am_m 403) 65 = some (.getfield 382, 3120) := by decide +kernel
theorem at_403_68 : am_at (am_m 403) 68 = some (.ifCond .le 7, 75) := by decide +kernel
theorem at_403_71 : am_at (am_m 403) 71 = some (.iconst 0, 0) := by decide +kernel
theorem at_403_72 : am_at (am_m 403) 72 = some (.goto 7, 79) := by decide +kernel
theorem at_403_75 : am_at (am_m 403) 75 = some (.aload_n 0, 0) := by decide +kernel
theorem at_403_76 : am_at (am_m 403) 76 = some (.getfield 385, 3121) := by decide +kernel
theorem at_403_79 : am_at (am_m 403) 79 = some (.putfield 385, 3121) := by decide +kernel
theorem at_403_82 : am_at (am_m 403) 82 = some (.return_, 0) := by decide +kernel
theorem at_404_0 : am_at (am_m 404) 0 = some (.aload_n 0, 0) := by decide +kernel
theorem at_404_1 : am_at (am_m 404) 1 = some (.invokevirtual 406, 405) := by decide +kernel
theorem at_404_4 : am_at (am_m 404) 4 = some (.aload_n 0, 0) := by decide +kernel
theorem at_404_5 : am_at (am_m 404) 5 = some (.iconst 0, 0) := by decide +kernel
theorem at_404_6 : am_at (am_m 404) 6 = some (.putfield 409, 3137) := by decide +kernel
theorem at_404_9 : am_at (am_m 404) 9 = some (.aload_n 0, 0) := by decide +kernel
theorem at_404_10 : am_at (am_m 404) 10 = some (.iconst 0, 0) := by decide +kernel
theorem at_404_11 : am_at (am_m 404) 11 = some (.invokevirtual 412, 406) := by decide +kernel
theorem at_404_14 : am_at (am_m 404) 14 = some (.aload_n 0, 0) := by decide +kernel
theorem at_404_15 : am_at (am_m 404) 15 = some (.getfield 409, 3137) := by decide +kernel
theorem at_404_18 : am_at (am_m 404) 18 = some (.ifCond .le 66, 84) := by decide +kernel
theorem at_404_21 : am_at (am_m 404) 21 = some (.aload_n 0, 0) := by decide +kernel
theorem at_404_22 : am_at (am_m 404) 22 = some (.getfield 382, 3120) := by decide +kernel
theorem at_404_25 : am_at (am_m 404) 25 = some (.ifCond .ne 59, 84) := by decide +kernel
theorem at_404_28 : am_at (am_m 404) 28 = some (.aload_n 0, 0) := by decide +kernel
theorem at_404_29 : am_at (am_m 404) 29 = some (.getfield 409, 3137) := by decide +kernel
theorem at_404_32 : am_at (am_m 404) 32 = some (.iconst 1, 0) := by decide +kernel
theorem at_404_33 : am_at (am_m 404) 33 = some (.isub, 0) := by decide +kernel
theorem at_404_34 : am_at (am_m 404) 34 = some (.istore_n 1, 0) := by decide +kernel
theorem at_404_35 : am_at (am_m 404) 35 = some (.aload_n 0, 0) := by decide +kernel
theorem at_404_36 : am_at (am_m 404) 36 = some (.getfield 127, 3132) := by decide +kernel
theorem at_404_39 : am_at (am_m 404) 39 = some (.iload_n 1, 0) := by decide +kernel
theorem at_404_40 : am_at (am_m 404) 40 = some (.iaload, 0) := by decide +kernel
theorem at_404_41 : am_at (am_m 404) 41 = some (.istore_n 2, 0) := by decide +kernel
theorem at_404_42 : am_at (am_m 404) 42 = some (.aload_n 0, 0) := by decide +kernel
theorem at_404_43 : am_at (am_m 404) 43 = some (.getfield 45, 3088) := by decide +kernel
theorem at_404_46 : am_at (am_m 404) 46 = some (.iload_n 2, 0) := by decide +kernel
theorem at_404_47 : am_at (am_m 404) 47 = some (.iaload, 0) := by decide +kernel
theorem at_404_48 : am_at (am_m 404) 48 = some (.istore_n 3, 0) := by decide +kernel
theorem at_404_49 : am_at (am_m 404) 49 = some (.iload_n 3, 0) := by decide +kernel
theorem at_404_50 : am_at (am_m 404) 50 = some (.invokestatic 327, 343) := by decide +kernel
theorem at_404_53 : am_at (am_m 404) 53 = some (.ifCond .ne 21, 74) := by decide +kernel
theorem at_404_56 : am_at (am_m 404) 56 = some (.aload_n 0, 0) := by decide +kernel
theorem at_404_57 : am_at (am_m 404) 57 = some (.aload_n 0, 0) := by decide +kernel
theorem at_404_58 : am_at (am_m 404) 58 = some (.iload_n 3, 0) := by decide +kernel
theorem at_404_59 : am_at (am_m 404) 59 = some (.aload_n 0, 0) := by decide +kernel
theorem at_404_60 : am_at (am_m 404) 60 = some (.getfield 48, 3089) := by decide +kernel
theorem at_404_63 : am_at (am_m 404) 63 = some (.iload_n 2, 0) := by decide +kernel
theorem at_404_64 : am_at (am_m 404) 64 = some (.iaload, 0) := by decide +kernel
theorem at_404_65 : am_at (am_m 404) 65 = some (.invokevirtual 416, 408) := by decide +kernel
theorem at_404_68 : am_at (am_m 404) 68 = some (.invokevirtual 420, 409) := by decide +kernel
theorem at_404_71 : am_at (am_m 404) 71 = some (.goto 10, 81) := by decide +kernel
theorem at_404_74 : am_at (am_m 404) 74 = some (.aload_n 0, 0) := by decide +kernel
theorem at_404_75 : am_at (am_m 404) 75 = some (.iload_n 1, 0) := by decide +kernel
theorem at_404_76 : am_at (am_m 404) 76 = some (.iload_n 2, 0) := by decide +kernel
theorem at_404_77 : am_at (am_m 404) 77 = some (.iload_n 3, 0) := by decide +kernel
theorem at_404_78 : am_at (am_m 404) 78 = some (.invokevirtual 423, 410) := by decide +kernel
theorem at_404_81 : am_at (am_m 404) 81 = some (.goto (-67), 14) := by decide +kernel
theorem at_404_84 : am_at (am_m 404) 84 = some (.aload_n 0, 0) := by decide +kernel
theorem at_404_85 : am_at (am_m 404) 85 = some (.aload_n 0, 0) := by decide +kernel
theorem at_404_86 : am_at (am_m 404) 86 = some (.getfield 427, 3138) := by decide +kernel
theorem at_404_89 : am_at (am_m 404) 89 = some (.putfield 385, 3121) := by decide +kernel
theorem at_404_92 : am_at (am_m 404) 92 = some (.return_, 0) := by decide +kernel
theorem at_405_0 : am_at (am_m 405) 0 = some (.aload_n 0, 0) := by decide +kernel
theorem at_405_1 : am_at (am_m 405) 1 = some (.getfield 306, 3086) := by decide +kernel
theorem at_405_4 : am_at (am_m 405) 4 = some (.iconst 1, 0) := by decide +kernel
theorem at_405_5 : am_at (am_m 405) 5 = some (.isub, 0) := by decide +kernel
theorem at_405_6 : am_at (am_m 405) 6 = some (.istore_n 1, 0) := by decide +kernel
theorem at_405_7 : am_at (am_m 405) 7 = some (.iload_n 1, 0) := by decide +kernel
theorem at_405_8 : am_at (am_m 405) 8 = some (.ifCond .lt 50, 58) := by decide +kernel
theorem at_405_11 : am_at (am_m 405) 11 = some (.iconst 1, 0) := by decide +kernel
theorem at_405_12 : am_at (am_m 405) 12 = some (.istore_n 2, 0) := by decide +kernel
theorem at_405_13 : am_at (am_m 405) 13 = some (.iconst 0, 0) := by decide +kernel
theorem at_405_14 : am_at (am_m 405) 14 = some (.istore_n 3, 0) := by decide +kernel
theorem at_405_15 : am_at (am_m 405) 15 = some (.iload_n 3, 0) := by decide +kernel
theorem at_405_16 : am_at (am_m 405) 16 = some (.aload_n 0, 0) := by decide +kernel
theorem at_405_17 : am_at (am_m 405) 17 = some (.getfield 45, 3088) := by decide +kernel
theorem at_405_20 : am_at (am_m 405) 20 = some (.iload_n 1, 0) := by decide +kernel
theorem at_405_21 : am_at (am_m 405) 21 = some (.iaload, 0) := by decide +kernel
theorem at_405_22 : am_at (am_m 405) 22 = some (.invokestatic 327, 343) := by decide +kernel
theorem at_405_25 : am_at (am_m 405) 25 = some (.if_icmp .ge 20, 45) := by decide +kernel
theorem at_405_28 : am_at (am_m 405) 28 = some (.iload_n 2, 0) := by decide +kernel
theorem at_405_29 : am_at (am_m 405) 29 = some (.aload_n 0, 0) := by decide +kernel
theorem at_405_30 : am_at (am_m 405) 30 = some (.getfield 139, 3136) := by decide +kernel
theorem at_405_33 : am_at (am_m 405) 33 = some (.iload_n 1, 0) := by decide +kernel
theorem at_405_34 : am_at (am_m 405) 34 = some (.iload_n 2, 0) := by decide +kernel
theorem at_405_35 : am_at (am_m 405) 35 = some (.iadd, 0) := by decide +kernel
theorem at_405_36 : am_at (am_m 405) 36 = some (.iaload, 0) := by decide +kernel
theorem at_405_37 : am_at (am_m 405) 37 = some (.iadd, 0) := by decide +kernel
theorem at_405_38 : am_at (am_m 405) 38 = some (.istore_n 2, 0) := by decide +kernel
theorem at_405_39 : am_at (am_m 405) 39 = some (.iinc 3 1, 0) := by decide +kernel
theorem at_405_42 : am_at (am_m 405) 42 = some (.goto (-27), 15) := by decide +kernel
theorem at_405_45 : am_at (am_m 405) 45 = some (.aload_n 0, 0) := by decide +kernel
theorem at_405_46 : am_at (am_m 405) 46 = some (.getfield 139, 3136) := by decide +kernel
theorem at_405_49 : am_at (am_m 405) 49 = some (.iload_n 1, 0) := by decide +kernel
theorem at_405_50 : am_at (am_m 405) 50 = some (.iload_n 2, 0) := by decide +kernel
theorem at_405_51 : am_at (am_m 405) 51 = some (.iastore, 0) := by decide +kernel
theorem at_405_52 : am_at (am_m 405) 52 = some (.iinc 1 (-1), 0) := by decide +kernel
theorem at_405_55 : am_at (am_m 405) 55 = some (.goto (-48), 7) := by decide +kernel
theorem at_405_58 : am_at (am_m 405) 58 = some (.return_, 0) := by decide +kernel
theorem at_406_0 : am_at (am_m 406) 0 = some (.aload_n 0, 0) := by decide +kernel
theorem at_406_1 : am_at (am_m 406) 1 = some (.invokevirtual 430, 407) := by decide +kernel
theorem at_406_4 : am_at (am_m 406) 4 = some (.ifCond .ne 4, 8) := by decide +kernel
theorem at_406_7 : am_at (am_m 406) 7 = some (.return_, 0) := by decide +kernel
theorem at_406_8 : am_at (am_m 406) 8 = some (.aload_n 0, 0) := by decide +kernel
theorem at_406_9 : am_at (am_m 406) 9 = some (.getfield 127, 3132) := by decide +kernel
theorem at_406_12 : am_at (am_m 406) 12 = some (.aload_n 0, 0) := by decide +kernel
theorem at_406_13 : am_at (am_m 406) 13 = some (.getfield 409, 3137) := by decide +kernel
theorem at_406_16 : am_at (am_m 406) 16 = some (.iload_n 1, 0) := by decide +kernel
theorem at_406_17 : am_at (am_m 406) 17 = some (.iastore, 0) := by decide +kernel
theorem at_406_18 : am_at (am_m 406) 18 = some (.aload_n 0, 0) := by decide +kernel
theorem at_406_19 : am_at (am_m 406) 19 = some (.getfield 130, 3133) := by decide +kernel
theorem at_406_22 : am_at (am_m 406) 22 = some (.aload_n 0, 0) := by decide +kernel
theorem at_406_23 : am_at (am_m 406) 23 = some (.getfield 409, 3137) := by decide +kernel
theorem at_406_26 : am_at (am_m 406) 26 = some (.iconst 0, 0) := by decide +kernel
theorem at_406_27 : am_at (am_m 406) 27 = some (.iastore, 0) := by decide +kernel
theorem at_406_28 : am_at (am_m 406) 28 = some (.aload_n 0, 0) := by decide +kernel
theorem at_406_29 : am_at (am_m 406) 29 = some (.dup, 0) := by decide +kernel
theorem at_406_30 : am_at (am_m 406) 30 = some (.getfield 409, 3137) := by decide +kernel
theorem at_406_33 : am_at (am_m 406) 33 = some (.iconst 1, 0) := by decide +kernel
theorem at_406_34 : am_at (am_m 406) 34 = some (.iadd, 0) := by decide +kernel
theorem at_406_35 : am_at (am_m 406) 35 = some (.putfield 409, 3137) := by decide +kernel
theorem at_406_38 : am_at (am_m 406) 38 = some (.return_, 0) := by decide +kernel
theorem at_407_0 : am_at (am_m 407) 0 = some (.aload_n 0, 0) := by decide +kernel
theorem at_407_1 : am_at (am_m 407) 1 = some (.getfield 379, 3122) := by decide +kernel
theorem at_407_4 : am_at (am_m 407) 4 = some (.aload_n 0, 0) := by decide +kernel
theorem at_407_5 : am_at (am_m 407) 5 = some (.getfield 106, 3114) := by decide +kernel
theorem at_407_8 : am_at (am_m 407) 8 = some (.iconst 0, 0) := by decide +kernel
theorem at_407_9 : am_at (am_m 407) 9 = some (.iaload, 0) := by decide +kernel
theorem at_407_10 : am_at (am_m 407) 10 = some (.if_icmp .ne 10, 20) := by decide +kernel
theorem at_407_13 : am_at (am_m 407) 13 = some (.aload_n 0, 0) := by decide +kernel
theorem at_407_14 : am_at (am_m 407) 14 = some (.iconst 3, 0) := by decide +kernel
theorem at_407_15 : am_at (am_m 407) 15 = some (.putfield 382, 3120) := by decide +kernel
theorem at_407_18 : am_at (am_m 407) 18 = some (.iconst 0, 0) := by decide +kernel
theorem at_407_19 : am_at (am_m 407) 19 = some (.ireturn, 0) := by decide +kernel
theorem at_407_20 : am_at (am_m 407) 20 = some (.aload_n 0, 0) := by decide +kernel
theorem at_407_21 : am_at (am_m 407) 21 = some (.dup, 0) := by decide +kernel
theorem at_407_22 : am_at (am_m 407) 22 = some (.getfield 379, 3122) := by decide +kernel
theorem at_407_25 : am_at (am_m 407) 25 = some (.iconst 1, 0) := by decide +kernel
theorem at_407_26 : am_at (am_m 407) 26 = some (.iadd, 0) := by decide +kernel
theorem at_407_27 : am_at (am_m 407) 27 = some (.putfield 379, 3122) := by decide +kernel
theorem at_407_30 : am_at (am_m 407) 30 = some (.iconst 1, 0) := by decide +kernel
theorem at_407_31 : am_at (am_m 407) 31 = some (.ireturn, 0) := by decide +kernel
theorem at_408_0 : am_at (am_m 408) 0 = some (.iload_n 1, 0) := by decide +kernel
theorem at_408_1 : am_at (am_m 408) 1 = some (.ifCond .ne 7, 8) := by decide +kernel
theorem at_408_4 : am_at (am_m 408) 4 = some (.iload_n 2, 0) := by decide +kernel
theorem at_408_5 : am_at (am_m 408) 5 = some (.goto 67, 72) := by decide +kernel
theorem at_408_8 : am_at (am_m 408) 8 = some (.iload_n 1, 0) := by decide +kernel
theorem at_408_9 : am_at (am_m 408) 9 = some (.iconst 1, 0) := by decide +kernel
theorem at_408_10 : am_at (am_m 408) 10 = some (.if_icmp .ne 10, 20) := by decide +kernel
theorem at_408_13 : am_at (am_m 408) 13 = some (.aload_n 0, 0) := by decide +kernel
theorem at_408_14 : am_at (am_m 408) 14 = some (.getfield 367, 3123) := by decide +kernel
theorem at_408_17 : am_at (am_m 408) 17 = some (.goto 55, 72) := by decide +kernel
theorem at_408_20 : am_at (am_m 408) 20 = some (.iload_n 1, 0) := by decide +kernel
theorem at_408_21 : am_at (am_m 408) 21 = some (.iconst 2, 0) := by decide +kernel
theorem at_408_22 : am_at (am_m 408) 22 = some (.if_icmp .ne 10, 32) := by decide +kernel
theorem at_408_25 : am_at (am_m 408) 25 = some (.aload_n 0, 0) := by decide +kernel
theorem at_408_26 : am_at (am_m 408) 26 = some (.getfield 370, 3124) := by decide +kernel
theorem at_408_29 : am_at (am_m 408) 29 = some (.goto 43, 72) := by decide +kernel
theorem at_408_32 : am_at (am_m 408) 32 = some (.iload_n 1, 0) := by decide +kernel
theorem at_408_33 : am_at (am_m 408) 33 = some (.iconst 3, 0) := by decide +kernel
theorem at_408_34 : am_at (am_m 408) 34 = some (.if_icmp .ne 10, 44) := by decide +kernel
theorem at_408_37 : am_at (am_m 408) 37 = some (.aload_n 0, 0) := by decide +kernel
theorem at_408_38 : am_at (am_m 408) 38 = some (.getfield 373, 3125) := by decide +kernel
theorem at_408_41 : am_at (am_m 408) 41 = some (.goto 31, 72) := by decide +kernel
theorem at_408_44 : am_at (am_m 408) 44 = some (.iload_n 1, 0) := by decide +kernel
theorem at_408_45 : am_at (am_m 408) 45 = some (.iconst 4, 0) := by decide +kernel
theorem at_408_46 : am_at (am_m 408) 46 = some (.if_icmp .ne 10, 56) := by decide +kernel
theorem at_408_49 : am_at (am_m 408) 49 = some (.aload_n 0, 0) := by decide +kernel
theorem at_408_50 : am_at (am_m 408) 50 = some (.getfield 376, 3126) := by decide +kernel
theorem at_408_53 : am_at (am_m 408) 53 = some (.goto 19, 72) := by decide +kernel
theorem at_408_56 : am_at (am_m 408) 56 = some (.iload_n 1, 0) := by decide +kernel
theorem at_408_57 : am_at (am_m 408) 57 = some (.iconst 5, 0) := by decide +kernel
theorem at_408_58 : am_at (am_m 408) 58 = some (.if_icmp .ne 10, 68) := by decide +kernel
theorem at_408_61 : am_at (am_m 408) 61 = some (.aload_n 0, 0) := by decide +kernel
theorem at_408_62 : am_at (am_m 408) 62 = some (.getfield 400, 3130) := by decide +kernel
theorem at_408_65 : am_at (am_m 408) 65 = some (.goto 7, 72) := by decide +kernel
theorem at_408_68 : am_at (am_m 408) 68 = some (.aload_n 0, 0) := by decide +kernel
theorem at_408_69 : am_at (am_m 408) 69 = some (.getfield 403, 3131) := by decide +kernel
theorem at_408_72 : am_at (am_m 408) 72 = some (.ireturn, 0) := by decide +kernel
theorem at_409_0 : am_at (am_m 409) 0 = some (.aload_n 0, 0) := by decide +kernel
theorem at_409_1 : am_at (am_m 409) 1 = some (.dup, 0) := by decide +kernel
theorem at_409_2 : am_at (am_m 409) 2 = some (.getfield 409, 3137) := by decide +kernel
theorem at_409_5 : am_at (am_m 409) 5 = some (.iconst 1, 0) := by decide +kernel
theorem at_409_6 : am_at (am_m 409) 6 = some (.isub, 0) := by decide +kernel
theorem at_409_7 : am_at (am_m 409) 7 = some (.putfield 409, 3137) := by decide +kernel
theorem at_409_10 : am_at (am_m 409) 10 = some (.aload_n 0, 0) := by decide +kernel
theorem at_409_11 : am_at (am_m 409) 11 = some (.iload_n 1, 0) := by decide +kernel
theorem at_409_12 : am_at (am_m 409) 12 = some (.putfield 427, 3138) := by decide +kernel
theorem at_409_15 : am_at (am_m 409) 15 = some (.return_, 0) := by decide +kernel
theorem at_410_0 : am_at (am_m 410) 0 = some (.aload_n 0, 0) := by decide +kernel
theorem at_410_1 : am_at (am_m 410) 1 = some (.getfield 130, 3133) := by decide +kernel
theorem at_410_4 : am_at (am_m 410) 4 = some (.iload_n 1, 0) := by decide +kernel
theorem at_410_5 : am_at (am_m 410) 5 = some (.iaload, 0) := by decide +kernel
theorem at_410_6 : am_at (am_m 410) 6 = some (.istore 4, 0) := by decide +kernel
theorem at_410_8 : am_at (am_m 410) 8 = some (.aload_n 0, 0) := by decide +kernel
theorem at_410_9 : am_at (am_m 410) 9 = some (.getfield 130, 3133) := by decide +kernel
theorem at_410_12 : am_at (am_m 410) 12 = some (.iload_n 1, 0) := by decide +kernel
theorem at_410_13 : am_at (am_m 410) 13 = some (.dup2, 0) := by decide +kernel
theorem at_410_14 : am_at (am_m 410) 14 = some (.iaload, 0) := by decide +kernel
theorem at_410_15 : am_at (am_m 410) 15 = some (.iconst 1, 0) := by decide +kernel
theorem at_410_16 : am_at (am_m 410) 16 = some (.iadd, 0) := by decide +kernel
theorem at_410_17 : am_at (am_m 410) 17 = some (.iastore, 0) := by decide +kernel
theorem at_410_18 : am_at (am_m 410) 18 = some (.iload 4, 0) := by decide +kernel
theorem at_410_20 : am_at (am_m 410) 20 = some (.ifCond .ne 11, 31) := by decide +kernel
theorem at_410_23 : am_at (am_m 410) 23 = some (.aload_n 0, 0) := by decide +kernel
theorem at_410_24 : am_at (am_m 410) 24 = some (.iload_n 2, 0) := by decide +kernel
theorem at_410_25 : am_at (am_m 410) 25 = some (.iconst 1, 0) := by decide +kernel
theorem at_410_26 : am_at (am_m 410) 26 = some (.iadd, 0) := by decide +kernel
theorem at_410_27 : am_at (am_m 410) 27 = some (.invokevirtual 412, 406) := by decide +kernel
theorem at_410_30 : am_at (am_m 410) 30 = some (.return_, 0) := by decide +kernel
theorem at_410_31 : am_at (am_m 410) 31 = some (.iload 4, 0) := by decide +kernel
theorem at_410_33 : am_at (am_m 410) 33 = some (.iconst 1, 0) := by decide +kernel
theorem at_410_34 : am_at (am_m 410) 34 = some (.if_icmp .ne 13, 47) := by decide +kernel
theorem at_410_37 : am_at (am_m 410) 37 = some (.aload_n 0, 0) := by decide +kernel
theorem at_410_38 : am_at (am_m 410) 38 = some (.getfield 133, 3134) := by decide +kernel
theorem at_410_41 : am_at (am_m 410) 41 = some (.iload_n 1, 0) := by decide +kernel
theorem at_410_42 : am_at (am_m 410) 42 = some (.aload_n 0, 0) := by decide +kernel
theorem at_410_43 : am_at (am_m 410) 43 = some (.getfield 427, 3138) := by decide +kernel
theorem at_410_46 : am_at (am_m 410) 46 = some (.iastore, 0) := by decide +kernel
theorem at_410_47 : am_at (am_m 410) 47 = some (.iload_n 3, 0) := by decide +kernel
theorem at_410_48 : am_at (am_m 410) 48 = some (.bipush 7, 0) := by decide +kernel
theorem at_410_50 : am_at (am_m 410) 50 = some (.if_icmp .eq 15, 65) := by decide +kernel
theorem at_410_53 : am_at (am_m 410) 53 = some (.iload_n 3, 0) := by decide +kernel
theorem at_410_54 : am_at (am_m 410) 54 = some (.bipush 8, 0) := by decide +kernel
theorem at_410_56 : am_at (am_m 410) 56 = some (.if_icmp .eq 9, 65) := by decide +kernel
theorem at_410_59 : am_at (am_m 410) 59 = some (.iload_n 3, 0) := by decide +kernel
theorem at_410_60 : am_at (am_m 410) 60 = some (.bipush 9, 0) := by decide +kernel
theorem at_410_62 : am_at (am_m 410) 62 = some (.if_icmp .ne 53, 115) := by decide +kernel
theorem at_410_65 : am_at (am_m 410) 65 = some (.aload_n 0, 0) := by decide +kernel
theorem at_410_66 : am_at (am_m 410) 66 = some (.iload_n 3, 0) := by decide +kernel
theorem at_410_67 : am_at (am_m 410) 67 = some (.bipush 7, 0) := by decide +kernel
theorem at_410_69 : am_at (am_m 410) 69 = some (.if_icmp .ne 13, 82) := by decide +kernel
theorem at_410_72 : am_at (am_m 410) 72 = some (.aload_n 0, 0) := by decide +kernel
theorem at_410_73 : am_at (am_m 410) 73 = some (.getfield 133, 3134) := by decide +kernel
theorem at_410_76 : am_at (am_m 410) 76 = some (.iload_n 1, 0) := by decide +kernel
theorem at_410_77 : am_at (am_m 410) 77 = some (.iaload, 0) := by decide +kernel
theorem at_410_78 : am_at (am_m 410) 78 = some (.ineg, 0) := by decide +kernel
theorem at_410_79 : am_at (am_m 410) 79 = some (.goto 30, 109) := by decide +kernel
theorem at_410_82 : am_at (am_m 410) 82 = some (.iload_n 3, 0) := by decide +kernel
theorem at_410_83 : am_at (am_m 410) 83 = some (.bipush 8, 0) := by decide +kernel
theorem at_410_85 : am_at (am_m 410) 85 = some (.if_icmp .ne 16, 101) := by decide +kernel
theorem at_410_88 : am_at (am_m 410) 88 = some (.aload_n 0, 0) := by decide +kernel
theorem at_410_89 : am_at (am_m 410) 89 = some (.aload_n 0, 0) := by decide +kernel
theorem at_410_90 : am_at (am_m 410) 90 = some (.getfield 133, 3134) := by decide +kernel
theorem at_410_93 : am_at (am_m 410) 93 = some (.iload_n 1, 0) := by decide +kernel
theorem at_410_94 : am_at (am_m 410) 94 = some (.iaload, 0) := by decide +kernel
theorem at_410_95 : am_at (am_m 410) 95 = some (.invokevirtual 434, 411) := by decide +kernel
theorem at_410_98 : am_at (am_m 410) 98 = some (.goto 11, 109) := by decide +kernel
theorem at_410_101 : am_at (am_m 410) 101 = some (.iconst 1, 0) := by decide +kernel
theorem at_410_102 : am_at (am_m 410) 102 = some (.aload_n 0, 0) := by decide +kernel
theorem at_410_103 : am_at (am_m 410) 103 = some (.getfield 133, 3134) := by decide +kernel
theorem at_410_106 : am_at (am_m 410) 106 = some (.iload_n 1, 0) := by decide +kernel
theorem at_410_107 : am_at (am_m 410) 107 = some (.iaload, 0) := by decide +kernel
theorem at_410_108 : am_at (am_m 410) 108 = some (.isub, 0) := by decide +kernel
theorem at_410_109 : am_at (am_m 410) 109 = some (.invokevirtual 420, 409) := by decide +kernel
theorem at_410_112 : am_at (am_m 410) 112 = some (.goto 174, 286) := by decide +kernel
theorem at_410_115 : am_at (am_m 410) 115 = some (.iload_n 3, 0) := by decide +kernel
theorem at_410_116 : am_at (am_m 410) 116 = some (.bipush 17, 0) := by decide +kernel
theorem at_410_118 : am_at (am_m 410) 118 = some (.if_icmp .ge 43, 161) := by decide +kernel
theorem at_410_121 : am_at (am_m 410) 121 = some (.iload 4, 0) := by decide +kernel
theorem at_410_123 : am_at (am_m 410) 123 = some (.iconst 1, 0) := by decide +kernel
theorem at_410_124 : am_at (am_m 410) 124 = some (.if_icmp .ne 15, 139) := by decide +kernel
theorem at_410_127 : am_at (am_m 410) 127 = some (.aload_n 0, 0) := by decide +kernel
theorem at_410_128 : am_at (am_m 410) 128 = some (.aload_n 0, 0) := by decide +kernel
theorem at_410_129 : am_at (am_m 410) 129 = some (.iload_n 2, 0) := by decide +kernel
theorem at_410_130 : am_at (am_m 410) 130 = some (.invokevirtual 437, 412) := by decide +kernel
theorem at_410_133 : am_at (am_m 410) 133 = some (.invokevirtual 412, 406) := by decide +kernel
theorem at_410_136 : am_at (am_m 410) 136 = some (.goto 150, 286) := by decide +kernel
theorem at_410_139 : am_at (am_m 410) 139 = some (.aload_n 0, 0) := by decide +kernel
theorem at_410_140 : am_at (am_m 410) 140 = some (.aload_n 0, 0) := by decide +kernel
theorem at_410_141 : am_at (am_m 410) 141 = some (.iload_n 3, 0) := by decide +kernel
theorem at_410_142 : am_at (am_m 410) 142 = some (.aload_n 0, 0) := by decide +kernel
theorem at_410_143 : am_at (am_m 410) 143 = some (.getfield 133, 3134) := by decide +kernel
theorem at_410_146 : am_at (am_m 410) 146 = some (.iload_n 1, 0) := by decide +kernel
theorem at_410_147 : am_at (am_m 410) 147 = some (.iaload, 0) := by decide +kernel
theorem at_410_148 : am_at (am_m 410) 148 = some (.aload_n 0, 0) := by decide +kernel
theorem at_410_149 : am_at (am_m 410) 149 = some (.getfield 427, 3138) := by decide +kernel
theorem at_410_152 : am_at (am_m 410) 152 = some (.invokevirtual 440, 413) := by decide +kernel
theorem at_410_155 : am_at (am_m 410) 155 = some (.invokevirtual 420, 409) := by decide +kernel
theorem at_410_158 : am_at (am_m 410) 158 = some (.goto 128, 286) := by decide +kernel
theorem at_410_161 : am_at (am_m 410) 161 = some (.iload_n 3, 0) := by decide +kernel
theorem at_410_162 : am_at (am_m 410) 162 = some (.bipush 19, 0) := by decide +kernel
theorem at_410_164 : am_at (am_m 410) 164 = some (.if_icmp .ge 52, 216) := by decide +kernel
theorem at_410_167 : am_at (am_m 410) 167 = some (.iload 4, 0) := by decide +kernel
theorem at_410_169 : am_at (am_m 410) 169 = some (.iconst 1, 0) := by decide +kernel
theorem at_410_170 : am_at (am_m 410) 170 = some (.if_icmp .ne 35, 205) := by decide +kernel
theorem at_410_173 : am_at (am_m 410) 173 = some (.aload_n 0, 0) := by decide +kernel
theorem at_410_174 : am_at (am_m 410) 174 = some (.getfield 133, 3134) := by decide +kernel
theorem at_410_177 : am_at (am_m 410) 177 = some (.iload_n 1, 0) := by decide +kernel
theorem at_410_178 : am_at (am_m 410) 178 = some (.iaload, 0) := by decide +kernel
theorem at_410_179 : am_at (am_m 410) 179 = some (.iload_n 3, 0) := by decide +kernel
theorem at_410_180 : am_at (am_m 410) 180 = some (.bipush 17, 0) := by decide +kernel
theorem at_410_182 : am_at (am_m 410) 182 = some (.if_icmp .ne 7, 189) := by decide +kernel
theorem at_410_185 : am_at (am_m 410) 185 = some (.iconst 1, 0) := by decide +kernel
theorem at_410_186 : am_at (am_m 410) 186 = some (.goto 4, 190) := by decide +kernel
theorem at_410_189 : am_at (am_m 410) 189 = some (.iconst 0, 0) := by decide +kernel
theorem at_410_190 : am_at (am_m 410) 190 = some (.if_icmp .ne 15, 205) := by decide +kernel
theorem at_410_193 : am_at (am_m 410) 193 = some (.aload_n 0, 0) := by decide +kernel
theorem at_410_194 : am_at (am_m 410) 194 = some (.aload_n 0, 0) := by decide +kernel
theorem at_410_195 : am_at (am_m 410) 195 = some (.iload_n 2, 0) := by decide +kernel
theorem at_410_196 : am_at (am_m 410) 196 = some (.invokevirtual 437, 412) := by decide +kernel
theorem at_410_199 : am_at (am_m 410) 199 = some (.invokevirtual 412, 406) := by decide +kernel
theorem at_410_202 : am_at (am_m 410) 202 = some (.goto 84, 286) := by decide +kernel
theorem at_410_205 : am_at (am_m 410) 205 = some (.aload_n 0, 0) := by decide +kernel
theorem at_410_206 : am_at (am_m 410) 206 = some (.aload_n 0, 0) := by decide +kernel
theorem at_410_207 : am_at (am_m 410) 207 = some (.getfield 427, 3138) := by decide +kernel
theorem at_410_210 : am_at (am_m 410) 210 = some (.invokevirtual 420, 409) := by decide +kernel
theorem at_410_213 : am_at (am_m 410) 213 = some (.goto 73, 286) := by decide +kernel
theorem at_410_216 : am_at (am_m 410) 216 = some (.iload_n 3, 0) := by decide +kernel
theorem at_410_217 : am_at (am_m 410) 217 = some (.bipush 19, 0) := by decide +kernel
theorem at_410_219 : am_at (am_m 410) 219 = some (.if_icmp .ne 14, 233) := by decide +kernel
theorem at_410_222 : am_at (am_m 410) 222 = some (.aload_n 0, 0) := by decide +kernel
theorem at_410_223 : am_at (am_m 410) 223 = some (.iload_n 1, 0) := by decide +kernel
theorem at_410_224 : am_at (am_m 410) 224 = some (.iload_n 2, 0) := by decide +kernel
theorem at_410_225 : am_at (am_m 410) 225 = some (.iload 4, 0) := by decide +kernel
theorem at_410_227 : am_at (am_m 410) 227 = some (.invokevirtual 444, 414) := by decide +kernel
theorem at_410_230 : am_at (am_m 410) 230 = some (.goto 56, 286) := by decide +kernel
theorem at_410_233 : am_at (am_m 410) 233 = some (.aload_n 0, 0) := by decide +kernel
theorem at_410_234 : am_at (am_m 410) 234 = some (.iload_n 2, 0) := by decide +kernel
theorem at_410_235 : am_at (am_m 410) 235 = some (.invokevirtual 437, 412) := by decide +kernel
theorem at_410_238 : am_at (am_m 410) 238 = some (.istore 5, 0) := by decide +kernel
theorem at_410_240 : am_at (am_m 410) 240 = some (.iload 4, 0) := by decide +kernel
theorem at_410_242 : am_at (am_m 410) 242 = some (.iconst 1, 0) := by decide +kernel
theorem at_410_243 : am_at (am_m 410) 243 = some (.if_icmp .ne 35, 278) := by decide +kernel
theorem at_410_246 : am_at (am_m 410) 246 = some (.aload_n 0, 0) := by decide +kernel
theorem at_410_247 : am_at (am_m 410) 247 = some (.aload_n 0, 0) := by decide +kernel
theorem at_410_248 : am_at (am_m 410) 248 = some (.getfield 133, 3134) := by decide +kernel
theorem at_410_251 : am_at (am_m 410) 251 = some (.iload_n 1, 0) := by decide +kernel
theorem at_410_252 : am_at (am_m 410) 252 = some (.iaload, 0) := by decide +kernel
theorem at_410_253 : am_at (am_m 410) 253 = some (.iconst 1, 0) := by decide +kernel
theorem at_410_254 : am_at (am_m 410) 254 = some (.if_icmp .ne 8, 262) := by decide +kernel
theorem at_410_257 : am_at (am_m 410) 257 = some (.iload 5, 0) := by decide +kernel
theorem at_410_259 : am_at (am_m 410) 259 = some (.goto 13, 272) := by decide +kernel
theorem at_410_262 : am_at (am_m 410) 262 = some (.iload 5, 0) := by decide +kernel
theorem at_410_264 : am_at (am_m 410) 264 = some (.aload_n 0, 0) := by decide +kernel
theorem at_410_265 : am_at (am_m 410) 265 = some (.getfield 139, 3136) := by decide +kernel
theorem at_410_268 : am_at (am_m 410) 268 = some (.iload 5, 0) := by decide +kernel
theorem at_410_270 : am_at (am_m 410) 270 = some (.iaload, 0) := by decide +kernel
theorem at_410_271 : am_at (am_m 410) 271 = some (.iadd, 0) := by decide +kernel
theorem at_410_272 : am_at (am_m 410) 272 = some (.invokevirtual 412, 406) := by decide +kernel
theorem at_410_275 : am_at (am_m 410) 275 = some (.goto 11, 286) := by decide +kernel
theorem at_410_278 : am_at (am_m 410) 278 = some (.aload_n 0, 0) := by decide +kernel
theorem at_410_279 : am_at (am_m 410) 279 = some (.aload_n 0, 0) := by decide +kernel
theorem at_410_280 : am_at (am_m 410) 280 = some (.getfield 427, 3138) := by decide +kernel
theorem at_410_283 : am_at (am_m 410) 283 = some (.invokevirtual 420, 409) := by decide +kernel
theorem at_410_286 : am_at (am_m 410) 286 = some (.return_, 0) := by decide +kernel
theorem at_411_0 : am_at (am_m 411) 0 = some (.iload_n 1, 0) := by decide +kernel
theorem at_411_1 : am_at (am_m 411) 1 = some (.i2l, 0) := by decide +kernel
theorem at_411_2 : am_at (am_m 411) 2 = some (.lconst 0, 0) := by decide +kernel
theorem at_411_3 : am_at (am_m 411) 3 = some (.aload_n 0, 0) := by decide +kernel
theorem at_411_4 : am_at (am_m 411) 4 = some (.getfield 376, 3126) := by decide +kernel
theorem at_411_7 : am_at (am_m 411) 7 = some (.i2l, 0) := by decide +kernel
theorem at_411_8 : am_at (am_m 411) 8 = some (.lconst 1, 0) := by decide +kernel
theorem at_411_9 : am_at (am_m 411) 9 = some (.lsub, 0) := by decide +kernel
theorem at_411_10 : am_at (am_m 411) 10 = some (.invokestatic 299, 327) := by decide +kernel
theorem at_411_13 : am_at (am_m 411) 13 = some (.ifCond .ne 10, 23) := by decide +kernel
theorem at_411_16 : am_at (am_m 411) 16 = some (.aload_n 0, 0) := by decide +kernel
theorem at_411_17 : am_at (am_m 411) 17 = some (.iconst 2, 0) := by decide +kernel
theorem at_411_18 : am_at (am_m 411) 18 = some (.putfield 382, 3120) := by decide +kernel
theorem at_411_21 : am_at (am_m 411) 21 = some (.iconst 0, 0) := by decide +kernel
theorem at_411_22 : am_at (am_m 411) 22 = some (.ireturn, 0) := by decide +kernel
theorem at_411_23 : am_at (am_m 411) 23 = some (.aload_n 0, 0) := by decide +kernel
theorem at_411_24 : am_at (am_m 411) 24 = some (.getfield 124, 3127) := by decide +kernel
theorem at_411_27 : am_at (am_m 411) 27 = some (.iload_n 1, 0) := by decide +kernel
theorem at_411_28 : am_at (am_m 411) 28 = some (.iaload, 0) := by decide +kernel
theorem at_411_29 : am_at (am_m 411) 29 = some (.ireturn, 0) := by decide +kernel
theorem at_412_0 : am_at (am_m 412) 0 = some (.iload_n 1, 0) := by decide +kernel
theorem at_412_1 : am_at (am_m 412) 1 = some (.iconst 1, 0) := by decide +kernel
theorem at_412_2 : am_at (am_m 412) 2 = some (.iadd, 0) := by decide +kernel
theorem at_412_3 : am_at (am_m 412) 3 = some (.aload_n 0, 0) := by decide +kernel
theorem at_412_4 : am_at (am_m 412) 4 = some (.getfield 139, 3136) := by decide +kernel
theorem at_412_7 : am_at (am_m 412) 7 = some (.iload_n 1, 0) := by decide +kernel
theorem at_412_8 : am_at (am_m 412) 8 = some (.iconst 1, 0) := by decide +kernel
theorem at_412_9 : am_at (am_m 412) 9 = some (.iadd, 0) := by decide +kernel
theorem at_412_10 : am_at (am_m 412) 10 = some (.iaload, 0) := by decide +kernel
theorem at_412_11 : am_at (am_m 412) 11 = some (.iadd, 0) := by decide +kernel
theorem at_412_12 : am_at (am_m 412) 12 = some (.ireturn, 0) := by decide +kernel
theorem at_413_0 : am_at (am_m 413) 0 = some (.iload_n 1, 0) := by decide +kernel
theorem at_413_1 : am_at (am_m 413) 1 = some (.bipush 13, 0) := by decide +kernel
theorem at_413_3 : am_at (am_m 413) 3 = some (.if_icmp .eq 9, 12) := by decide +kernel
theorem at_413_6 : am_at (am_m 413) 6 = some (.iload_n 1, 0) := by decide +kernel
theorem at_413_7 : am_at (am_m 413) 7 = some (.bipush 14, 0) := by decide +kernel
theorem at_413_9 : am_at (am_m 413) 9 = some (.if_icmp .ne 14, 23) := by decide +kernel
theorem at_413_12 : am_at (am_m 413) 12 = some (.iload_n 3, 0) := by decide +kernel
theorem at_413_13 : am_at (am_m 413) 13 = some (.ifCond .ne 10, 23) := by decide +kernel
theorem at_413_16 : am_at (am_m 413) 16 = some (.aload_n 0, 0) := by decide +kernel
theorem at_413_17 : am_at (am_m 413) 17 = some (.iconst 1, 0) := by decide +kernel
theorem at_413_18 : am_at (am_m 413) 18 = some (.putfield 382, 3120) := by decide +kernel
theorem at_413_21 : am_at (am_m 413) 21 = some (.iconst 0, 0) := by decide +kernel
theorem at_413_22 : am_at (am_m 413) 22 = some (.ireturn, 0) := by decide +kernel
theorem at_413_23 : am_at (am_m 413) 23 = some (.iload_n 1, 0) := by decide +kernel
theorem at_413_24 : am_at (am_m 413) 24 = some (.tableswitch 90 10 15 #[40, 44, 48, 52, 66, 79], 0) := by decide +kernel
theorem at_413_64 : am_at (am_m 413) 64 = some (.iload_n 2, 0) := by decide +kernel
theorem at_413_65 : am_at (am_m 413) 65 = some (.iload_n 3, 0) := by decide +kernel
theorem at_413_66 : am_at (am_m 413) 66 = some (.iadd, 0) := by decide +kernel
theorem at_413_67 : am_at (am_m 413) 67 = some (.ireturn, 0) := by decide +kernel
theorem at_413_68 : am_at (am_m 413) 68 = some (.iload_n 2, 0) := by decide +kernel
theorem at_413_69 : am_at (am_m 413) 69 = some (.iload_n 3, 0) := by decide +kernel
theorem at_413_70 : am_at (am_m 413) 70 = some (.isub, 0) := by decide +kernel
theorem at_413_71 : am_at (am_m 413) 71 = some (.ireturn, 0) := by decide +kernel
theorem at_413_72 : am_at (am_m 413) 72 = some (.iload_n 2, 0) := by decide +kernel
theorem at_413_73 : am_at (am_m 413) 73 = some (.iload_n 3, 0) := by decide +kernel
theorem at_413_74 : am_at (am_m 413) 74 = some (.imul, 0) := by decide +kernel
theorem at_413_75 : am_at (am_m 413) 75 = some (.ireturn, 0) := by decide +kernel
theorem at_413_76 : am_at (am_m 413) 76 = some (.iload_n 3, 0) := by decide +kernel
theorem at_413_77 : am_at (am_m 413) 77 = some (.iconst (-1), 0) := by decide +kernel
theorem at_413_78 : am_at (am_m 413) 78 = some (.if_icmp .ne 8, 86) := by decide +kernel
theorem at_413_81 : am_at (am_m 413) 81 = some (.iload_n 2, 0) := by decide +kernel
theorem at_413_82 : am_at (am_m 413) 82 = some (.ineg, 0) := by decide +kernel
theorem at_413_83 : am_at (am_m 413) 83 = some (.goto 6, 89) := by decide +kernel
theorem at_413_86 : am_at (am_m 413) 86 = some (.iload_n 2, 0) := by decide +kernel
theorem at_413_87 : am_at (am_m 413) 87 = some (.iload_n 3, 0) := by decide +kernel
theorem at_413_88 : am_at (am_m 413) 88 = some (.idiv, 0) := by decide +kernel
theorem at_413_89 : am_at (am_m 413) 89 = some (.ireturn, 0) := by decide +kernel
theorem at_413_90 : am_at (am_m 413) 90 = some (.iload_n 3, 0) := by decide +kernel
theorem at_413_91 : am_at (am_m 413) 91 = some (.iconst (-1), 0) := by decide +kernel
theorem at_413_92 : am_at (am_m 413) 92 = some (.if_icmp .ne 7, 99) := by decide +kernel
theorem at_413_95 : am_at (am_m 413) 95 = some (.iconst 0, 0) := by decide +kernel
theorem at_413_96 : am_at (am_m 413) 96 = some (.goto 6, 102) := by decide +kernel
theorem at_413_99 : am_at (am_m 413) 99 = some (.iload_n 2, 0) := by decide +kernel
theorem at_413_100 : am_at (am_m 413) 100 = some (.iload_n 3, 0) := by decide +kernel
theorem at_413_101 : am_at (am_m 413) 101 = some (.irem, 0) := by decide +kernel
theorem at_413_102 : am_at (am_m 413) 102 = some (.ireturn, 0) := by decide +kernel
theorem at_413_103 : am_at (am_m 413) 103 = some (.iload_n 2, 0) := by decide +kernel
theorem at_413_104 : am_at (am_m 413) 104 = some (.iload_n 3, 0) := by decide +kernel
theorem at_413_105 : am_at (am_m 413) 105 = some (.if_icmp .ge 7, 112) := by decide +kernel
theorem at_413_108 : am_at (am_m 413) 108 = some (.iconst 1, 0) := by decide +kernel
theorem at_413_109 : am_at (am_m 413) 109 = some (.goto 4, 113) := by decide +kernel
theorem at_413_112 : am_at (am_m 413) 112 = some (.iconst 0, 0) := by decide +kernel
theorem at_413_113 : am_at (am_m 413) 113 = some (.ireturn, 0) := by decide +kernel
theorem at_413_114 : am_at (am_m 413) 114 = some (.iload_n 2, 0) := by decide +kernel
theorem at_413_115 : am_at (am_m 413) 115 = some (.iload_n 3, 0) := by decide +kernel
theorem at_413_116 : am_at (am_m 413) 116 = some (.if_icmp .ne 7, 123) := by decide +kernel
theorem at_413_119 : am_at (am_m 413) 119 = some (.iconst 1, 0) := by decide +kernel
theorem at_413_120 : am_at (am_m 413) 120 = some (.goto 4, 124) := by decide +kernel
theorem at_413_123 : am_at (am_m 413) 123 = some (.iconst 0, 0) := by decide +kernel
theorem at_413_124 : am_at (am_m 413) 124 = some (.ireturn, 0) := by decide +kernel
theorem at_414_0 : am_at (am_m 414) 0 = some (.aload_n 0, 0) := by decide +kernel
theorem at_414_1 : am_at (am_m 414) 1 = some (.getfield 133, 3134) := by decide +kernel
theorem at_414_4 : am_at (am_m 414) 4 = some (.iload_n 1, 0) := by decide +kernel
theorem at_414_5 : am_at (am_m 414) 5 = some (.aload_n 0, 0) := by decide +kernel
theorem at_414_6 : am_at (am_m 414) 6 = some (.getfield 427, 3138) := by decide +kernel
theorem at_414_9 : am_at (am_m 414) 9 = some (.iastore, 0) := by decide +kernel
theorem at_414_10 : am_at (am_m 414) 10 = some (.iload_n 3, 0) := by decide +kernel
theorem at_414_11 : am_at (am_m 414) 11 = some (.iconst 1, 0) := by decide +kernel
theorem at_414_12 : am_at (am_m 414) 12 = some (.isub, 0) := by decide +kernel
theorem at_414_13 : am_at (am_m 414) 13 = some (.aload_n 0, 0) := by decide +kernel
theorem at_414_14 : am_at (am_m 414) 14 = some (.getfield 376, 3126) := by decide +kernel
theorem at_414_17 : am_at (am_m 414) 17 = some (.if_icmp .ne 14, 31) := by decide +kernel
theorem at_414_20 : am_at (am_m 414) 20 = some (.aload_n 0, 0) := by decide +kernel
theorem at_414_21 : am_at (am_m 414) 21 = some (.aload_n 0, 0) := by decide +kernel
theorem at_414_22 : am_at (am_m 414) 22 = some (.getfield 133, 3134) := by decide +kernel
theorem at_414_25 : am_at (am_m 414) 25 = some (.iload_n 1, 0) := by decide +kernel
theorem at_414_26 : am_at (am_m 414) 26 = some (.iaload, 0) := by decide +kernel
theorem at_414_27 : am_at (am_m 414) 27 = some (.invokevirtual 420, 409) := by decide +kernel
theorem at_414_30 : am_at (am_m 414) 30 = some (.return_, 0) := by decide +kernel
theorem at_414_31 : am_at (am_m 414) 31 = some (.aload_n 0, 0) := by decide +kernel
theorem at_414_32 : am_at (am_m 414) 32 = some (.aload_n 0, 0) := by decide +kernel
theorem at_414_33 : am_at (am_m 414) 33 = some (.getfield 133, 3134) := by decide +kernel
theorem at_414_36 : am_at (am_m 414) 36 = some (.iload_n 1, 0) := by decide +kernel
theorem at_414_37 : am_at (am_m 414) 37 = some (.iaload, 0) := by decide +kernel
theorem at_414_38 : am_at (am_m 414) 38 = some (.putfield 400, 3130) := by decide +kernel
theorem at_414_41 : am_at (am_m 414) 41 = some (.aload_n 0, 0) := by decide +kernel
theorem at_414_42 : am_at (am_m 414) 42 = some (.aload_n 0, 0) := by decide +kernel
theorem at_414_43 : am_at (am_m 414) 43 = some (.getfield 124, 3127) := by decide +kernel
theorem at_414_46 : am_at (am_m 414) 46 = some (.iload_n 3, 0) := by decide +kernel
theorem at_414_47 : am_at (am_m 414) 47 = some (.iconst 1, 0) := by decide +kernel
theorem at_414_48 : am_at (am_m 414) 48 = some (.isub, 0) := by decide +kernel
theorem at_414_49 : am_at (am_m 414) 49 = some (.iaload, 0) := by decide +kernel
theorem at_414_50 : am_at (am_m 414) 50 = some (.putfield 403, 3131) := by decide +kernel
theorem at_414_53 : am_at (am_m 414) 53 = some (.aload_n 0, 0) := by decide +kernel
theorem at_414_54 : am_at (am_m 414) 54 = some (.aload_n 0, 0) := by decide +kernel
theorem at_414_55 : am_at (am_m 414) 55 = some (.iload_n 2, 0) := by decide +kernel
theorem at_414_56 : am_at (am_m 414) 56 = some (.invokevirtual 437, 412) := by decide +kernel
theorem at_414_59 : am_at (am_m 414) 59 = some (.invokevirtual 412, 406) := by decide +kernel
theorem at_414_62 : am_at (am_m 414) 62 = some (.return_, 0) := by decide +kernel
theorem at_415_0 : am_at (am_m 415) 0 = some (.iconst 0, 0) := by decide +kernel
theorem at_415_1 : am_at (am_m 415) 1 = some (.istore_n 1, 0) := by decide +kernel
theorem at_415_2 : am_at (am_m 415) 2 = some (.iconst 0, 0) := by decide +kernel
theorem at_415_3 : am_at (am_m 415) 3 = some (.istore_n 2, 0) := by decide +kernel
theorem at_415_4 : am_at (am_m 415) 4 = some (.iload_n 2, 0) := by decide +kernel
theorem at_415_5 : am_at (am_m 415) 5 = some (.aload_n 0, 0) := by decide +kernel
theorem at_415_6 : am_at (am_m 415) 6 = some (.getfield 306, 3086) := by decide +kernel
theorem at_415_9 : am_at (am_m 415) 9 = some (.if_icmp .ge 264, 273) := by decide +kernel
theorem at_415_12 : am_at (am_m 415) 12 = some (.aload_n 0, 0) := by decide +kernel
theorem at_415_13 : am_at (am_m 415) 13 = some (.invokevirtual 430, 407) := by decide +kernel
theorem at_415_16 : am_at (am_m 415) 16 = some (.ifCond .eq 257, 273) := by decide +kernel
theorem at_415_19 : am_at (am_m 415) 19 = some (.aload_n 0, 0) := by decide +kernel
theorem at_415_20 : am_at (am_m 415) 20 = some (.getfield 45, 3088) := by decide +kernel
theorem at_415_23 : am_at (am_m 415) 23 = some (.iload_n 2, 0) := by decide +kernel
theorem at_415_24 : am_at (am_m 415) 24 = some (.iaload, 0) := by decide +kernel
theorem at_415_25 : am_at (am_m 415) 25 = some (.istore_n 3, 0) := by decide +kernel
theorem at_415_26 : am_at (am_m 415) 26 = some (.iload_n 2, 0) := by decide +kernel
theorem at_415_27 : am_at (am_m 415) 27 = some (.iconst 1, 0) := by decide +kernel
theorem at_415_28 : am_at (am_m 415) 28 = some (.iadd, 0) := by decide +kernel
theorem at_415_29 : am_at (am_m 415) 29 = some (.istore 4, 0) := by decide +kernel
theorem at_415_31 : am_at (am_m 415) 31 = some (.iload_n 3, 0) := by decide +kernel
theorem at_415_32 : am_at (am_m 415) 32 = some (.iconst 5, 0) := by decide +kernel
theorem at_415_33 : am_at (am_m 415) 33 = some (.if_icmp .ge 20, 53) := by decide +kernel
theorem at_415_36 : am_at (am_m 415) 36 = some (.aload_n 0, 0) := by decide +kernel
theorem at_415_37 : am_at (am_m 415) 37 = some (.getfield 69, 3100) := by decide +kernel
theorem at_415_40 : am_at (am_m 415) 40 = some (.iload_n 1, 0) := by decide +kernel
theorem at_415_41 : am_at (am_m 415) 41 = some (.aload_n 0, 0) := by decide +kernel
theorem at_415_42 : am_at (am_m 415) 42 = some (.iload_n 3, 0) := by decide +kernel
theorem at_415_43 : am_at (am_m 415) 43 = some (.aload_n 0, 0) := by decide +kernel
theorem at_415_44 : am_at (am_m 415) 44 = some (.getfield 48, 3089) := by decide +kernel
theorem at_415_47 : am_at (am_m 415) 47 = some (.iload_n 2, 0) := by decide +kernel
theorem at_415_48 : am_at (am_m 415) 48 = some (.iaload, 0) := by decide +kernel
theorem at_415_49 : am_at (am_m 415) 49 = some (.invokevirtual 416, 408) := by decide +kernel
theorem at_415_52 : am_at (am_m 415) 52 = some (.iastore, 0) := by decide +kernel
theorem at_415_53 : am_at (am_m 415) 53 = some (.iload_n 3, 0) := by decide +kernel
theorem at_415_54 : am_at (am_m 415) 54 = some (.iconst 5, 0) := by decide +kernel
theorem at_415_55 : am_at (am_m 415) 55 = some (.if_icmp .ne 20, 75) := by decide +kernel
theorem at_415_58 : am_at (am_m 415) 58 = some (.aload_n 0, 0) := by decide +kernel
theorem at_415_59 : am_at (am_m 415) 59 = some (.getfield 69, 3100) := by decide +kernel
theorem at_415_62 : am_at (am_m 415) 62 = some (.iload_n 1, 0) := by decide +kernel
theorem at_415_63 : am_at (am_m 415) 63 = some (.iconst 1, 0) := by decide +kernel
theorem at_415_64 : am_at (am_m 415) 64 = some (.isub, 0) := by decide +kernel
theorem at_415_65 : am_at (am_m 415) 65 = some (.aload_n 0, 0) := by decide +kernel
theorem at_415_66 : am_at (am_m 415) 66 = some (.getfield 69, 3100) := by decide +kernel
theorem at_415_69 : am_at (am_m 415) 69 = some (.iload_n 1, 0) := by decide +kernel
theorem at_415_70 : am_at (am_m 415) 70 = some (.iconst 1, 0) := by decide +kernel
theorem at_415_71 : am_at (am_m 415) 71 = some (.isub, 0) := by decide +kernel
theorem at_415_72 : am_at (am_m 415) 72 = some (.iaload, 0) := by decide +kernel
theorem at_415_73 : am_at (am_m 415) 73 = some (.ineg, 0) := by decide +kernel
theorem at_415_74 : am_at (am_m 415) 74 = some (.iastore, 0) := by decide +kernel
theorem at_415_75 : am_at (am_m 415) 75 = some (.iload_n 3, 0) := by decide +kernel
theorem at_415_76 : am_at (am_m 415) 76 = some (.bipush 6, 0) := by decide +kernel
theorem at_415_78 : am_at (am_m 415) 78 = some (.if_icmp .ne 23, 101) := by decide +kernel
theorem at_415_81 : am_at (am_m 415) 81 = some (.aload_n 0, 0) := by decide +kernel
theorem at_415_82 : am_at (am_m 415) 82 = some (.getfield 69, 3100) := by decide +kernel
theorem at_415_85 : am_at (am_m 415) 85 = some (.iload_n 1, 0) := by decide +kernel
theorem at_415_86 : am_at (am_m 415) 86 = some (.iconst 1, 0) := by decide +kernel
theorem at_415_87 : am_at (am_m 415) 87 = some (.isub, 0) := by decide +kernel
theorem at_415_88 : am_at (am_m 415) 88 = some (.aload_n 0, 0) := by decide +kernel
theorem at_415_89 : am_at (am_m 415) 89 = some (.aload_n 0, 0) := by decide +kernel
theorem at_415_90 : am_at (am_m 415) 90 = some (.getfield 69, 3100) := by decide +kernel
theorem at_415_93 : am_at (am_m 415) 93 = some (.iload_n 1, 0) := by decide +kernel
theorem at_415_94 : am_at (am_m 415) 94 = some (.iconst 1, 0) := by decide +kernel
theorem at_415_95 : am_at (am_m 415) 95 = some (.isub, 0) := by decide +kernel
theorem at_415_96 : am_at (am_m 415) 96 = some (.iaload, 0) := by decide +kernel
theorem at_415_97 : am_at (am_m 415) 97 = some (.invokevirtual 434, 411) := by decide +kernel
theorem at_415_100 : am_at (am_m 415) 100 = some (.iastore, 0) := by decide +kernel
theorem at_415_101 : am_at (am_m 415) 101 = some (.iload_n 3, 0) := by decide +kernel
theorem at_415_102 : am_at (am_m 415) 102 = some (.bipush 6, 0) := by decide +kernel
theorem at_415_104 : am_at (am_m 415) 104 = some (.if_icmp .le 40, 144) := by decide +kernel
theorem at_415_107 : am_at (am_m 415) 107 = some (.iload_n 3, 0) := by decide +kernel
theorem at_415_108 : am_at (am_m 415) 108 = some (.bipush 14, 0) := by decide +kernel
theorem at_415_110 : am_at (am_m 415) 110 = some (.if_icmp .ge 34, 144) := by decide +kernel
theorem at_415_113 : am_at (am_m 415) 113 = some (.aload_n 0, 0) := by decide +kernel
theorem at_415_114 : am_at (am_m 415) 114 = some (.getfield 69, 3100) := by decide +kernel
theorem at_415_117 : am_at (am_m 415) 117 = some (.iload_n 1, 0) := by decide +kernel
theorem at_415_118 : am_at (am_m 415) 118 = some (.iconst 2, 0) := by decide +kernel
theorem at_415_119 : am_at (am_m 415) 119 = some (.isub, 0) := by decide +kernel
theorem at_415_120 : am_at (am_m 415) 120 = some (.aload_n 0, 0) := by decide +kernel
theorem at_415_121 : am_at (am_m 415) 121 = some (.iload_n 3, 0) := by decide +kernel
theorem at_415_122 : am_at (am_m 415) 122 = some (.iconst 3, 0) := by decide +kernel
theorem at_415_123 : am_at (am_m 415) 123 = some (.iadd, 0) := by decide +kernel
theorem at_415_124 : am_at (am_m 415) 124 = some (.aload_n 0, 0) := by decide +kernel
theorem at_415_125 : am_at (am_m 415) 125 = some (.getfield 69, 3100) := by decide +kernel
theorem at_415_128 : am_at (am_m 415) 128 = some (.iload_n 1, 0) := by decide +kernel
theorem at_415_129 : am_at (am_m 415) 129 = some (.iconst 2, 0) := by decide +kernel
theorem at_415_130 : am_at (am_m 415) 130 = some (.isub, 0) := by decide +kernel
theorem at_415_131 : am_at (am_m 415) 131 = some (.iaload, 0) := by decide +kernel
theorem at_415_132 : am_at (am_m 415) 132 = some (.aload_n 0, 0) := by decide +kernel
theorem at_415_133 : am_at (am_m 415) 133 = some (.getfield 69, 3100) := by decide +kernel
theorem at_415_136 : am_at (am_m 415) 136 = some (.iload_n 1, 0) := by decide +kernel
theorem at_415_137 : am_at (am_m 415) 137 = some (.iconst 1, 0) := by decide +kernel
theorem at_415_138 : am_at (am_m 415) 138 = some (.isub, 0) := by decide +kernel
theorem at_415_139 : am_at (am_m 415) 139 = some (.iaload, 0) := by decide +kernel
theorem at_415_140 : am_at (am_m 415) 140 = some (.invokevirtual 440, 413) := by decide +kernel
theorem at_415_143 : am_at (am_m 415) 143 = some (.iastore, 0) := by decide +kernel
theorem at_415_144 : am_at (am_m 415) 144 = some (.iload_n 3, 0) := by decide +kernel
theorem at_415_145 : am_at (am_m 415) 145 = some (.bipush 14, 0) := by decide +kernel
theorem at_415_147 : am_at (am_m 415) 147 = some (.if_icmp .ne 17, 164) := by decide +kernel
theorem at_415_150 : am_at (am_m 415) 150 = some (.aload_n 0, 0) := by decide +kernel
theorem at_415_151 : am_at (am_m 415) 151 = some (.getfield 69, 3100) := by decide +kernel
theorem at_415_154 : am_at (am_m 415) 154 = some (.iload_n 1, 0) := by decide +kernel
theorem at_415_155 : am_at (am_m 415) 155 = some (.aload_n 0, 0) := by decide +kernel
theorem at_415_156 : am_at (am_m 415) 156 = some (.getfield 69, 3100) := by decide +kernel
theorem at_415_159 : am_at (am_m 415) 159 = some (.iload_n 1, 0) := by decide +kernel
theorem at_415_160 : am_at (am_m 415) 160 = some (.iconst 1, 0) := by decide +kernel
theorem at_415_161 : am_at (am_m 415) 161 = some (.isub, 0) := by decide +kernel
theorem at_415_162 : am_at (am_m 415) 162 = some (.iaload, 0) := by decide +kernel
theorem at_415_163 : am_at (am_m 415) 163 = some (.iastore, 0) := by decide +kernel
theorem at_415_164 : am_at (am_m 415) 164 = some (.iload_n 3, 0) := by decide +kernel
theorem at_415_165 : am_at (am_m 415) 165 = some (.bipush 15, 0) := by decide +kernel
theorem at_415_167 : am_at (am_m 415) 167 = some (.if_icmp .ne 39, 206) := by decide +kernel
theorem at_415_170 : am_at (am_m 415) 170 = some (.aload_n 0, 0) := by decide +kernel
theorem at_415_171 : am_at (am_m 415) 171 = some (.getfield 69, 3100) := by decide +kernel
theorem at_415_174 : am_at (am_m 415) 174 = some (.iload_n 1, 0) := by decide +kernel
theorem at_415_175 : am_at (am_m 415) 175 = some (.iconst 1, 0) := by decide +kernel
theorem at_415_176 : am_at (am_m 415) 176 = some (.isub, 0) := by decide +kernel
theorem at_415_177 : am_at (am_m 415) 177 = some (.iaload, 0) := by decide +kernel
theorem at_415_178 : am_at (am_m 415) 178 = some (.istore 5, 0) := by decide +kernel
theorem at_415_180 : am_at (am_m 415) 180 = some (.aload_n 0, 0) := by decide +kernel
theorem at_415_181 : am_at (am_m 415) 181 = some (.getfield 69, 3100) := by decide +kernel
theorem at_415_184 : am_at (am_m 415) 184 = some (.iload_n 1, 0) := by decide +kernel
theorem at_415_185 : am_at (am_m 415) 185 = some (.iconst 1, 0) := by decide +kernel
theorem at_415_186 : am_at (am_m 415) 186 = some (.isub, 0) := by decide +kernel
theorem at_415_187 : am_at (am_m 415) 187 = some (.aload_n 0, 0) := by decide +kernel
theorem at_415_188 : am_at (am_m 415) 188 = some (.getfield 69, 3100) := by decide +kernel
theorem at_415_191 : am_at (am_m 415) 191 = some (.iload_n 1, 0) := by decide +kernel
theorem at_415_192 : am_at (am_m 415) 192 = some (.iconst 2, 0) := by decide +kernel
theorem at_415_193 : am_at (am_m 415) 193 = some (.isub, 0) := by decide +kernel
theorem at_415_194 : am_at (am_m 415) 194 = some (.iaload, 0) := by decide +kernel
theorem at_415_195 : am_at (am_m 415) 195 = some (.iastore, 0) := by decide +kernel
theorem at_415_196 : am_at (am_m 415) 196 = some (.aload_n 0, 0) := by decide +kernel
theorem at_415_197 : am_at (am_m 415) 197 = some (.getfield 69, 3100) := by decide +kernel
theorem at_415_200 : am_at (am_m 415) 200 = some (.iload_n 1, 0) := by decide +kernel
theorem at_415_201 : am_at (am_m 415) 201 = some (.iconst 2, 0) := by decide +kernel
theorem at_415_202 : am_at (am_m 415) 202 = some (.isub, 0) := by decide +kernel
theorem at_415_203 : am_at (am_m 415) 203 = some (.iload 5, 0) := by decide +kernel
theorem at_415_205 : am_at (am_m 415) 205 = some (.iastore, 0) := by decide +kernel
theorem at_415_206 : am_at (am_m 415) 206 = some (.iload_n 3, 0) := by decide +kernel
theorem at_415_207 : am_at (am_m 415) 207 = some (.bipush 17, 0) := by decide +kernel
theorem at_415_209 : am_at (am_m 415) 209 = some (.if_icmp .eq 20, 229) := by decide +kernel
theorem at_415_212 : am_at (am_m 415) 212 = some (.iload_n 3, 0) := by decide +kernel
theorem at_415_213 : am_at (am_m 415) 213 = some (.bipush 18, 0) := by decide +kernel
theorem at_415_215 : am_at (am_m 415) 215 = some (.if_icmp .ne 26, 241) := by decide +kernel
theorem at_415_218 : am_at (am_m 415) 218 = some (.aload_n 0, 0) := by decide +kernel
theorem at_415_219 : am_at (am_m 415) 219 = some (.getfield 69, 3100) := by decide +kernel
theorem at_415_222 : am_at (am_m 415) 222 = some (.iload_n 1, 0) := by decide +kernel
theorem at_415_223 : am_at (am_m 415) 223 = some (.iconst 1, 0) := by decide +kernel
theorem at_415_224 : am_at (am_m 415) 224 = some (.isub, 0) := by decide +kernel
theorem at_415_225 : am_at (am_m 415) 225 = some (.iaload, 0) := by decide +kernel
theorem at_415_226 : am_at (am_m 415) 226 = some (.ifCond .ne 15, 241) := by decide +kernel
theorem at_415_229 : am_at (am_m 415) 229 = some (.iload_n 2, 0) := by decide +kernel
theorem at_415_230 : am_at (am_m 415) 230 = some (.iconst 1, 0) := by decide +kernel
theorem at_415_231 : am_at (am_m 415) 231 = some (.iadd, 0) := by decide +kernel
theorem at_415_232 : am_at (am_m 415) 232 = some (.aload_n 0, 0) := by decide +kernel
theorem at_415_233 : am_at (am_m 415) 233 = some (.getfield 48, 3089) := by decide +kernel
theorem at_415_236 : am_at (am_m 415) 236 = some (.iload_n 2, 0) := by decide +kernel
theorem at_415_237 : am_at (am_m 415) 237 = some (.iaload, 0) := by decide +kernel
theorem at_415_238 : am_at (am_m 415) 238 = some (.iadd, 0) := by decide +kernel
theorem at_415_239 : am_at (am_m 415) 239 = some (.istore 4, 0) := by decide +kernel
theorem at_415_241 : am_at (am_m 415) 241 = some (.iload_n 1, 0) := by decide +kernel
theorem at_415_242 : am_at (am_m 415) 242 = some (.iload_n 3, 0) := by decide +kernel
theorem at_415_243 : am_at (am_m 415) 243 = some (.invokestatic 346, 348) := by decide +kernel
theorem at_415_246 : am_at (am_m 415) 246 = some (.isub, 0) := by decide +kernel
theorem at_415_247 : am_at (am_m 415) 247 = some (.iload_n 3, 0) := by decide +kernel
theorem at_415_248 : am_at (am_m 415) 248 = some (.invokestatic 349, 349) := by decide +kernel
theorem at_415_251 : am_at (am_m 415) 251 = some (.iadd, 0) := by decide +kernel
theorem at_415_252 : am_at (am_m 415) 252 = some (.istore_n 1, 0) := by decide +kernel
theorem at_415_253 : am_at (am_m 415) 253 = some (.aload_n 0, 0) := by decide +kernel
theorem at_415_254 : am_at (am_m 415) 254 = some (.getfield 382, 3120) := by decide +kernel
theorem at_415_257 : am_at (am_m 415) 257 = some (.ifCond .le 10, 267) := by decide +kernel
theorem at_415_260 : am_at (am_m 415) 260 = some (.aload_n 0, 0) := by decide +kernel
theorem at_415_261 : am_at (am_m 415) 261 = some (.getfield 306, 3086) := by decide +kernel
theorem at_415_264 : am_at (am_m 415) 264 = some (.goto 5, 269) := by decide +kernel
theorem at_415_267 : am_at (am_m 415) 267 = some (.iload 4, 0) := by decide +kernel
theorem at_415_269 : am_at (am_m 415) 269 = some (.istore_n 2, 0) := by decide +kernel
theorem at_415_270 : am_at (am_m 415) 270 = some (.goto (-266), 4) := by decide +kernel
theorem at_415_273 : am_at (am_m 415) 273 = some (.aload_n 0, 0) := by decide +kernel
theorem at_415_274 : am_at (am_m 415) 274 = some (.aload_n 0, 0) := by decide +kernel
theorem at_415_275 : am_at (am_m 415) 275 = some (.getfield 69, 3100) := by decide +kernel
theorem at_415_278 : am_at (am_m 415) 278 = some (.iconst 0, 0) := by decide +kernel
theorem at_415_279 : am_at (am_m 415) 279 = some (.iaload, 0) := by decide +kernel
theorem at_415_280 : am_at (am_m 415) 280 = some (.putfield 385, 3121) := by decide +kernel
theorem at_415_283 : am_at (am_m 415) 283 = some (.return_, 0) := by decide +kernel
theorem at_416_0 : am_at (am_m 416) 0 = some (.iconst 0, 0) := by decide +kernel
theorem at_416_1 : am_at (am_m 416) 1 = some (.istore_n 1, 0) := by decide +kernel
theorem at_416_2 : am_at (am_m 416) 2 = some (.aload_n 0, 0) := by decide +kernel
theorem at_416_3 : am_at (am_m 416) 3 = some (.invokevirtual 430, 407) := by decide +kernel
theorem at_416_6 : am_at (am_m 416) 6 = some (.istore_n 2, 0) := by decide +kernel
theorem at_416_7 : am_at (am_m 416) 7 = some (.iconst 0, 0) := by decide +kernel
theorem at_416_8 : am_at (am_m 416) 8 = some (.istore_n 3, 0) := by decide +kernel
theorem at_416_9 : am_at (am_m 416) 9 = some (.iload_n 3, 0) := by decide +kernel
