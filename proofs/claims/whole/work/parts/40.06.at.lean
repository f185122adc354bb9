theorem at_507_46 : am_at (am_m 507) 46 = some (.iinc 2 (-1), 0) := by decide +kernel
theorem at_507_49 : am_at (am_m 507) 49 = some (.goto (-37), 12) := by decide +kernel
theorem at_507_52 : am_at (am_m 507) 52 = some (.aload_n 0, 0) := by decide +kernel
theorem at_507_53 : am_at (am_m 507) 53 = some (.getfield 217, 3182) := by decide +kernel
theorem at_507_56 : am_at (am_m 507) 56 = some (.iload_n 2, 0) := by decide +kernel
theorem at_507_57 : am_at (am_m 507) 57 = some (.iload_n 1, 0) := by decide +kernel
theorem at_507_58 : am_at (am_m 507) 58 = some (.iastore, 0) := by decide +kernel
theorem at_507_59 : am_at (am_m 507) 59 = some (.iinc 1 1, 0) := by decide +kernel
theorem at_507_62 : am_at (am_m 507) 62 = some (.goto (-60), 2) := by decide +kernel
theorem at_507_65 : am_at (am_m 507) 65 = some (.return_, 0) := by decide +kernel
theorem at_508_0 : am_at (am_m 508) 0 = some (.aload_n 0, 0) := by decide +kernel
theorem at_508_1 : am_at (am_m 508) 1 = some (.iload_n 1, 0) := by decide +kernel
theorem at_508_2 : am_at (am_m 508) 2 = some (.iload_n 2, 0) := by decide +kernel
theorem at_508_3 : am_at (am_m 508) 3 = some (.invokevirtual 907, 509) := by decide +kernel
theorem at_508_6 : am_at (am_m 508) 6 = some (.lstore_n 3, 0) := by decide +kernel
theorem at_508_7 : am_at (am_m 508) 7 = some (.lload_n 3, 0) := by decide +kernel
theorem at_508_8 : am_at (am_m 508) 8 = some (.lconst 0, 0) := by decide +kernel
theorem at_508_9 : am_at (am_m 508) 9 = some (.lcmp, 0) := by decide +kernel
theorem at_508_10 : am_at (am_m 508) 10 = some (.ifCond .eq 15, 25) := by decide +kernel
theorem at_508_13 : am_at (am_m 508) 13 = some (.lload_n 3, 0) := by decide +kernel
theorem at_508_14 : am_at (am_m 508) 14 = some (.lconst 0, 0) := by decide +kernel
theorem at_508_15 : am_at (am_m 508) 15 = some (.lcmp, 0) := by decide +kernel
theorem at_508_16 : am_at (am_m 508) 16 = some (.ifCond .ge 7, 23) := by decide +kernel
theorem at_508_19 : am_at (am_m 508) 19 = some (.iconst 1, 0) := by decide +kernel
theorem at_508_20 : am_at (am_m 508) 20 = some (.goto 4, 24) := by decide +kernel
theorem at_508_23 : am_at (am_m 508) 23 = some (.iconst 0, 0) := by decide +kernel
theorem at_508_24 : am_at (am_m 508) 24 = some (.ireturn, 0) := by decide +kernel
theorem at_508_25 : am_at (am_m 508) 25 = some (.aload_n 0, 0) := by decide +kernel
theorem at_508_26 : am_at (am_m 508) 26 = some (.getfield 202, 3175) := by decide +kernel
theorem at_508_29 : am_at (am_m 508) 29 = some (.iload_n 1, 0) := by decide +kernel
theorem at_508_30 : am_at (am_m 508) 30 = some (.iaload, 0) := by decide +kernel
theorem at_508_31 : am_at (am_m 508) 31 = some (.aload_n 0, 0) := by decide +kernel
theorem at_508_32 : am_at (am_m 508) 32 = some (.getfield 202, 3175) := by decide +kernel
theorem at_508_35 : am_at (am_m 508) 35 = some (.iload_n 2, 0) := by decide +kernel
theorem at_508_36 : am_at (am_m 508) 36 = some (.iaload, 0) := by decide +kernel
theorem at_508_37 : am_at (am_m 508) 37 = some (.if_icmp .eq 24, 61) := by decide +kernel
theorem at_508_40 : am_at (am_m 508) 40 = some (.aload_n 0, 0) := by decide +kernel
theorem at_508_41 : am_at (am_m 508) 41 = some (.getfield 202, 3175) := by decide +kernel
theorem at_508_44 : am_at (am_m 508) 44 = some (.iload_n 1, 0) := by decide +kernel
theorem at_508_45 : am_at (am_m 508) 45 = some (.iaload, 0) := by decide +kernel
theorem at_508_46 : am_at (am_m 508) 46 = some (.aload_n 0, 0) := by decide +kernel
theorem at_508_47 : am_at (am_m 508) 47 = some (.getfield 202, 3175) := by decide +kernel
theorem at_508_50 : am_at (am_m 508) 50 = some (.iload_n 2, 0) := by decide +kernel
theorem at_508_51 : am_at (am_m 508) 51 = some (.iaload, 0) := by decide +kernel
theorem at_508_52 : am_at (am_m 508) 52 = some (.if_icmp .ge 7, 59) := by decide +kernel
theorem at_508_55 : am_at (am_m 508) 55 = some (.iconst 1, 0) := by decide +kernel
theorem at_508_56 : am_at (am_m 508) 56 = some (.goto 4, 60) := by decide +kernel
theorem at_508_59 : am_at (am_m 508) 59 = some (.iconst 0, 0) := by decide +kernel
theorem at_508_60 : am_at (am_m 508) 60 = some (.ireturn, 0) := by decide +kernel
theorem at_508_61 : am_at (am_m 508) 61 = some (.aload_n 0, 0) := by decide +kernel
theorem at_508_62 : am_at (am_m 508) 62 = some (.getfield 205, 3176) := by decide +kernel
theorem at_508_65 : am_at (am_m 508) 65 = some (.iload_n 1, 0) := by decide +kernel
theorem at_508_66 : am_at (am_m 508) 66 = some (.iaload, 0) := by decide +kernel
theorem at_508_67 : am_at (am_m 508) 67 = some (.aload_n 0, 0) := by decide +kernel
theorem at_508_68 : am_at (am_m 508) 68 = some (.getfield 205, 3176) := by decide +kernel
theorem at_508_71 : am_at (am_m 508) 71 = some (.iload_n 2, 0) := by decide +kernel
theorem at_508_72 : am_at (am_m 508) 72 = some (.iaload, 0) := by decide +kernel
theorem at_508_73 : am_at (am_m 508) 73 = some (.if_icmp .eq 26, 99) := by decide +kernel
theorem at_508_76 : am_at (am_m 508) 76 = some (.aload_n 0, 0) := by decide +kernel
theorem at_508_77 : am_at (am_m 508) 77 = some (.getfield 205, 3176) := by decide +kernel
theorem at_508_80 : am_at (am_m 508) 80 = some (.iload_n 1, 0) := by decide +kernel
theorem at_508_81 : am_at (am_m 508) 81 = some (.iaload, 0) := by decide +kernel
theorem at_508_82 : am_at (am_m 508) 82 = some (.aload_n 0, 0) := by decide +kernel
theorem at_508_83 : am_at (am_m 508) 83 = some (.getfield 205, 3176) := by decide +kernel
theorem at_508_86 : am_at (am_m 508) 86 = some (.iload_n 2, 0) := by decide +kernel
theorem at_508_87 : am_at (am_m 508) 87 = some (.iaload, 0) := by decide +kernel
theorem at_508_88 : am_at (am_m 508) 88 = some (.if_icmp .ge 7, 95) := by decide +kernel
theorem at_508_91 : am_at (am_m 508) 91 = some (.iconst 1, 0) := by decide +kernel
theorem at_508_92 : am_at (am_m 508) 92 = some (.goto 17, 109) := by decide +kernel
theorem at_508_95 : am_at (am_m 508) 95 = some (.iconst 0, 0) := by decide +kernel
theorem at_508_96 : am_at (am_m 508) 96 = some (.goto 13, 109) := by decide +kernel
theorem at_508_99 : am_at (am_m 508) 99 = some (.iload_n 1, 0) := by decide +kernel
theorem at_508_100 : am_at (am_m 508) 100 = some (.iload_n 2, 0) := by decide +kernel
theorem at_508_101 : am_at (am_m 508) 101 = some (.if_icmp .ge 7, 108) := by decide +kernel
theorem at_508_104 : am_at (am_m 508) 104 = some (.iconst 1, 0) := by decide +kernel
theorem at_508_105 : am_at (am_m 508) 105 = some (.goto 4, 109) := by decide +kernel
theorem at_508_108 : am_at (am_m 508) 108 = some (.iconst 0, 0) := by decide +kernel
theorem at_508_109 : am_at (am_m 508) 109 = some (.ireturn, 0) := by decide +kernel
theorem at_509_0 : am_at (am_m 509) 0 = some (.aload_n 0, 0) := by decide +kernel
theorem at_509_1 : am_at (am_m 509) 1 = some (.getfield 196, 3173) := by decide +kernel
theorem at_509_4 : am_at (am_m 509) 4 = some (.iload_n 1, 0) := by decide +kernel
theorem at_509_5 : am_at (am_m 509) 5 = some (.laload, 0) := by decide +kernel
theorem at_509_6 : am_at (am_m 509) 6 = some (.aload_n 0, 0) := by decide +kernel
theorem at_509_7 : am_at (am_m 509) 7 = some (.getfield 199, 3174) := by decide +kernel
theorem at_509_10 : am_at (am_m 509) 10 = some (.iload_n 2, 0) := by decide +kernel
theorem at_509_11 : am_at (am_m 509) 11 = some (.laload, 0) := by decide +kernel
theorem at_509_12 : am_at (am_m 509) 12 = some (.lmul, 0) := by decide +kernel
theorem at_509_13 : am_at (am_m 509) 13 = some (.aload_n 0, 0) := by decide +kernel
theorem at_509_14 : am_at (am_m 509) 14 = some (.getfield 196, 3173) := by decide +kernel
theorem at_509_17 : am_at (am_m 509) 17 = some (.iload_n 2, 0) := by decide +kernel
theorem at_509_18 : am_at (am_m 509) 18 = some (.laload, 0) := by decide +kernel
theorem at_509_19 : am_at (am_m 509) 19 = some (.aload_n 0, 0) := by decide +kernel
theorem at_509_20 : am_at (am_m 509) 20 = some (.getfield 199, 3174) := by decide +kernel
theorem at_509_23 : am_at (am_m 509) 23 = some (.iload_n 1, 0) := by decide +kernel
theorem at_509_24 : am_at (am_m 509) 24 = some (.laload, 0) := by decide +kernel
theorem at_509_25 : am_at (am_m 509) 25 = some (.lmul, 0) := by decide +kernel
theorem at_509_26 : am_at (am_m 509) 26 = some (.lsub, 0) := by decide +kernel
theorem at_509_27 : am_at (am_m 509) 27 = some (.lreturn, 0) := by decide +kernel
theorem at_510_0 : am_at (am_m 510) 0 = some (.aload_n 0, 0) := by decide +kernel
theorem at_510_1 : am_at (am_m 510) 1 = some (.bipush 100, 0) := by decide +kernel
theorem at_510_3 : am_at (am_m 510) 3 = some (.invokevirtual 833, 474) := by decide +kernel
theorem at_510_6 : am_at (am_m 510) 6 = some (.aload_n 0, 0) := by decide +kernel
theorem at_510_7 : am_at (am_m 510) 7 = some (.getfield 106, 3114) := by decide +kernel
theorem at_510_10 : am_at (am_m 510) 10 = some (.iconst 3, 0) := by decide +kernel
theorem at_510_11 : am_at (am_m 510) 11 = some (.iaload, 0) := by decide +kernel
theorem at_510_12 : am_at (am_m 510) 12 = some (.if_icmp .ge 54, 66) := by decide +kernel
theorem at_510_15 : am_at (am_m 510) 15 = some (.aload_n 0, 0) := by decide +kernel
theorem at_510_16 : am_at (am_m 510) 16 = some (.invokevirtual 933, 511) := by decide +kernel
theorem at_510_19 : am_at (am_m 510) 19 = some (.istore_n 1, 0) := by decide +kernel
theorem at_510_20 : am_at (am_m 510) 20 = some (.aload_n 0, 0) := by decide +kernel
theorem at_510_21 : am_at (am_m 510) 21 = some (.invokevirtual 933, 511) := by decide +kernel
theorem at_510_24 : am_at (am_m 510) 24 = some (.istore_n 2, 0) := by decide +kernel
theorem at_510_25 : am_at (am_m 510) 25 = some (.aload_n 0, 0) := by decide +kernel
theorem at_510_26 : am_at (am_m 510) 26 = some (.ldc2_w 936, 33) := by decide +kernel
theorem at_510_29 : am_at (am_m 510) 29 = some (.invokevirtual 839, 477) := by decide +kernel
theorem at_510_32 : am_at (am_m 510) 32 = some (.lstore_n 3, 0) := by decide +kernel
theorem at_510_33 : am_at (am_m 510) 33 = some (.aload_n 0, 0) := by decide +kernel
theorem at_510_34 : am_at (am_m 510) 34 = some (.getfield 820, 3168) := by decide +kernel
theorem at_510_37 : am_at (am_m 510) 37 = some (.lstore 5, 0) := by decide +kernel
theorem at_510_39 : am_at (am_m 510) 39 = some (.aload_n 0, 0) := by decide +kernel
theorem at_510_40 : am_at (am_m 510) 40 = some (.iload_n 1, 0) := by decide +kernel
theorem at_510_41 : am_at (am_m 510) 41 = some (.iload_n 2, 0) := by decide +kernel
theorem at_510_42 : am_at (am_m 510) 42 = some (.lload_n 3, 0) := by decide +kernel
theorem at_510_43 : am_at (am_m 510) 43 = some (.invokevirtual 877, 487) := by decide +kernel
theorem at_510_46 : am_at (am_m 510) 46 = some (.aload_n 0, 0) := by decide +kernel
theorem at_510_47 : am_at (am_m 510) 47 = some (.lload 5, 0) := by decide +kernel
theorem at_510_49 : am_at (am_m 510) 49 = some (.putfield 820, 3168) := by decide +kernel
theorem at_510_52 : am_at (am_m 510) 52 = some (.aload_n 0, 0) := by decide +kernel
theorem at_510_53 : am_at (am_m 510) 53 = some (.iconst 4, 0) := by decide +kernel
theorem at_510_54 : am_at (am_m 510) 54 = some (.iload_n 1, 0) := by decide +kernel
theorem at_510_55 : am_at (am_m 510) 55 = some (.iload_n 2, 0) := by decide +kernel
theorem at_510_56 : am_at (am_m 510) 56 = some (.iconst (-1), 0) := by decide +kernel
theorem at_510_57 : am_at (am_m 510) 57 = some (.aload_n 0, 0) := by decide +kernel
theorem at_510_58 : am_at (am_m 510) 58 = some (.getfield 843, 3169) := by decide +kernel
theorem at_510_61 : am_at (am_m 510) 61 = some (.lload_n 3, 0) := by decide +kernel
theorem at_510_62 : am_at (am_m 510) 62 = some (.invokevirtual 543, 356) := by decide +kernel
theorem at_510_65 : am_at (am_m 510) 65 = some (.ireturn, 0) := by decide +kernel
theorem at_510_66 : am_at (am_m 510) 66 = some (.aload_n 0, 0) := by decide +kernel
theorem at_510_67 : am_at (am_m 510) 67 = some (.invokevirtual 933, 511) := by decide +kernel
theorem at_510_70 : am_at (am_m 510) 70 = some (.istore_n 1, 0) := by decide +kernel
theorem at_510_71 : am_at (am_m 510) 71 = some (.aload_n 0, 0) := by decide +kernel
theorem at_510_72 : am_at (am_m 510) 72 = some (.aload_n 0, 0) := by decide +kernel
theorem at_510_73 : am_at (am_m 510) 73 = some (.getfield 7, 3074) := by decide +kernel
theorem at_510_76 : am_at (am_m 510) 76 = some (.iload_n 1, 0) := by decide +kernel
theorem at_510_77 : am_at (am_m 510) 77 = some (.iaload, 0) := by decide +kernel
theorem at_510_78 : am_at (am_m 510) 78 = some (.ifCond .ne 7, 85) := by decide +kernel
theorem at_510_81 : am_at (am_m 510) 81 = some (.iconst 5, 0) := by decide +kernel
theorem at_510_82 : am_at (am_m 510) 82 = some (.goto 4, 86) := by decide +kernel
theorem at_510_85 : am_at (am_m 510) 85 = some (.iconst 4, 0) := by decide +kernel
theorem at_510_86 : am_at (am_m 510) 86 = some (.invokevirtual 833, 474) := by decide +kernel
theorem at_510_89 : am_at (am_m 510) 89 = some (.istore_n 2, 0) := by decide +kernel
theorem at_510_90 : am_at (am_m 510) 90 = some (.aload_n 0, 0) := by decide +kernel
theorem at_510_91 : am_at (am_m 510) 91 = some (.ldc2_w 936, 33) := by decide +kernel
theorem at_510_94 : am_at (am_m 510) 94 = some (.invokevirtual 839, 477) := by decide +kernel
theorem at_510_97 : am_at (am_m 510) 97 = some (.lstore_n 3, 0) := by decide +kernel
theorem at_510_98 : am_at (am_m 510) 98 = some (.aload_n 0, 0) := by decide +kernel
theorem at_510_99 : am_at (am_m 510) 99 = some (.getfield 820, 3168) := by decide +kernel
theorem at_510_102 : am_at (am_m 510) 102 = some (.lstore 5, 0) := by decide +kernel
theorem at_510_104 : am_at (am_m 510) 104 = some (.aload_n 0, 0) := by decide +kernel
theorem at_510_105 : am_at (am_m 510) 105 = some (.iload_n 1, 0) := by decide +kernel
theorem at_510_106 : am_at (am_m 510) 106 = some (.invokevirtual 635, 391) := by decide +kernel
theorem at_510_109 : am_at (am_m 510) 109 = some (.aload_n 0, 0) := by decide +kernel
theorem at_510_110 : am_at (am_m 510) 110 = some (.iload_n 2, 0) := by decide +kernel
theorem at_510_111 : am_at (am_m 510) 111 = some (.lload_n 3, 0) := by decide +kernel
theorem at_510_112 : am_at (am_m 510) 112 = some (.invokevirtual 852, 472) := by decide +kernel
theorem at_510_115 : am_at (am_m 510) 115 = some (.aload_n 0, 0) := by decide +kernel
theorem at_510_116 : am_at (am_m 510) 116 = some (.lload 5, 0) := by decide +kernel
theorem at_510_118 : am_at (am_m 510) 118 = some (.putfield 820, 3168) := by decide +kernel
theorem at_510_121 : am_at (am_m 510) 121 = some (.aload_n 0, 0) := by decide +kernel
theorem at_510_122 : am_at (am_m 510) 122 = some (.iconst 3, 0) := by decide +kernel
theorem at_510_123 : am_at (am_m 510) 123 = some (.iload_n 1, 0) := by decide +kernel
theorem at_510_124 : am_at (am_m 510) 124 = some (.iconst (-1), 0) := by decide +kernel
theorem at_510_125 : am_at (am_m 510) 125 = some (.iload_n 2, 0) := by decide +kernel
theorem at_510_126 : am_at (am_m 510) 126 = some (.aload_n 0, 0) := by decide +kernel
theorem at_510_127 : am_at (am_m 510) 127 = some (.getfield 843, 3169) := by decide +kernel
theorem at_510_130 : am_at (am_m 510) 130 = some (.lload_n 3, 0) := by decide +kernel
theorem at_510_131 : am_at (am_m 510) 131 = some (.invokevirtual 543, 356) := by decide +kernel
theorem at_510_134 : am_at (am_m 510) 134 = some (.ireturn, 0) := by decide +kernel
theorem at_511_0 : am_at (am_m 511) 0 = some (.aload_n 0, 0) := by decide +kernel
theorem at_511_1 : am_at (am_m 511) 1 = some (.getfield 106, 3114) := by decide +kernel
theorem at_511_4 : am_at (am_m 511) 4 = some (.iconst 4, 0) := by decide +kernel
theorem at_511_5 : am_at (am_m 511) 5 = some (.iaload, 0) := by decide +kernel
theorem at_511_6 : am_at (am_m 511) 6 = some (.ifCond .ne 8, 14) := by decide +kernel
theorem at_511_9 : am_at (am_m 511) 9 = some (.aload_n 0, 0) := by decide +kernel
theorem at_511_10 : am_at (am_m 511) 10 = some (.invokevirtual 921, 512) := by decide +kernel
theorem at_511_13 : am_at (am_m 511) 13 = some (.ireturn, 0) := by decide +kernel
theorem at_511_14 : am_at (am_m 511) 14 = some (.aload_n 0, 0) := by decide +kernel
theorem at_511_15 : am_at (am_m 511) 15 = some (.getfield 106, 3114) := by decide +kernel
theorem at_511_18 : am_at (am_m 511) 18 = some (.iconst 4, 0) := by decide +kernel
theorem at_511_19 : am_at (am_m 511) 19 = some (.iaload, 0) := by decide +kernel
theorem at_511_20 : am_at (am_m 511) 20 = some (.iconst 2, 0) := by decide +kernel
theorem at_511_21 : am_at (am_m 511) 21 = some (.if_icmp .ne 21, 42) := by decide +kernel
theorem at_511_24 : am_at (am_m 511) 24 = some (.aload_n 0, 0) := by decide +kernel
theorem at_511_25 : am_at (am_m 511) 25 = some (.getfield 205, 3176) := by decide +kernel
theorem at_511_28 : am_at (am_m 511) 28 = some (.aload_n 0, 0) := by decide +kernel
theorem at_511_29 : am_at (am_m 511) 29 = some (.aload_n 0, 0) := by decide +kernel
theorem at_511_30 : am_at (am_m 511) 30 = some (.aload_n 0, 0) := by decide +kernel
theorem at_511_31 : am_at (am_m 511) 31 = some (.invokevirtual 924, 513) := by decide +kernel
theorem at_511_34 : am_at (am_m 511) 34 = some (.invokevirtual 833, 474) := by decide +kernel
theorem at_511_37 : am_at (am_m 511) 37 = some (.invokevirtual 927, 515) := by decide +kernel
theorem at_511_40 : am_at (am_m 511) 40 = some (.iaload, 0) := by decide +kernel
theorem at_511_41 : am_at (am_m 511) 41 = some (.ireturn, 0) := by decide +kernel
theorem at_511_42 : am_at (am_m 511) 42 = some (.iconst 0, 0) := by decide +kernel
theorem at_511_43 : am_at (am_m 511) 43 = some (.istore_n 1, 0) := by decide +kernel
theorem at_511_44 : am_at (am_m 511) 44 = some (.iload_n 1, 0) := by decide +kernel
theorem at_511_45 : am_at (am_m 511) 45 = some (.aload_n 0, 0) := by decide +kernel
theorem at_511_46 : am_at (am_m 511) 46 = some (.getfield 916, 3180) := by decide +kernel
theorem at_511_49 : am_at (am_m 511) 49 = some (.if_icmp .ge 16, 65) := by decide +kernel
theorem at_511_52 : am_at (am_m 511) 52 = some (.aload_n 0, 0) := by decide +kernel
theorem at_511_53 : am_at (am_m 511) 53 = some (.getfield 211, 3179) := by decide +kernel
theorem at_511_56 : am_at (am_m 511) 56 = some (.iload_n 1, 0) := by decide +kernel
theorem at_511_57 : am_at (am_m 511) 57 = some (.iload_n 1, 0) := by decide +kernel
theorem at_511_58 : am_at (am_m 511) 58 = some (.iastore, 0) := by decide +kernel
theorem at_511_59 : am_at (am_m 511) 59 = some (.iinc 1 1, 0) := by decide +kernel
theorem at_511_62 : am_at (am_m 511) 62 = some (.goto (-18), 44) := by decide +kernel
theorem at_511_65 : am_at (am_m 511) 65 = some (.aload_n 0, 0) := by decide +kernel
theorem at_511_66 : am_at (am_m 511) 66 = some (.getfield 916, 3180) := by decide +kernel
theorem at_511_69 : am_at (am_m 511) 69 = some (.iconst 1, 0) := by decide +kernel
theorem at_511_70 : am_at (am_m 511) 70 = some (.isub, 0) := by decide +kernel
theorem at_511_71 : am_at (am_m 511) 71 = some (.istore_n 1, 0) := by decide +kernel
theorem at_511_72 : am_at (am_m 511) 72 = some (.iload_n 1, 0) := by decide +kernel
theorem at_511_73 : am_at (am_m 511) 73 = some (.ifCond .le 43, 116) := by decide +kernel
theorem at_511_76 : am_at (am_m 511) 76 = some (.aload_n 0, 0) := by decide +kernel
theorem at_511_77 : am_at (am_m 511) 77 = some (.iload_n 1, 0) := by decide +kernel
theorem at_511_78 : am_at (am_m 511) 78 = some (.iconst 1, 0) := by decide +kernel
theorem at_511_79 : am_at (am_m 511) 79 = some (.iadd, 0) := by decide +kernel
theorem at_511_80 : am_at (am_m 511) 80 = some (.invokevirtual 833, 474) := by decide +kernel
theorem at_511_83 : am_at (am_m 511) 83 = some (.istore_n 2, 0) := by decide +kernel
theorem at_511_84 : am_at (am_m 511) 84 = some (.aload_n 0, 0) := by decide +kernel
theorem at_511_85 : am_at (am_m 511) 85 = some (.getfield 211, 3179) := by decide +kernel
theorem at_511_88 : am_at (am_m 511) 88 = some (.iload_n 1, 0) := by decide +kernel
theorem at_511_89 : am_at (am_m 511) 89 = some (.iaload, 0) := by decide +kernel
theorem at_511_90 : am_at (am_m 511) 90 = some (.istore_n 3, 0) := by decide +kernel
theorem at_511_91 : am_at (am_m 511) 91 = some (.aload_n 0, 0) := by decide +kernel
theorem at_511_92 : am_at (am_m 511) 92 = some (.getfield 211, 3179) := by decide +kernel
theorem at_511_95 : am_at (am_m 511) 95 = some (.iload_n 1, 0) := by decide +kernel
theorem at_511_96 : am_at (am_m 511) 96 = some (.aload_n 0, 0) := by decide +kernel
theorem at_511_97 : am_at (am_m 511) 97 = some (.getfield 211, 3179) := by decide +kernel
theorem at_511_100 : am_at (am_m 511) 100 = some (.iload_n 2, 0) := by decide +kernel
theorem at_511_101 : am_at (am_m 511) 101 = some (.iaload, 0) := by decide +kernel
theorem at_511_102 : am_at (am_m 511) 102 = some (.iastore, 0) := by decide +kernel
theorem at_511_103 : am_at (am_m 511) 103 = some (.aload_n 0, 0) := by decide +kernel
theorem at_511_104 : am_at (am_m 511) 104 = some (.getfield 211, 3179) := by decide +kernel
theorem at_511_107 : am_at (am_m 511) 107 = some (.iload_n 2, 0) := by decide +kernel
theorem at_511_108 : am_at (am_m 511) 108 = some (.iload_n 3, 0) := by decide +kernel
theorem at_511_109 : am_at (am_m 511) 109 = some (.iastore, 0) := by decide +kernel
theorem at_511_110 : am_at (am_m 511) 110 = some (.iinc 1 (-1), 0) := by decide +kernel
theorem at_511_113 : am_at (am_m 511) 113 = some (.goto (-41), 72) := by decide +kernel
theorem at_511_116 : am_at (am_m 511) 116 = some (.aload_n 0, 0) := by decide +kernel
theorem at_511_117 : am_at (am_m 511) 117 = some (.getfield 205, 3176) := by decide +kernel
theorem at_511_120 : am_at (am_m 511) 120 = some (.aload_n 0, 0) := by decide +kernel
theorem at_511_121 : am_at (am_m 511) 121 = some (.invokevirtual 930, 516) := by decide +kernel
theorem at_511_124 : am_at (am_m 511) 124 = some (.iaload, 0) := by decide +kernel
theorem at_511_125 : am_at (am_m 511) 125 = some (.ireturn, 0) := by decide +kernel
theorem at_512_0 : am_at (am_m 512) 0 = some (.aload_n 0, 0) := by decide +kernel
theorem at_512_1 : am_at (am_m 512) 1 = some (.aload_n 0, 0) := by decide +kernel
theorem at_512_2 : am_at (am_m 512) 2 = some (.getfield 904, 3177) := by decide +kernel
theorem at_512_5 : am_at (am_m 512) 5 = some (.invokevirtual 833, 474) := by decide +kernel
theorem at_512_8 : am_at (am_m 512) 8 = some (.istore_n 1, 0) := by decide +kernel
theorem at_512_9 : am_at (am_m 512) 9 = some (.iconst 1, 0) := by decide +kernel
theorem at_512_10 : am_at (am_m 512) 10 = some (.istore_n 2, 0) := by decide +kernel
theorem at_512_11 : am_at (am_m 512) 11 = some (.iload_n 2, 0) := by decide +kernel
theorem at_512_12 : am_at (am_m 512) 12 = some (.aload_n 0, 0) := by decide +kernel
theorem at_512_13 : am_at (am_m 512) 13 = some (.getfield 106, 3114) := by decide +kernel
theorem at_512_16 : am_at (am_m 512) 16 = some (.iconst 2, 0) := by decide +kernel
theorem at_512_17 : am_at (am_m 512) 17 = some (.iaload, 0) := by decide +kernel
theorem at_512_18 : am_at (am_m 512) 18 = some (.if_icmp .ge 33, 51) := by decide +kernel
theorem at_512_21 : am_at (am_m 512) 21 = some (.aload_n 0, 0) := by decide +kernel
theorem at_512_22 : am_at (am_m 512) 22 = some (.aload_n 0, 0) := by decide +kernel
theorem at_512_23 : am_at (am_m 512) 23 = some (.getfield 904, 3177) := by decide +kernel
theorem at_512_26 : am_at (am_m 512) 26 = some (.invokevirtual 833, 474) := by decide +kernel
theorem at_512_29 : am_at (am_m 512) 29 = some (.istore_n 3, 0) := by decide +kernel
theorem at_512_30 : am_at (am_m 512) 30 = some (.aload_n 0, 0) := by decide +kernel
theorem at_512_31 : am_at (am_m 512) 31 = some (.iload_n 3, 0) := by decide +kernel
theorem at_512_32 : am_at (am_m 512) 32 = some (.iload_n 1, 0) := by decide +kernel
theorem at_512_33 : am_at (am_m 512) 33 = some (.invokevirtual 910, 508) := by decide +kernel
theorem at_512_36 : am_at (am_m 512) 36 = some (.ifCond .eq 7, 43) := by decide +kernel
theorem at_512_39 : am_at (am_m 512) 39 = some (.iload_n 3, 0) := by decide +kernel
theorem at_512_40 : am_at (am_m 512) 40 = some (.goto 4, 44) := by decide +kernel
theorem at_512_43 : am_at (am_m 512) 43 = some (.iload_n 1, 0) := by decide +kernel
theorem at_512_44 : am_at (am_m 512) 44 = some (.istore_n 1, 0) := by decide +kernel
theorem at_512_45 : am_at (am_m 512) 45 = some (.iinc 2 1, 0) := by decide +kernel
theorem at_512_48 : am_at (am_m 512) 48 = some (.goto (-37), 11) := by decide +kernel
theorem at_512_51 : am_at (am_m 512) 51 = some (.aload_n 0, 0) := by decide +kernel
theorem at_512_52 : am_at (am_m 512) 52 = some (.getfield 205, 3176) := by decide +kernel
theorem at_512_55 : am_at (am_m 512) 55 = some (.iload_n 1, 0) := by decide +kernel
theorem at_512_56 : am_at (am_m 512) 56 = some (.iaload, 0) := by decide +kernel
theorem at_512_57 : am_at (am_m 512) 57 = some (.ireturn, 0) := by decide +kernel
theorem at_513_0 : am_at (am_m 513) 0 = some (.iconst 0, 0) := by decide +kernel
theorem at_513_1 : am_at (am_m 513) 1 = some (.istore_n 1, 0) := by decide +kernel
theorem at_513_2 : am_at (am_m 513) 2 = some (.iconst 0, 0) := by decide +kernel
theorem at_513_3 : am_at (am_m 513) 3 = some (.istore_n 2, 0) := by decide +kernel
theorem at_513_4 : am_at (am_m 513) 4 = some (.iload_n 2, 0) := by decide +kernel
theorem at_513_5 : am_at (am_m 513) 5 = some (.aload_n 0, 0) := by decide +kernel
theorem at_513_6 : am_at (am_m 513) 6 = some (.getfield 904, 3177) := by decide +kernel
theorem at_513_9 : am_at (am_m 513) 9 = some (.if_icmp .ge 25, 34) := by decide +kernel
theorem at_513_12 : am_at (am_m 513) 12 = some (.iload_n 1, 0) := by decide +kernel
theorem at_513_13 : am_at (am_m 513) 13 = some (.aload_n 0, 0) := by decide +kernel
theorem at_513_14 : am_at (am_m 513) 14 = some (.iload_n 2, 0) := by decide +kernel
theorem at_513_15 : am_at (am_m 513) 15 = some (.invokevirtual 913, 514) := by decide +kernel
theorem at_513_18 : am_at (am_m 513) 18 = some (.ifCond .eq 7, 25) := by decide +kernel
theorem at_513_21 : am_at (am_m 513) 21 = some (.iconst 1, 0) := by decide +kernel
theorem at_513_22 : am_at (am_m 513) 22 = some (.goto 4, 26) := by decide +kernel
theorem at_513_25 : am_at (am_m 513) 25 = some (.iconst 0, 0) := by decide +kernel
theorem at_513_26 : am_at (am_m 513) 26 = some (.iadd, 0) := by decide +kernel
theorem at_513_27 : am_at (am_m 513) 27 = some (.istore_n 1, 0) := by decide +kernel
theorem at_513_28 : am_at (am_m 513) 28 = some (.iinc 2 1, 0) := by decide +kernel
theorem at_513_31 : am_at (am_m 513) 31 = some (.goto (-27), 4) := by decide +kernel
theorem at_513_34 : am_at (am_m 513) 34 = some (.iload_n 1, 0) := by decide +kernel
theorem at_513_35 : am_at (am_m 513) 35 = some (.ireturn, 0) := by decide +kernel
theorem at_514_0 : am_at (am_m 514) 0 = some (.iconst 1, 0) := by decide +kernel
theorem at_514_1 : am_at (am_m 514) 1 = some (.istore_n 2, 0) := by decide +kernel
theorem at_514_2 : am_at (am_m 514) 2 = some (.iconst 0, 0) := by decide +kernel
theorem at_514_3 : am_at (am_m 514) 3 = some (.istore_n 3, 0) := by decide +kernel
theorem at_514_4 : am_at (am_m 514) 4 = some (.iload_n 3, 0) := by decide +kernel
theorem at_514_5 : am_at (am_m 514) 5 = some (.aload_n 0, 0) := by decide +kernel
theorem at_514_6 : am_at (am_m 514) 6 = some (.getfield 904, 3177) := by decide +kernel
theorem at_514_9 : am_at (am_m 514) 9 = some (.if_icmp .ge 83, 92) := by decide +kernel
theorem at_514_12 : am_at (am_m 514) 12 = some (.aload_n 0, 0) := by decide +kernel
theorem at_514_13 : am_at (am_m 514) 13 = some (.iload_n 3, 0) := by decide +kernel
theorem at_514_14 : am_at (am_m 514) 14 = some (.iload_n 1, 0) := by decide +kernel
theorem at_514_15 : am_at (am_m 514) 15 = some (.invokevirtual 907, 509) := by decide +kernel
theorem at_514_18 : am_at (am_m 514) 18 = some (.lconst 0, 0) := by decide +kernel
theorem at_514_19 : am_at (am_m 514) 19 = some (.lcmp, 0) := by decide +kernel
theorem at_514_20 : am_at (am_m 514) 20 = some (.ifCond .gt 22, 42) := by decide +kernel
theorem at_514_23 : am_at (am_m 514) 23 = some (.aload_n 0, 0) := by decide +kernel
theorem at_514_24 : am_at (am_m 514) 24 = some (.getfield 202, 3175) := by decide +kernel
theorem at_514_27 : am_at (am_m 514) 27 = some (.iload_n 3, 0) := by decide +kernel
theorem at_514_28 : am_at (am_m 514) 28 = some (.iaload, 0) := by decide +kernel
theorem at_514_29 : am_at (am_m 514) 29 = some (.aload_n 0, 0) := by decide +kernel
theorem at_514_30 : am_at (am_m 514) 30 = some (.getfield 202, 3175) := by decide +kernel
theorem at_514_33 : am_at (am_m 514) 33 = some (.iload_n 1, 0) := by decide +kernel
theorem at_514_34 : am_at (am_m 514) 34 = some (.iaload, 0) := by decide +kernel
theorem at_514_35 : am_at (am_m 514) 35 = some (.if_icmp .gt 7, 42) := by decide +kernel
theorem at_514_38 : am_at (am_m 514) 38 = some (.iconst 1, 0) := by decide +kernel
theorem at_514_39 : am_at (am_m 514) 39 = some (.goto 4, 43) := by decide +kernel
theorem at_514_42 : am_at (am_m 514) 42 = some (.iconst 0, 0) := by decide +kernel
theorem at_514_43 : am_at (am_m 514) 43 = some (.istore 4, 0) := by decide +kernel
theorem at_514_45 : am_at (am_m 514) 45 = some (.iload_n 2, 0) := by decide +kernel
theorem at_514_46 : am_at (am_m 514) 46 = some (.ifCond .eq 38, 84) := by decide +kernel
theorem at_514_49 : am_at (am_m 514) 49 = some (.iload 4, 0) := by decide +kernel
theorem at_514_51 : am_at (am_m 514) 51 = some (.ifCond .eq 29, 80) := by decide +kernel
theorem at_514_54 : am_at (am_m 514) 54 = some (.aload_n 0, 0) := by decide +kernel
theorem at_514_55 : am_at (am_m 514) 55 = some (.iload_n 3, 0) := by decide +kernel
theorem at_514_56 : am_at (am_m 514) 56 = some (.iload_n 1, 0) := by decide +kernel
theorem at_514_57 : am_at (am_m 514) 57 = some (.invokevirtual 907, 509) := by decide +kernel
theorem at_514_60 : am_at (am_m 514) 60 = some (.lconst 0, 0) := by decide +kernel
theorem at_514_61 : am_at (am_m 514) 61 = some (.lcmp, 0) := by decide +kernel
theorem at_514_62 : am_at (am_m 514) 62 = some (.ifCond .lt 22, 84) := by decide +kernel
theorem at_514_65 : am_at (am_m 514) 65 = some (.aload_n 0, 0) := by decide +kernel
theorem at_514_66 : am_at (am_m 514) 66 = some (.getfield 202, 3175) := by decide +kernel
theorem at_514_69 : am_at (am_m 514) 69 = some (.iload_n 3, 0) := by decide +kernel
theorem at_514_70 : am_at (am_m 514) 70 = some (.iaload, 0) := by decide +kernel
theorem at_514_71 : am_at (am_m 514) 71 = some (.aload_n 0, 0) := by decide +kernel
theorem at_514_72 : am_at (am_m 514) 72 = some (.getfield 202, 3175) := by decide +kernel
theorem at_514_75 : am_at (am_m 514) 75 = some (.iload_n 1, 0) := by decide +kernel
theorem at_514_76 : am_at (am_m 514) 76 = some (.iaload, 0) := by decide +kernel
theorem at_514_77 : am_at (am_m 514) 77 = some (.if_icmp .lt 7, 84) := by decide +kernel
theorem at_514_80 : am_at (am_m 514) 80 = some (.iconst 1, 0) := by decide +kernel
theorem at_514_81 : am_at (am_m 514) 81 = some (.goto 4, 85) := by decide +kernel
theorem at_514_84 : am_at (am_m 514) 84 = some (.iconst 0, 0) := by decide +kernel
theorem at_514_85 : am_at (am_m 514) 85 = some (.istore_n 2, 0) := by decide +kernel
theorem at_514_86 : am_at (am_m 514) 86 = some (.iinc 3 1, 0) := by decide +kernel
theorem at_514_89 : am_at (am_m 514) 89 = some (.goto (-85), 4) := by decide +kernel
theorem at_514_92 : am_at (am_m 514) 92 = some (.iload_n 2, 0) := by decide +kernel
theorem at_514_93 : am_at (am_m 514) 93 = some (.ireturn, 0) := by decide +kernel
theorem at_515_0 : am_at (am_m 515) 0 = some (.iload_n 1, 0) := by decide +kernel
theorem at_515_1 : am_at (am_m 515) 1 = some (.istore_n 2, 0) := by decide +kernel
theorem at_515_2 : am_at (am_m 515) 2 = some (.iconst 0, 0) := by decide +kernel
theorem at_515_3 : am_at (am_m 515) 3 = some (.istore_n 3, 0) := by decide +kernel
theorem at_515_4 : am_at (am_m 515) 4 = some (.iload_n 3, 0) := by decide +kernel
theorem at_515_5 : am_at (am_m 515) 5 = some (.aload_n 0, 0) := by decide +kernel
theorem at_515_6 : am_at (am_m 515) 6 = some (.getfield 904, 3177) := by decide +kernel
theorem at_515_9 : am_at (am_m 515) 9 = some (.if_icmp .ge 29, 38) := by decide +kernel
theorem at_515_12 : am_at (am_m 515) 12 = some (.aload_n 0, 0) := by decide +kernel
theorem at_515_13 : am_at (am_m 515) 13 = some (.iload_n 3, 0) := by decide +kernel
theorem at_515_14 : am_at (am_m 515) 14 = some (.invokevirtual 913, 514) := by decide +kernel
theorem at_515_17 : am_at (am_m 515) 17 = some (.ifCond .ne 6, 23) := by decide +kernel
theorem at_515_20 : am_at (am_m 515) 20 = some (.goto 12, 32) := by decide +kernel
theorem at_515_23 : am_at (am_m 515) 23 = some (.iload_n 2, 0) := by decide +kernel
theorem at_515_24 : am_at (am_m 515) 24 = some (.ifCond .ne 5, 29) := by decide +kernel
theorem at_515_27 : am_at (am_m 515) 27 = some (.iload_n 3, 0) := by decide +kernel
theorem at_515_28 : am_at (am_m 515) 28 = some (.ireturn, 0) := by decide +kernel
theorem at_515_29 : am_at (am_m 515) 29 = some (.iinc 2 (-1), 0) := by decide +kernel
theorem at_515_32 : am_at (am_m 515) 32 = some (.iinc 3 1, 0) := by decide +kernel
theorem at_515_35 : am_at (am_m 515) 35 = some (.goto (-31), 4) := by decide +kernel
theorem at_515_38 : am_at (am_m 515) 38 = some (.iconst (-1), 0) := by decide +kernel
theorem at_515_39 : am_at (am_m 515) 39 = some (.ireturn, 0) := by decide +kernel
theorem at_516_0 : am_at (am_m 516) 0 = some (.aload_n 0, 0) := by decide +kernel
theorem at_516_1 : am_at (am_m 516) 1 = some (.getfield 904, 3177) := by decide +kernel
theorem at_516_4 : am_at (am_m 516) 4 = some (.istore_n 1, 0) := by decide +kernel
theorem at_516_5 : am_at (am_m 516) 5 = some (.iconst 0, 0) := by decide +kernel
theorem at_516_6 : am_at (am_m 516) 6 = some (.istore_n 2, 0) := by decide +kernel
theorem at_516_7 : am_at (am_m 516) 7 = some (.iload_n 2, 0) := by decide +kernel
theorem at_516_8 : am_at (am_m 516) 8 = some (.aload_n 0, 0) := by decide +kernel
theorem at_516_9 : am_at (am_m 516) 9 = some (.getfield 904, 3177) := by decide +kernel
theorem at_516_12 : am_at (am_m 516) 12 = some (.if_icmp .ge 16, 28) := by decide +kernel
theorem at_516_15 : am_at (am_m 516) 15 = some (.aload_n 0, 0) := by decide +kernel
theorem at_516_16 : am_at (am_m 516) 16 = some (.getfield 214, 3181) := by decide +kernel
theorem at_516_19 : am_at (am_m 516) 19 = some (.iload_n 2, 0) := by decide +kernel
theorem at_516_20 : am_at (am_m 516) 20 = some (.iconst 1, 0) := by decide +kernel
theorem at_516_21 : am_at (am_m 516) 21 = some (.bastore, 0) := by decide +kernel
theorem at_516_22 : am_at (am_m 516) 22 = some (.iinc 2 1, 0) := by decide +kernel
theorem at_516_25 : am_at (am_m 516) 25 = some (.goto (-18), 7) := by decide +kernel
theorem at_516_28 : am_at (am_m 516) 28 = some (.iconst 0, 0) := by decide +kernel
theorem at_516_29 : am_at (am_m 516) 29 = some (.istore_n 2, 0) := by decide +kernel
theorem at_516_30 : am_at (am_m 516) 30 = some (.iload_n 2, 0) := by decide +kernel
theorem at_516_31 : am_at (am_m 516) 31 = some (.aload_n 0, 0) := by decide +kernel
theorem at_516_32 : am_at (am_m 516) 32 = some (.getfield 916, 3180) := by decide +kernel
theorem at_516_35 : am_at (am_m 516) 35 = some (.if_icmp .ge 161, 196) := by decide +kernel
theorem at_516_38 : am_at (am_m 516) 38 = some (.iload_n 1, 0) := by decide +kernel
theorem at_516_39 : am_at (am_m 516) 39 = some (.iconst 1, 0) := by decide +kernel
theorem at_516_40 : am_at (am_m 516) 40 = some (.if_icmp .le 156, 196) := by decide +kernel
theorem at_516_43 : am_at (am_m 516) 43 = some (.ldc2_w 919, 67) := by decide +kernel
theorem at_516_46 : am_at (am_m 516) 46 = some (.lstore_n 3, 0) := by decide +kernel
theorem at_516_47 : am_at (am_m 516) 47 = some (.iconst 0, 0) := by decide +kernel
theorem at_516_48 : am_at (am_m 516) 48 = some (.istore 5, 0) := by decide +kernel
theorem at_516_50 : am_at (am_m 516) 50 = some (.iload 5, 0) := by decide +kernel
theorem at_516_52 : am_at (am_m 516) 52 = some (.aload_n 0, 0) := by decide +kernel
theorem at_516_53 : am_at (am_m 516) 53 = some (.getfield 904, 3177) := by decide +kernel
theorem at_516_56 : am_at (am_m 516) 56 = some (.if_icmp .ge 52, 108) := by decide +kernel
theorem at_516_59 : am_at (am_m 516) 59 = some (.aload_n 0, 0) := by decide +kernel
theorem at_516_60 : am_at (am_m 516) 60 = some (.getfield 208, 3178) := by decide +kernel
theorem at_516_63 : am_at (am_m 516) 63 = some (.bipush 24, 0) := by decide +kernel
theorem at_516_65 : am_at (am_m 516) 65 = some (.iload 5, 0) := by decide +kernel
theorem at_516_67 : am_at (am_m 516) 67 = some (.imul, 0) := by decide +kernel
theorem at_516_68 : am_at (am_m 516) 68 = some (.aload_n 0, 0) := by decide +kernel
theorem at_516_69 : am_at (am_m 516) 69 = some (.getfield 211, 3179) := by decide +kernel
theorem at_516_72 : am_at (am_m 516) 72 = some (.iload_n 2, 0) := by decide +kernel
theorem at_516_73 : am_at (am_m 516) 73 = some (.iaload, 0) := by decide +kernel
theorem at_516_74 : am_at (am_m 516) 74 = some (.iadd, 0) := by decide +kernel
theorem at_516_75 : am_at (am_m 516) 75 = some (.laload, 0) := by decide +kernel
theorem at_516_76 : am_at (am_m 516) 76 = some (.lstore 6, 0) := by decide +kernel
theorem at_516_78 : am_at (am_m 516) 78 = some (.aload_n 0, 0) := by decide +kernel
theorem at_516_79 : am_at (am_m 516) 79 = some (.getfield 214, 3181) := by decide +kernel
theorem at_516_82 : am_at (am_m 516) 82 = some (.iload 5, 0) := by decide +kernel
theorem at_516_84 : am_at (am_m 516) 84 = some (.baload, 0) := by decide +kernel
theorem at_516_85 : am_at (am_m 516) 85 = some (.ifCond .eq 15, 100) := by decide +kernel
theorem at_516_88 : am_at (am_m 516) 88 = some (.lload 6, 0) := by decide +kernel
theorem at_516_90 : am_at (am_m 516) 90 = some (.lload_n 3, 0) := by decide +kernel
theorem at_516_91 : am_at (am_m 516) 91 = some (.lcmp, 0) := by decide +kernel
theorem at_516_92 : am_at (am_m 516) 92 = some (.ifCond .ge 8, 100) := by decide +kernel
theorem at_516_95 : am_at (am_m 516) 95 = some (.lload 6, 0) := by decide +kernel
theorem at_516_97 : am_at (am_m 516) 97 = some (.goto 4, 101) := by decide +kernel
theorem at_516_100 : am_at (am_m 516) 100 = some (.lload_n 3, 0) := by decide +kernel
theorem at_516_101 : am_at (am_m 516) 101 = some (.lstore_n 3, 0) := by decide +kernel
theorem at_516_102 : am_at (am_m 516) 102 = some (.iinc 5 1, 0) := by decide +kernel
theorem at_516_105 : am_at (am_m 516) 105 = some (.goto (-55), 50) := by decide +kernel
theorem at_516_108 : am_at (am_m 516) 108 = some (.iconst 0, 0) := by decide +kernel
theorem at_516_109 : am_at (am_m 516) 109 = some (.istore_n 1, 0) := by decide +kernel
theorem at_516_110 : am_at (am_m 516) 110 = some (.iconst 0, 0) := by decide +kernel
theorem at_516_111 : am_at (am_m 516) 111 = some (.istore 5, 0) := by decide +kernel
theorem at_516_113 : am_at (am_m 516) 113 = some (.iload 5, 0) := by decide +kernel
theorem at_516_115 : am_at (am_m 516) 115 = some (.aload_n 0, 0) := by decide +kernel
theorem at_516_116 : am_at (am_m 516) 116 = some (.getfield 904, 3177) := by decide +kernel
theorem at_516_119 : am_at (am_m 516) 119 = some (.if_icmp .ge 71, 190) := by decide +kernel
theorem at_516_122 : am_at (am_m 516) 122 = some (.aload_n 0, 0) := by decide +kernel
theorem at_516_123 : am_at (am_m 516) 123 = some (.getfield 214, 3181) := by decide +kernel
theorem at_516_126 : am_at (am_m 516) 126 = some (.iload 5, 0) := by decide +kernel
theorem at_516_128 : am_at (am_m 516) 128 = some (.aload_n 0, 0) := by decide +kernel
theorem at_516_129 : am_at (am_m 516) 129 = some (.getfield 214, 3181) := by decide +kernel
theorem at_516_132 : am_at (am_m 516) 132 = some (.iload 5, 0) := by decide +kernel
theorem at_516_134 : am_at (am_m 516) 134 = some (.baload, 0) := by decide +kernel
theorem at_516_135 : am_at (am_m 516) 135 = some (.ifCond .eq 29, 164) := by decide +kernel
theorem at_516_138 : am_at (am_m 516) 138 = some (.aload_n 0, 0) := by decide +kernel
theorem at_516_139 : am_at (am_m 516) 139 = some (.getfield 208, 3178) := by decide +kernel
theorem at_516_142 : am_at (am_m 516) 142 = some (.bipush 24, 0) := by decide +kernel
theorem at_516_144 : am_at (am_m 516) 144 = some (.iload 5, 0) := by decide +kernel
theorem at_516_146 : am_at (am_m 516) 146 = some (.imul, 0) := by decide +kernel
theorem at_516_147 : am_at (am_m 516) 147 = some (.aload_n 0, 0) := by decide +kernel
theorem at_516_148 : am_at (am_m 516) 148 = some (.getfield 211, 3179) := by decide +kernel
theorem at_516_151 : am_at (am_m 516) 151 = some (.iload_n 2, 0) := by decide +kernel
theorem at_516_152 : am_at (am_m 516) 152 = some (.iaload, 0) := by decide +kernel
theorem at_516_153 : am_at (am_m 516) 153 = some (.iadd, 0) := by decide +kernel
theorem at_516_154 : am_at (am_m 516) 154 = some (.laload, 0) := by decide +kernel
theorem at_516_155 : am_at (am_m 516) 155 = some (.lload_n 3, 0) := by decide +kernel
theorem at_516_156 : am_at (am_m 516) 156 = some (.lcmp, 0) := by decide +kernel
theorem at_516_157 : am_at (am_m 516) 157 = some (.ifCond .ne 7, 164) := by decide +kernel
theorem at_516_160 : am_at (am_m 516) 160 = some (.iconst 1, 0) := by decide +kernel
theorem at_516_161 : am_at (am_m 516) 161 = some (.goto 4, 165) := by decide +kernel
theorem at_516_164 : am_at (am_m 516) 164 = some (.iconst 0, 0) := by decide +kernel
theorem at_516_165 : am_at (am_m 516) 165 = some (.bastore, 0) := by decide +kernel
theorem at_516_166 : am_at (am_m 516) 166 = some (.iload_n 1, 0) := by decide +kernel
theorem at_516_167 : am_at (am_m 516) 167 = some (.aload_n 0, 0) := by decide +kernel
theorem at_516_168 : am_at (am_m 516) 168 = some (.getfield 214, 3181) := by decide +kernel
theorem at_516_171 : am_at (am_m 516) 171 = some (.iload 5, 0) := by decide +kernel
theorem at_516_173 : am_at (am_m 516) 173 = some (.baload, 0) := by decide +kernel
theorem at_516_174 : am_at (am_m 516) 174 = some (.ifCond .eq 7, 181) := by decide +kernel
theorem at_516_177 : am_at (am_m 516) 177 = some (.iconst 1, 0) := by decide +kernel
theorem at_516_178 : am_at (am_m 516) 178 = some (.goto 4, 182) := by decide +kernel
theorem at_516_181 : am_at (am_m 516) 181 = some (.iconst 0, 0) := by decide +kernel
theorem at_516_182 : am_at (am_m 516) 182 = some (.iadd, 0) := by decide +kernel
theorem at_516_183 : am_at (am_m 516) 183 = some (.istore_n 1, 0) := by decide +kernel
theorem at_516_184 : am_at (am_m 516) 184 = some (.iinc 5 1, 0) := by decide +kernel
theorem at_516_187 : am_at (am_m 516) 187 = some (.goto (-74), 113) := by decide +kernel
theorem at_516_190 : am_at (am_m 516) 190 = some (.iinc 2 1, 0) := by decide +kernel
theorem at_516_193 : am_at (am_m 516) 193 = some (.goto (-163), 30) := by decide +kernel
theorem at_516_196 : am_at (am_m 516) 196 = some (.iconst 0, 0) := by decide +kernel
theorem at_516_197 : am_at (am_m 516) 197 = some (.istore_n 2, 0) := by decide +kernel
theorem at_516_198 : am_at (am_m 516) 198 = some (.aload_n 0, 0) := by decide +kernel
theorem at_516_199 : am_at (am_m 516) 199 = some (.getfield 214, 3181) := by decide +kernel
theorem at_516_202 : am_at (am_m 516) 202 = some (.iload_n 2, 0) := by decide +kernel
theorem at_516_203 : am_at (am_m 516) 203 = some (.baload, 0) := by decide +kernel
theorem at_516_204 : am_at (am_m 516) 204 = some (.ifCond .ne 9, 213) := by decide +kernel
theorem at_516_207 : am_at (am_m 516) 207 = some (.iinc 2 1, 0) := by decide +kernel
theorem at_516_210 : am_at (am_m 516) 210 = some (.goto (-12), 198) := by decide +kernel
theorem at_516_213 : am_at (am_m 516) 213 = some (.iload_n 2, 0) := by decide +kernel
theorem at_516_214 : am_at (am_m 516) 214 = some (.ireturn, 0) := by decide +kernel
theorem at_517_0 : am_at (am_m 517) 0 = some (.iconst 0, 0) := by decide +kernel
theorem at_517_1 : am_at (am_m 517) 1 = some (.istore_n 1, 0) := by decide +kernel
theorem at_517_2 : am_at (am_m 517) 2 = some (.iconst 1, 0) := by decide +kernel
theorem at_517_3 : am_at (am_m 517) 3 = some (.istore_n 2, 0) := by decide +kernel
theorem at_517_4 : am_at (am_m 517) 4 = some (.iload_n 2, 0) := by decide +kernel
theorem at_517_5 : am_at (am_m 517) 5 = some (.aload_n 0, 0) := by decide +kernel
theorem at_517_6 : am_at (am_m 517) 6 = some (.getfield 904, 3177) := by decide +kernel
theorem at_517_9 : am_at (am_m 517) 9 = some (.if_icmp .ge 24, 33) := by decide +kernel
theorem at_517_12 : am_at (am_m 517) 12 = some (.aload_n 0, 0) := by decide +kernel
theorem at_517_13 : am_at (am_m 517) 13 = some (.iload_n 2, 0) := by decide +kernel
theorem at_517_14 : am_at (am_m 517) 14 = some (.iload_n 1, 0) := by decide +kernel
theorem at_517_15 : am_at (am_m 517) 15 = some (.invokevirtual 910, 508) := by decide +kernel
theorem at_517_18 : am_at (am_m 517) 18 = some (.ifCond .eq 7, 25) := by decide +kernel
theorem at_517_21 : am_at (am_m 517) 21 = some (.iload_n 2, 0) := by decide +kernel
theorem at_517_22 : am_at (am_m 517) 22 = some (.goto 4, 26) := by decide +kernel
theorem at_517_25 : am_at (am_m 517) 25 = some (.iload_n 1, 0) := by decide +kernel
theorem at_517_26 : am_at (am_m 517) 26 = some (.istore_n 1, 0) := by decide +kernel
theorem at_517_27 : am_at (am_m 517) 27 = some (.iinc 2 1, 0) := by decide +kernel
theorem at_517_30 : am_at (am_m 517) 30 = some (.goto (-26), 4) := by decide +kernel
theorem at_517_33 : am_at (am_m 517) 33 = some (.iload_n 1, 0) := by decide +kernel
theorem at_517_34 : am_at (am_m 517) 34 = some (.ireturn, 0) := by decide +kernel
theorem at_518_0 : am_at (am_m 518) 0 = some (.aload_n 0, 0) := by decide +kernel
theorem at_518_1 : am_at (am_m 518) 1 = some (.aload_n 0, 0) := by decide +kernel
theorem at_518_2 : am_at (am_m 518) 2 = some (.iload_n 1, 0) := by decide +kernel
theorem at_518_3 : am_at (am_m 518) 3 = some (.invokevirtual 881, 489) := by decide +kernel
theorem at_518_6 : am_at (am_m 518) 6 = some (.ifCond .eq 15, 21) := by decide +kernel
theorem at_518_9 : am_at (am_m 518) 9 = some (.aload_n 0, 0) := by decide +kernel
theorem at_518_10 : am_at (am_m 518) 10 = some (.iload_n 2, 0) := by decide +kernel
theorem at_518_11 : am_at (am_m 518) 11 = some (.invokevirtual 881, 489) := by decide +kernel
theorem at_518_14 : am_at (am_m 518) 14 = some (.ifCond .eq 7, 21) := by decide +kernel
theorem at_518_17 : am_at (am_m 518) 17 = some (.iconst 0, 0) := by decide +kernel
theorem at_518_18 : am_at (am_m 518) 18 = some (.goto 4, 22) := by decide +kernel
theorem at_518_21 : am_at (am_m 518) 21 = some (.iconst 1, 0) := by decide +kernel
theorem at_518_22 : am_at (am_m 518) 22 = some (.putfield 292, 3072) := by decide +kernel
theorem at_518_25 : am_at (am_m 518) 25 = some (.aload_n 0, 0) := by decide +kernel
theorem at_518_26 : am_at (am_m 518) 26 = some (.getfield 292, 3072) := by decide +kernel
theorem at_518_29 : am_at (am_m 518) 29 = some (.ifCond .gt 57, 86) := by decide +kernel
theorem at_518_32 : am_at (am_m 518) 32 = some (.iload_n 1, 0) := by decide +kernel
theorem at_518_33 : am_at (am_m 518) 33 = some (.iload_n 2, 0) := by decide +kernel
theorem at_518_34 : am_at (am_m 518) 34 = some (.if_icmp .eq 52, 86) := by decide +kernel
theorem at_518_37 : am_at (am_m 518) 37 = some (.aload_n 0, 0) := by decide +kernel
theorem at_518_38 : am_at (am_m 518) 38 = some (.getfield 187, 3170) := by decide +kernel
theorem at_518_41 : am_at (am_m 518) 41 = some (.iload_n 1, 0) := by decide +kernel
theorem at_518_42 : am_at (am_m 518) 42 = some (.iaload, 0) := by decide +kernel
theorem at_518_43 : am_at (am_m 518) 43 = some (.ifCond .eq 43, 86) := by decide +kernel
theorem at_518_46 : am_at (am_m 518) 46 = some (.aload_n 0, 0) := by decide +kernel
theorem at_518_47 : am_at (am_m 518) 47 = some (.getfield 187, 3170) := by decide +kernel
theorem at_518_50 : am_at (am_m 518) 50 = some (.iload_n 2, 0) := by decide +kernel
theorem at_518_51 : am_at (am_m 518) 51 = some (.iaload, 0) := by decide +kernel
theorem at_518_52 : am_at (am_m 518) 52 = some (.ifCond .eq 34, 86) := by decide +kernel
theorem at_518_55 : am_at (am_m 518) 55 = some (.aload_n 0, 0) := by decide +kernel
theorem at_518_56 : am_at (am_m 518) 56 = some (.getfield 7, 3074) := by decide +kernel
theorem at_518_59 : am_at (am_m 518) 59 = some (.aload_n 0, 0) := by decide +kernel
theorem at_518_60 : am_at (am_m 518) 60 = some (.getfield 190, 3171) := by decide +kernel
theorem at_518_63 : am_at (am_m 518) 63 = some (.bipush 16, 0) := by decide +kernel
theorem at_518_65 : am_at (am_m 518) 65 = some (.iload_n 1, 0) := by decide +kernel
theorem at_518_66 : am_at (am_m 518) 66 = some (.imul, 0) := by decide +kernel
theorem at_518_67 : am_at (am_m 518) 67 = some (.iaload, 0) := by decide +kernel
theorem at_518_68 : am_at (am_m 518) 68 = some (.iaload, 0) := by decide +kernel
theorem at_518_69 : am_at (am_m 518) 69 = some (.aload_n 0, 0) := by decide +kernel
theorem at_518_70 : am_at (am_m 518) 70 = some (.getfield 7, 3074) := by decide +kernel
theorem at_518_73 : am_at (am_m 518) 73 = some (.aload_n 0, 0) := by decide +kernel
theorem at_518_74 : am_at (am_m 518) 74 = some (.getfield 190, 3171) := by decide +kernel
theorem at_518_77 : am_at (am_m 518) 77 = some (.bipush 16, 0) := by decide +kernel
theorem at_518_79 : am_at (am_m 518) 79 = some (.iload_n 2, 0) := by decide +kernel
theorem at_518_80 : am_at (am_m 518) 80 = some (.imul, 0) := by decide +kernel
theorem at_518_81 : am_at (am_m 518) 81 = some (.iaload, 0) := by decide +kernel
theorem at_518_82 : am_at (am_m 518) 82 = some (.iaload, 0) := by decide +kernel
theorem at_518_83 : am_at (am_m 518) 83 = some (.if_icmp .eq 5, 88) := by decide +kernel
theorem at_518_86 : am_at (am_m 518) 86 = some (.iconst 0, 0) := by decide +kernel
theorem at_518_87 : am_at (am_m 518) 87 = some (.ireturn, 0) := by decide +kernel
theorem at_518_88 : am_at (am_m 518) 88 = some (.aload_n 0, 0) := by decide +kernel
theorem at_518_89 : am_at (am_m 518) 89 = some (.iload_n 1, 0) := by decide +kernel
theorem at_518_90 : am_at (am_m 518) 90 = some (.invokevirtual 938, 505) := by decide +kernel
theorem at_518_93 : am_at (am_m 518) 93 = some (.aload_n 0, 0) := by decide +kernel
theorem at_518_94 : am_at (am_m 518) 94 = some (.getfield 205, 3176) := by decide +kernel
theorem at_518_97 : am_at (am_m 518) 97 = some (.aload_n 0, 0) := by decide +kernel
theorem at_518_98 : am_at (am_m 518) 98 = some (.invokevirtual 958, 517) := by decide +kernel
theorem at_518_101 : am_at (am_m 518) 101 = some (.iaload, 0) := by decide +kernel
theorem at_518_102 : am_at (am_m 518) 102 = some (.istore_n 3, 0) := by decide +kernel
theorem at_518_103 : am_at (am_m 518) 103 = some (.aload_n 0, 0) := by decide +kernel
theorem at_518_104 : am_at (am_m 518) 104 = some (.iload_n 2, 0) := by decide +kernel
theorem at_518_105 : am_at (am_m 518) 105 = some (.invokevirtual 938, 505) := by decide +kernel
theorem at_518_108 : am_at (am_m 518) 108 = some (.iconst 0, 0) := by decide +kernel
theorem at_518_109 : am_at (am_m 518) 109 = some (.istore 4, 0) := by decide +kernel
theorem at_518_111 : am_at (am_m 518) 111 = some (.iconst 1, 0) := by decide +kernel
theorem at_518_112 : am_at (am_m 518) 112 = some (.istore 5, 0) := by decide +kernel
theorem at_518_114 : am_at (am_m 518) 114 = some (.iload 5, 0) := by decide +kernel
theorem at_518_116 : am_at (am_m 518) 116 = some (.aload_n 0, 0) := by decide +kernel
theorem at_518_117 : am_at (am_m 518) 117 = some (.getfield 904, 3177) := by decide +kernel
theorem at_518_120 : am_at (am_m 518) 120 = some (.if_icmp .ge 29, 149) := by decide +kernel
theorem at_518_123 : am_at (am_m 518) 123 = some (.aload_n 0, 0) := by decide +kernel
theorem at_518_124 : am_at (am_m 518) 124 = some (.iload 4, 0) := by decide +kernel
theorem at_518_126 : am_at (am_m 518) 126 = some (.iload 5, 0) := by decide +kernel
theorem at_518_128 : am_at (am_m 518) 128 = some (.invokevirtual 910, 508) := by decide +kernel
theorem at_518_131 : am_at (am_m 518) 131 = some (.ifCond .eq 8, 139) := by decide +kernel
theorem at_518_134 : am_at (am_m 518) 134 = some (.iload 5, 0) := by decide +kernel
theorem at_518_136 : am_at (am_m 518) 136 = some (.goto 5, 141) := by decide +kernel
theorem at_518_139 : am_at (am_m 518) 139 = some (.iload 4, 0) := by decide +kernel
theorem at_518_141 : am_at (am_m 518) 141 = some (.istore 4, 0) := by decide +kernel
theorem at_518_143 : am_at (am_m 518) 143 = some (.iinc 5 1, 0) := by decide +kernel
theorem at_518_146 : am_at (am_m 518) 146 = some (.goto (-32), 114) := by decide +kernel
theorem at_518_149 : am_at (am_m 518) 149 = some (.aload_n 0, 0) := by decide +kernel
theorem at_518_150 : am_at (am_m 518) 150 = some (.getfield 190, 3171) := by decide +kernel
theorem at_518_153 : am_at (am_m 518) 153 = some (.bipush 16, 0) := by decide +kernel
theorem at_518_155 : am_at (am_m 518) 155 = some (.iload_n 2, 0) := by decide +kernel
theorem at_518_156 : am_at (am_m 518) 156 = some (.imul, 0) := by decide +kernel
theorem at_518_157 : am_at (am_m 518) 157 = some (.iload 4, 0) := by decide +kernel
theorem at_518_159 : am_at (am_m 518) 159 = some (.iadd, 0) := by decide +kernel
theorem at_518_160 : am_at (am_m 518) 160 = some (.iload_n 3, 0) := by decide +kernel
theorem at_518_161 : am_at (am_m 518) 161 = some (.iastore, 0) := by decide +kernel
theorem at_518_162 : am_at (am_m 518) 162 = some (.iconst 1, 0) := by decide +kernel
theorem at_518_163 : am_at (am_m 518) 163 = some (.ireturn, 0) := by decide +kernel
theorem at_519_0 : am_at (am_m 519) 0 = some (.aload_n 0, 0) := by decide +kernel
theorem at_519_1 : am_at (am_m 519) 1 = some (.aload_n 0, 0) := by decide +kernel
theorem at_519_2 : am_at (am_m 519) 2 = some (.iload_n 1, 0) := by decide +kernel
theorem at_519_3 : am_at (am_m 519) 3 = some (.invokevirtual 881, 489) := by decide +kernel
theorem at_519_6 : am_at (am_m 519) 6 = some (.ifCond .ne 7, 13) := by decide +kernel
theorem at_519_9 : am_at (am_m 519) 9 = some (.iconst 1, 0) := by decide +kernel
theorem at_519_10 : am_at (am_m 519) 10 = some (.goto 17, 27) := by decide +kernel
theorem at_519_13 : am_at (am_m 519) 13 = some (.aload_n 0, 0) := by decide +kernel
theorem at_519_14 : am_at (am_m 519) 14 = some (.getfield 187, 3170) := by decide +kernel
theorem at_519_17 : am_at (am_m 519) 17 = some (.iload_n 1, 0) := by decide +kernel
theorem at_519_18 : am_at (am_m 519) 18 = some (.iaload, 0) := by decide +kernel
theorem at_519_19 : am_at (am_m 519) 19 = some (.ifCond .ne 7, 26) := by decide +kernel
theorem at_519_22 : am_at (am_m 519) 22 = some (.iconst 2, 0) := by decide +kernel
theorem at_519_23 : am_at (am_m 519) 23 = some (.goto 4, 27) := by decide +kernel
theorem at_519_26 : am_at (am_m 519) 26 = some (.iconst 0, 0) := by decide +kernel
theorem at_519_27 : am_at (am_m 519) 27 = some (.putfield 292, 3072) := by decide +kernel
theorem at_519_30 : am_at (am_m 519) 30 = some (.aload_n 0, 0) := by decide +kernel
theorem at_519_31 : am_at (am_m 519) 31 = some (.getfield 292, 3072) := by decide +kernel
theorem at_519_34 : am_at (am_m 519) 34 = some (.ifCond .le 5, 39) := by decide +kernel
theorem at_519_37 : am_at (am_m 519) 37 = some (.iconst 0, 0) := by decide +kernel
theorem at_519_38 : am_at (am_m 519) 38 = some (.ireturn, 0) := by decide +kernel
theorem at_519_39 : am_at (am_m 519) 39 = some (.aload_n 0, 0) := by decide +kernel
theorem at_519_40 : am_at (am_m 519) 40 = some (.iload_n 1, 0) := by decide +kernel
theorem at_519_41 : am_at (am_m 519) 41 = some (.invokevirtual 938, 505) := by decide +kernel
theorem at_519_44 : am_at (am_m 519) 44 = some (.aload_n 0, 0) := by decide +kernel
theorem at_519_45 : am_at (am_m 519) 45 = some (.getfield 205, 3176) := by decide +kernel
theorem at_519_48 : am_at (am_m 519) 48 = some (.aload_n 0, 0) := by decide +kernel
theorem at_519_49 : am_at (am_m 519) 49 = some (.invokevirtual 958, 517) := by decide +kernel
theorem at_519_52 : am_at (am_m 519) 52 = some (.iaload, 0) := by decide +kernel
theorem at_519_53 : am_at (am_m 519) 53 = some (.ireturn, 0) := by decide +kernel
theorem at_520_0 : am_at (am_m 520) 0 = some (.aload_n 0, 0) := by decide +kernel
theorem at_520_1 : am_at (am_m 520) 1 = some (.aload_n 0, 0) := by decide +kernel
theorem at_520_2 : am_at (am_m 520) 2 = some (.iload_n 1, 0) := by decide +kernel
theorem at_520_3 : am_at (am_m 520) 3 = some (.invokevirtual 881, 489) := by decide +kernel
theorem at_520_6 : am_at (am_m 520) 6 = some (.ifCond .eq 7, 13) := by decide +kernel
theorem at_520_9 : am_at (am_m 520) 9 = some (.iconst 0, 0) := by decide +kernel
theorem at_520_10 : am_at (am_m 520) 10 = some (.goto 4, 14) := by decide +kernel
theorem at_520_13 : am_at (am_m 520) 13 = some (.iconst 1, 0) := by decide +kernel
theorem at_520_14 : am_at (am_m 520) 14 = some (.putfield 292, 3072) := by decide +kernel
theorem at_520_17 : am_at (am_m 520) 17 = some (.aload_n 0, 0) := by decide +kernel
theorem at_520_18 : am_at (am_m 520) 18 = some (.getfield 292, 3072) := by decide +kernel
theorem at_520_21 : am_at (am_m 520) 21 = some (.ifCond .le 5, 26) := by decide +kernel
theorem at_520_24 : am_at (am_m 520) 24 = some (.iconst 0, 0) := by decide +kernel
theorem at_520_25 : am_at (am_m 520) 25 = some (.ireturn, 0) := by decide +kernel
theorem at_520_26 : am_at (am_m 520) 26 = some (.aload_n 0, 0) := by decide +kernel
theorem at_520_27 : am_at (am_m 520) 27 = some (.iload_n 1, 0) := by decide +kernel
theorem at_520_28 : am_at (am_m 520) 28 = some (.invokevirtual 938, 505) := by decide +kernel
theorem at_520_31 : am_at (am_m 520) 31 = some (.iload_n 2, 0) := by decide +kernel
theorem at_520_32 : am_at (am_m 520) 32 = some (.ifCond .ge 7, 39) := by decide +kernel
theorem at_520_35 : am_at (am_m 520) 35 = some (.iconst (-1), 0) := by decide +kernel
theorem at_520_36 : am_at (am_m 520) 36 = some (.goto 8, 44) := by decide +kernel
theorem at_520_39 : am_at (am_m 520) 39 = some (.aload_n 0, 0) := by decide +kernel
theorem at_520_40 : am_at (am_m 520) 40 = some (.iload_n 2, 0) := by decide +kernel
theorem at_520_41 : am_at (am_m 520) 41 = some (.invokevirtual 927, 515) := by decide +kernel
theorem at_520_44 : am_at (am_m 520) 44 = some (.istore_n 3, 0) := by decide +kernel
theorem at_520_45 : am_at (am_m 520) 45 = some (.iload_n 3, 0) := by decide +kernel
theorem at_520_46 : am_at (am_m 520) 46 = some (.ifCond .ge 7, 53) := by decide +kernel
theorem at_520_49 : am_at (am_m 520) 49 = some (.iconst (-1), 0) := by decide +kernel
theorem at_520_50 : am_at (am_m 520) 50 = some (.goto 9, 59) := by decide +kernel
theorem at_520_53 : am_at (am_m 520) 53 = some (.aload_n 0, 0) := by decide +kernel
theorem at_520_54 : am_at (am_m 520) 54 = some (.getfield 205, 3176) := by decide +kernel
theorem at_520_57 : am_at (am_m 520) 57 = some (.iload_n 3, 0) := by decide +kernel
theorem at_520_58 : am_at (am_m 520) 58 = some (.iaload, 0) := by decide +kernel
theorem at_520_59 : am_at (am_m 520) 59 = some (.ireturn, 0) := by decide +kernel
theorem at_521_0 : am_at (am_m 521) 0 = some (.aload_n 0, 0) := by decide +kernel
theorem at_521_1 : am_at (am_m 521) 1 = some (.aload_n 0, 0) := by decide +kernel
theorem at_521_2 : am_at (am_m 521) 2 = some (.iload_n 1, 0) := by decide +kernel
theorem at_521_3 : am_at (am_m 521) 3 = some (.iload_n 2, 0) := by decide +kernel
theorem at_521_4 : am_at (am_m 521) 4 = some (.invokevirtual 901, 501) := by decide +kernel
theorem at_521_7 : am_at (am_m 521) 7 = some (.ifCond .ne 7, 14) := by decide +kernel
theorem at_521_10 : am_at (am_m 521) 10 = some (.iconst 1, 0) := by decide +kernel
theorem at_521_11 : am_at (am_m 521) 11 = some (.goto 31, 42) := by decide +kernel
theorem at_521_14 : am_at (am_m 521) 14 = some (.iload_n 3, 0) := by decide +kernel
theorem at_521_15 : am_at (am_m 521) 15 = some (.i2l, 0) := by decide +kernel
theorem at_521_16 : am_at (am_m 521) 16 = some (.lconst 0, 0) := by decide +kernel
theorem at_521_17 : am_at (am_m 521) 17 = some (.lconst 1, 0) := by decide +kernel
theorem at_521_18 : am_at (am_m 521) 18 = some (.invokestatic 299, 327) := by decide +kernel
theorem at_521_21 : am_at (am_m 521) 21 = some (.ifCond .ne 7, 28) := by decide +kernel
theorem at_521_24 : am_at (am_m 521) 24 = some (.iconst 2, 0) := by decide +kernel
theorem at_521_25 : am_at (am_m 521) 25 = some (.goto 17, 42) := by decide +kernel
theorem at_521_28 : am_at (am_m 521) 28 = some (.aload_n 0, 0) := by decide +kernel
theorem at_521_29 : am_at (am_m 521) 29 = some (.invokevirtual 961, 522) := by decide +kernel
theorem at_521_32 : am_at (am_m 521) 32 = some (.bipush 6, 0) := by decide +kernel
theorem at_521_34 : am_at (am_m 521) 34 = some (.if_icmp .le 7, 41) := by decide +kernel
theorem at_521_37 : am_at (am_m 521) 37 = some (.iconst 3, 0) := by decide +kernel
theorem at_521_38 : am_at (am_m 521) 38 = some (.goto 4, 42) := by decide +kernel
theorem at_521_41 : am_at (am_m 521) 41 = some (.iconst 0, 0) := by decide +kernel
theorem at_521_42 : am_at (am_m 521) 42 = some (.putfield 292, 3072) := by decide +kernel
theorem at_521_45 : am_at (am_m 521) 45 = some (.aload_n 0, 0) := by decide +kernel
theorem at_521_46 : am_at (am_m 521) 46 = some (.getfield 292, 3072) := by decide +kernel
theorem at_521_49 : am_at (am_m 521) 49 = some (.ifCond .le 5, 54) := by decide +kernel
theorem at_521_52 : am_at (am_m 521) 52 = some (.iconst 0, 0) := by decide +kernel
theorem at_521_53 : am_at (am_m 521) 53 = some (.ireturn, 0) := by decide +kernel
theorem at_521_54 : am_at (am_m 521) 54 = some (.aload_n 0, 0) := by decide +kernel
theorem at_521_55 : am_at (am_m 521) 55 = some (.iload_n 1, 0) := by decide +kernel
theorem at_521_56 : am_at (am_m 521) 56 = some (.invokevirtual 938, 505) := by decide +kernel
theorem at_521_59 : am_at (am_m 521) 59 = some (.aload_n 0, 0) := by decide +kernel
theorem at_521_60 : am_at (am_m 521) 60 = some (.invokevirtual 941, 506) := by decide +kernel
theorem at_521_63 : am_at (am_m 521) 63 = some (.aload_n 0, 0) := by decide +kernel
theorem at_521_64 : am_at (am_m 521) 64 = some (.lconst 0, 0) := by decide +kernel
theorem at_521_65 : am_at (am_m 521) 65 = some (.putfield 689, 3163) := by decide +kernel
theorem at_521_68 : am_at (am_m 521) 68 = some (.lconst 0, 0) := by decide +kernel
theorem at_521_69 : am_at (am_m 521) 69 = some (.lstore 4, 0) := by decide +kernel
theorem at_521_71 : am_at (am_m 521) 71 = some (.iconst 1, 0) := by decide +kernel
theorem at_521_72 : am_at (am_m 521) 72 = some (.istore 6, 0) := by decide +kernel
theorem at_521_74 : am_at (am_m 521) 74 = some (.iload 6, 0) := by decide +kernel
theorem at_521_76 : am_at (am_m 521) 76 = some (.ifCond .eq 45, 121) := by decide +kernel
theorem at_521_79 : am_at (am_m 521) 79 = some (.aload_n 0, 0) := by decide +kernel
theorem at_521_80 : am_at (am_m 521) 80 = some (.getfield 689, 3163) := by decide +kernel
theorem at_521_83 : am_at (am_m 521) 83 = some (.lstore 7, 0) := by decide +kernel
theorem at_521_85 : am_at (am_m 521) 85 = some (.aload_n 0, 0) := by decide +kernel
theorem at_521_86 : am_at (am_m 521) 86 = some (.aload_n 0, 0) := by decide +kernel
theorem at_521_87 : am_at (am_m 521) 87 = some (.invokevirtual 930, 516) := by decide +kernel
theorem at_521_90 : am_at (am_m 521) 90 = some (.iload_n 2, 0) := by decide +kernel
theorem at_521_91 : am_at (am_m 521) 91 = some (.if_icmp .ne 10, 101) := by decide +kernel
theorem at_521_94 : am_at (am_m 521) 94 = some (.lload 7, 0) := by decide +kernel
theorem at_521_96 : am_at (am_m 521) 96 = some (.lconst 1, 0) := by decide +kernel
theorem at_521_97 : am_at (am_m 521) 97 = some (.ladd, 0) := by decide +kernel
theorem at_521_98 : am_at (am_m 521) 98 = some (.goto 5, 103) := by decide +kernel
theorem at_521_101 : am_at (am_m 521) 101 = some (.lload 7, 0) := by decide +kernel
theorem at_521_103 : am_at (am_m 521) 103 = some (.putfield 689, 3163) := by decide +kernel
theorem at_521_106 : am_at (am_m 521) 106 = some (.lload 4, 0) := by decide +kernel
theorem at_521_108 : am_at (am_m 521) 108 = some (.lconst 1, 0) := by decide +kernel
theorem at_521_109 : am_at (am_m 521) 109 = some (.ladd, 0) := by decide +kernel
theorem at_521_110 : am_at (am_m 521) 110 = some (.lstore 4, 0) := by decide +kernel
theorem at_521_112 : am_at (am_m 521) 112 = some (.aload_n 0, 0) := by decide +kernel
theorem at_521_113 : am_at (am_m 521) 113 = some (.invokevirtual 964, 523) := by decide +kernel
theorem at_521_116 : am_at (am_m 521) 116 = some (.istore 6, 0) := by decide +kernel
theorem at_521_118 : am_at (am_m 521) 118 = some (.goto (-44), 74) := by decide +kernel
theorem at_521_121 : am_at (am_m 521) 121 = some (.aload_n 0, 0) := by decide +kernel
theorem at_521_122 : am_at (am_m 521) 122 = some (.lload 4, 0) := by decide +kernel
theorem at_521_124 : am_at (am_m 521) 124 = some (.putfield 693, 3164) := by decide +kernel
theorem at_521_127 : am_at (am_m 521) 127 = some (.aload_n 0, 0) := by decide +kernel
theorem at_521_128 : am_at (am_m 521) 128 = some (.invokevirtual 700, 429) := by decide +kernel
theorem at_521_131 : am_at (am_m 521) 131 = some (.iload_n 3, 0) := by decide +kernel
theorem at_521_132 : am_at (am_m 521) 132 = some (.ifCond .ne 10, 142) := by decide +kernel
theorem at_521_135 : am_at (am_m 521) 135 = some (.aload_n 0, 0) := by decide +kernel
theorem at_521_136 : am_at (am_m 521) 136 = some (.getfield 689, 3163) := by decide +kernel
theorem at_521_139 : am_at (am_m 521) 139 = some (.goto 7, 146) := by decide +kernel
theorem at_521_142 : am_at (am_m 521) 142 = some (.aload_n 0, 0) := by decide +kernel
theorem at_521_143 : am_at (am_m 521) 143 = some (.getfield 693, 3164) := by decide +kernel
theorem at_521_146 : am_at (am_m 521) 146 = some (.l2i, 0) := by decide +kernel
theorem at_521_147 : am_at (am_m 521) 147 = some (.ireturn, 0) := by decide +kernel
theorem at_522_0 : am_at (am_m 522) 0 = some (.iconst 0, 0) := by decide +kernel
theorem at_522_1 : am_at (am_m 522) 1 = some (.istore_n 1, 0) := by decide +kernel
theorem at_522_2 : am_at (am_m 522) 2 = some (.iconst 0, 0) := by decide +kernel
theorem at_522_3 : am_at (am_m 522) 3 = some (.istore_n 2, 0) := by decide +kernel
theorem at_522_4 : am_at (am_m 522) 4 = some (.iload_n 2, 0) := by decide +kernel
theorem at_522_5 : am_at (am_m 522) 5 = some (.aload_n 0, 0) := by decide +kernel
theorem at_522_6 : am_at (am_m 522) 6 = some (.getfield 652, 3103) := by decide +kernel
theorem at_522_9 : am_at (am_m 522) 9 = some (.if_icmp .ge 26, 35) := by decide +kernel
theorem at_522_12 : am_at (am_m 522) 12 = some (.iload_n 1, 0) := by decide +kernel
theorem at_522_13 : am_at (am_m 522) 13 = some (.aload_n 0, 0) := by decide +kernel
theorem at_522_14 : am_at (am_m 522) 14 = some (.getfield 93, 3109) := by decide +kernel
theorem at_522_17 : am_at (am_m 522) 17 = some (.iload_n 2, 0) := by decide +kernel
theorem at_522_18 : am_at (am_m 522) 18 = some (.baload, 0) := by decide +kernel
theorem at_522_19 : am_at (am_m 522) 19 = some (.ifCond .eq 7, 26) := by decide +kernel
theorem at_522_22 : am_at (am_m 522) 22 = some (.iconst 0, 0) := by decide +kernel
theorem at_522_23 : am_at (am_m 522) 23 = some (.goto 4, 27) := by decide +kernel
theorem at_522_26 : am_at (am_m 522) 26 = some (.iconst 1, 0) := by decide +kernel
theorem at_522_27 : am_at (am_m 522) 27 = some (.iadd, 0) := by decide +kernel
theorem at_522_28 : am_at (am_m 522) 28 = some (.istore_n 1, 0) := by decide +kernel
theorem at_522_29 : am_at (am_m 522) 29 = some (.iinc 2 1, 0) := by decide +kernel
theorem at_522_32 : am_at (am_m 522) 32 = some (.goto (-28), 4) := by decide +kernel
theorem at_522_35 : am_at (am_m 522) 35 = some (.iload_n 1, 0) := by decide +kernel
theorem at_522_36 : am_at (am_m 522) 36 = some (.ireturn, 0) := by decide +kernel
theorem at_523_0 : am_at (am_m 523) 0 = some (.aload_n 0, 0) := by decide +kernel
theorem at_523_1 : am_at (am_m 523) 1 = some (.getfield 916, 3180) := by decide +kernel
theorem at_523_4 : am_at (am_m 523) 4 = some (.iconst 2, 0) := by decide +kernel
theorem at_523_5 : am_at (am_m 523) 5 = some (.isub, 0) := by decide +kernel
theorem at_523_6 : am_at (am_m 523) 6 = some (.istore_n 1, 0) := by decide +kernel
theorem at_523_7 : am_at (am_m 523) 7 = some (.iload_n 1, 0) := by decide +kernel
theorem at_523_8 : am_at (am_m 523) 8 = some (.ifCond .lt 26, 34) := by decide +kernel
theorem at_523_11 : am_at (am_m 523) 11 = some (.aload_n 0, 0) := by decide +kernel
theorem at_523_12 : am_at (am_m 523) 12 = some (.getfield 211, 3179) := by decide +kernel
theorem at_523_15 : am_at (am_m 523) 15 = some (.iload_n 1, 0) := by decide +kernel
theorem at_523_16 : am_at (am_m 523) 16 = some (.iaload, 0) := by decide +kernel
theorem at_523_17 : am_at (am_m 523) 17 = some (.aload_n 0, 0) := by decide +kernel
theorem at_523_18 : am_at (am_m 523) 18 = some (.getfield 211, 3179) := by decide +kernel
theorem at_523_21 : am_at (am_m 523) 21 = some (.iload_n 1, 0) := by decide +kernel
theorem at_523_22 : am_at (am_m 523) 22 = some (.iconst 1, 0) := by decide +kernel
theorem at_523_23 : am_at (am_m 523) 23 = some (.iadd, 0) := by decide +kernel
theorem at_523_24 : am_at (am_m 523) 24 = some (.iaload, 0) := by decide +kernel
theorem at_523_25 : am_at (am_m 523) 25 = some (.if_icmp .le 9, 34) := by decide +kernel
theorem at_523_28 : am_at (am_m 523) 28 = some (.iinc 1 (-1), 0) := by decide +kernel
theorem at_523_31 : am_at (am_m 523) 31 = some (.goto (-24), 7) := by decide +kernel
theorem at_523_34 : am_at (am_m 523) 34 = some (.iload_n 1, 0) := by decide +kernel
theorem at_523_35 : am_at (am_m 523) 35 = some (.ifCond .ge 5, 40) := by decide +kernel
theorem at_523_38 : am_at (am_m 523) 38 = some (.iconst 0, 0) := by decide +kernel
theorem at_523_39 : am_at (am_m 523) 39 = some (.ireturn, 0) := by decide +kernel
theorem at_523_40 : am_at (am_m 523) 40 = some (.aload_n 0, 0) := by decide +kernel
theorem at_523_41 : am_at (am_m 523) 41 = some (.getfield 916, 3180) := by decide +kernel
theorem at_523_44 : am_at (am_m 523) 44 = some (.iconst 1, 0) := by decide +kernel
theorem at_523_45 : am_at (am_m 523) 45 = some (.isub, 0) := by decide +kernel
theorem at_523_46 : am_at (am_m 523) 46 = some (.istore_n 2, 0) := by decide +kernel
theorem at_523_47 : am_at (am_m 523) 47 = some (.aload_n 0, 0) := by decide +kernel
theorem at_523_48 : am_at (am_m 523) 48 = some (.getfield 211, 3179) := by decide +kernel
theorem at_523_51 : am_at (am_m 523) 51 = some (.iload_n 2, 0) := by decide +kernel
theorem at_523_52 : am_at (am_m 523) 52 = some (.iaload, 0) := by decide +kernel
theorem at_523_53 : am_at (am_m 523) 53 = some (.aload_n 0, 0) := by decide +kernel
theorem at_523_54 : am_at (am_m 523) 54 = some (.getfield 211, 3179) := by decide +kernel
theorem at_523_57 : am_at (am_m 523) 57 = some (.iload_n 1, 0) := by decide +kernel
theorem at_523_58 : am_at (am_m 523) 58 = some (.iaload, 0) := by decide +kernel
theorem at_523_59 : am_at (am_m 523) 59 = some (.if_icmp .ge 9, 68) := by decide +kernel
theorem at_523_62 : am_at (am_m 523) 62 = some (.iinc 2 (-1), 0) := by decide +kernel
theorem at_523_65 : am_at (am_m 523) 65 = some (.goto (-18), 47) := by decide +kernel
theorem at_523_68 : am_at (am_m 523) 68 = some (.aload_n 0, 0) := by decide +kernel
theorem at_523_69 : am_at (am_m 523) 69 = some (.getfield 211, 3179) := by decide +kernel
theorem at_523_72 : am_at (am_m 523) 72 = some (.iload_n 1, 0) := by decide +kernel
theorem at_523_73 : am_at (am_m 523) 73 = some (.iaload, 0) := by decide +kernel
theorem at_523_74 : am_at (am_m 523) 74 = some (.istore_n 3, 0) := by decide +kernel
theorem at_523_75 : am_at (am_m 523) 75 = some (.aload_n 0, 0) := by decide +kernel
theorem at_523_76 : am_at (am_m 523) 76 = some (.getfield 211, 3179) := by decide +kernel
theorem at_523_79 : am_at (am_m 523) 79 = some (.iload_n 1, 0) := by decide +kernel
theorem at_523_80 : am_at (am_m 523) 80 = some (.aload_n 0, 0) := by decide +kernel
theorem at_523_81 : am_at (am_m 523) 81 = some (.getfield 211, 3179) := by decide +kernel
theorem at_523_84 : am_at (am_m 523) 84 = some (.iload_n 2, 0) := by decide +kernel
theorem at_523_85 : am_at (am_m 523) 85 = some (.iaload, 0) := by decide +kernel
theorem at_523_86 : am_at (am_m 523) 86 = some (.iastore, 0) := by decide +kernel
theorem at_523_87 : am_at (am_m 523) 87 = some (.aload_n 0, 0) := by decide +kernel
theorem at_523_88 : am_at (am_m 523) 88 = some (.getfield 211, 3179) := by decide +kernel
theorem at_523_91 : am_at (am_m 523) 91 = some (.iload_n 2, 0) := by decide +kernel
theorem at_523_92 : am_at (am_m 523) 92 = some (.iload_n 3, 0) := by decide +kernel
theorem at_523_93 : am_at (am_m 523) 93 = some (.iastore, 0) := by decide +kernel
theorem at_523_94 : am_at (am_m 523) 94 = some (.aload_n 0, 0) := by decide +kernel
theorem at_523_95 : am_at (am_m 523) 95 = some (.getfield 916, 3180) := by decide +kernel
theorem at_523_98 : am_at (am_m 523) 98 = some (.iconst 1, 0) := by decide +kernel
theorem at_523_99 : am_at (am_m 523) 99 = some (.isub, 0) := by decide +kernel
theorem at_523_100 : am_at (am_m 523) 100 = some (.istore 4, 0) := by decide +kernel
theorem at_523_102 : am_at (am_m 523) 102 = some (.iload_n 1, 0) := by decide +kernel
theorem at_523_103 : am_at (am_m 523) 103 = some (.iconst 1, 0) := by decide +kernel
theorem at_523_104 : am_at (am_m 523) 104 = some (.iadd, 0) := by decide +kernel
theorem at_523_105 : am_at (am_m 523) 105 = some (.istore 5, 0) := by decide +kernel
theorem at_523_107 : am_at (am_m 523) 107 = some (.iload 5, 0) := by decide +kernel
theorem at_523_109 : am_at (am_m 523) 109 = some (.iload 4, 0) := by decide +kernel
theorem at_523_111 : am_at (am_m 523) 111 = some (.if_icmp .ge 42, 153) := by decide +kernel
theorem at_523_114 : am_at (am_m 523) 114 = some (.aload_n 0, 0) := by decide +kernel
theorem at_523_115 : am_at (am_m 523) 115 = some (.getfield 211, 3179) := by decide +kernel
theorem at_523_118 : am_at (am_m 523) 118 = some (.iload 5, 0) := by decide +kernel
theorem at_523_120 : am_at (am_m 523) 120 = some (.iaload, 0) := by decide +kernel
theorem at_523_121 : am_at (am_m 523) 121 = some (.istore_n 3, 0) := by decide +kernel
theorem at_523_122 : am_at (am_m 523) 122 = some (.aload_n 0, 0) := by decide +kernel
theorem at_523_123 : am_at (am_m 523) 123 = some (.getfield 211, 3179) := by decide +kernel
theorem at_523_126 : am_at (am_m 523) 126 = some (.iload 5, 0) := by decide +kernel
theorem at_523_128 : am_at (am_m 523) 128 = some (.aload_n 0, 0) := by decide +kernel
theorem at_523_129 : am_at (am_m 523) 129 = some (.getfield 211, 3179) := by decide +kernel
theorem at_523_132 : am_at (am_m 523) 132 = some (.iload 4, 0) := by decide +kernel
theorem at_523_134 : am_at (am_m 523) 134 = some (.iaload, 0) := by decide +kernel
theorem at_523_135 : am_at (am_m 523) 135 = some (.iastore, 0) := by decide +kernel
theorem at_523_136 : am_at (am_m 523) 136 = some (.aload_n 0, 0) := by decide +kernel
theorem at_523_137 : am_at (am_m 523) 137 = some (.getfield 211, 3179) := by decide +kernel
theorem at_523_140 : am_at (am_m 523) 140 = some (.iload 4, 0) := by decide +kernel
theorem at_523_142 : am_at (am_m 523) 142 = some (.iload_n 3, 0) := by decide +kernel
theorem at_523_143 : am_at (am_m 523) 143 = some (.iastore, 0) := by decide +kernel
theorem at_523_144 : am_at (am_m 523) 144 = some (.iinc 4 (-1), 0) := by decide +kernel
theorem at_523_147 : am_at (am_m 523) 147 = some (.iinc 5 1, 0) := by decide +kernel
theorem at_523_150 : am_at (am_m 523) 150 = some (.goto (-43), 107) := by decide +kernel
theorem at_523_153 : am_at (am_m 523) 153 = some (.iconst 1, 0) := by decide +kernel
theorem at_523_154 : am_at (am_m 523) 154 = some (.ireturn, 0) := by decide +kernel
theorem at_524_0 : am_at (am_m 524) 0 = some (.aload_n 0, 0) := by decide +kernel
theorem at_524_1 : am_at (am_m 524) 1 = some (.aload_n 0, 0) := by decide +kernel
theorem at_524_2 : am_at (am_m 524) 2 = some (.iload_n 1, 0) := by decide +kernel
theorem at_524_3 : am_at (am_m 524) 3 = some (.invokevirtual 568, 358) := by decide +kernel
theorem at_524_6 : am_at (am_m 524) 6 = some (.ifCond .eq 15, 21) := by decide +kernel
theorem at_524_9 : am_at (am_m 524) 9 = some (.aload_n 0, 0) := by decide +kernel
theorem at_524_10 : am_at (am_m 524) 10 = some (.iload_n 2, 0) := by decide +kernel
theorem at_524_11 : am_at (am_m 524) 11 = some (.invokevirtual 568, 358) := by decide +kernel
theorem at_524_14 : am_at (am_m 524) 14 = some (.ifCond .eq 7, 21) := by decide +kernel
theorem at_524_17 : am_at (am_m 524) 17 = some (.iconst 0, 0) := by decide +kernel
theorem at_524_18 : am_at (am_m 524) 18 = some (.goto 4, 22) := by decide +kernel
theorem at_524_21 : am_at (am_m 524) 21 = some (.iconst 1, 0) := by decide +kernel
theorem at_524_22 : am_at (am_m 524) 22 = some (.putfield 292, 3072) := by decide +kernel
theorem at_524_25 : am_at (am_m 524) 25 = some (.aload_n 0, 0) := by decide +kernel
theorem at_524_26 : am_at (am_m 524) 26 = some (.getfield 292, 3072) := by decide +kernel
theorem at_524_29 : am_at (am_m 524) 29 = some (.ifCond .le 7, 36) := by decide +kernel
theorem at_524_32 : am_at (am_m 524) 32 = some (.lconst 0, 0) := by decide +kernel
theorem at_524_33 : am_at (am_m 524) 33 = some (.goto 9, 42) := by decide +kernel
theorem at_524_36 : am_at (am_m 524) 36 = some (.aload_n 0, 0) := by decide +kernel
theorem at_524_37 : am_at (am_m 524) 37 = some (.iload_n 1, 0) := by decide +kernel
theorem at_524_38 : am_at (am_m 524) 38 = some (.iload_n 2, 0) := by decide +kernel
theorem at_524_39 : am_at (am_m 524) 39 = some (.invokevirtual 967, 525) := by decide +kernel
theorem at_524_42 : am_at (am_m 524) 42 = some (.lreturn, 0) := by decide +kernel
theorem at_525_0 : am_at (am_m 525) 0 = some (.lconst 0, 0) := by decide +kernel
theorem at_525_1 : am_at (am_m 525) 1 = some (.lstore_n 3, 0) := by decide +kernel
theorem at_525_2 : am_at (am_m 525) 2 = some (.iconst 0, 0) := by decide +kernel
theorem at_525_3 : am_at (am_m 525) 3 = some (.istore 5, 0) := by decide +kernel
theorem at_525_5 : am_at (am_m 525) 5 = some (.iload 5, 0) := by decide +kernel
theorem at_525_7 : am_at (am_m 525) 7 = some (.aload_n 0, 0) := by decide +kernel
theorem at_525_8 : am_at (am_m 525) 8 = some (.getfield 652, 3103) := by decide +kernel
theorem at_525_11 : am_at (am_m 525) 11 = some (.if_icmp .ge 94, 105) := by decide +kernel
theorem at_525_14 : am_at (am_m 525) 14 = some (.aload_n 0, 0) := by decide +kernel
theorem at_525_15 : am_at (am_m 525) 15 = some (.getfield 93, 3109) := by decide +kernel
theorem at_525_18 : am_at (am_m 525) 18 = some (.iload 5, 0) := by decide +kernel
theorem at_525_20 : am_at (am_m 525) 20 = some (.baload, 0) := by decide +kernel
theorem at_525_21 : am_at (am_m 525) 21 = some (.ifCond .eq 6, 27) := by decide +kernel
theorem at_525_24 : am_at (am_m 525) 24 = some (.goto 75, 99) := by decide +kernel
theorem at_525_27 : am_at (am_m 525) 27 = some (.aload_n 0, 0) := by decide +kernel
theorem at_525_28 : am_at (am_m 525) 28 = some (.iload_n 1, 0) := by decide +kernel
theorem at_525_29 : am_at (am_m 525) 29 = some (.invokevirtual 571, 359) := by decide +kernel
theorem at_525_32 : am_at (am_m 525) 32 = some (.aload_n 0, 0) := by decide +kernel
theorem at_525_33 : am_at (am_m 525) 33 = some (.iload 5, 0) := by decide +kernel
theorem at_525_35 : am_at (am_m 525) 35 = some (.invokevirtual 666, 402) := by decide +kernel
theorem at_525_38 : am_at (am_m 525) 38 = some (.aload_n 0, 0) := by decide +kernel
theorem at_525_39 : am_at (am_m 525) 39 = some (.invokevirtual 669, 403) := by decide +kernel
theorem at_525_42 : am_at (am_m 525) 42 = some (.aload_n 0, 0) := by decide +kernel
theorem at_525_43 : am_at (am_m 525) 43 = some (.getfield 382, 3120) := by decide +kernel
theorem at_525_46 : am_at (am_m 525) 46 = some (.istore 6, 0) := by decide +kernel
theorem at_525_48 : am_at (am_m 525) 48 = some (.aload_n 0, 0) := by decide +kernel
theorem at_525_49 : am_at (am_m 525) 49 = some (.getfield 385, 3121) := by decide +kernel
theorem at_525_52 : am_at (am_m 525) 52 = some (.istore 7, 0) := by decide +kernel
theorem at_525_54 : am_at (am_m 525) 54 = some (.aload_n 0, 0) := by decide +kernel
theorem at_525_55 : am_at (am_m 525) 55 = some (.iload_n 2, 0) := by decide +kernel
theorem at_525_56 : am_at (am_m 525) 56 = some (.invokevirtual 571, 359) := by decide +kernel
theorem at_525_59 : am_at (am_m 525) 59 = some (.aload_n 0, 0) := by decide +kernel
theorem at_525_60 : am_at (am_m 525) 60 = some (.invokevirtual 669, 403) := by decide +kernel
theorem at_525_63 : am_at (am_m 525) 63 = some (.lload_n 3, 0) := by decide +kernel
theorem at_525_64 : am_at (am_m 525) 64 = some (.iload 6, 0) := by decide +kernel
theorem at_525_66 : am_at (am_m 525) 66 = some (.aload_n 0, 0) := by decide +kernel
theorem at_525_67 : am_at (am_m 525) 67 = some (.getfield 382, 3120) := by decide +kernel
theorem at_525_70 : am_at (am_m 525) 70 = some (.if_icmp .eq 9, 79) := by decide +kernel
theorem at_525_73 : am_at (am_m 525) 73 = some (.ldc2_w 678, 19) := by decide +kernel
theorem at_525_76 : am_at (am_m 525) 76 = some (.goto 21, 97) := by decide +kernel
theorem at_525_79 : am_at (am_m 525) 79 = some (.iload 6, 0) := by decide +kernel
theorem at_525_81 : am_at (am_m 525) 81 = some (.ifCond .le 7, 88) := by decide +kernel
theorem at_525_84 : am_at (am_m 525) 84 = some (.lconst 0, 0) := by decide +kernel
theorem at_525_85 : am_at (am_m 525) 85 = some (.goto 12, 97) := by decide +kernel
theorem at_525_88 : am_at (am_m 525) 88 = some (.iload 7, 0) := by decide +kernel
theorem at_525_90 : am_at (am_m 525) 90 = some (.aload_n 0, 0) := by decide +kernel
theorem at_525_91 : am_at (am_m 525) 91 = some (.getfield 385, 3121) := by decide +kernel
theorem at_525_94 : am_at (am_m 525) 94 = some (.invokestatic 682, 426) := by decide +kernel
theorem at_525_97 : am_at (am_m 525) 97 = some (.ladd, 0) := by decide +kernel
theorem at_525_98 : am_at (am_m 525) 98 = some (.lstore_n 3, 0) := by decide +kernel
theorem at_525_99 : am_at (am_m 525) 99 = some (.iinc 5 1, 0) := by decide +kernel
theorem at_525_102 : am_at (am_m 525) 102 = some (.goto (-97), 5) := by decide +kernel
theorem at_525_105 : am_at (am_m 525) 105 = some (.lload_n 3, 0) := by decide +kernel
theorem at_525_106 : am_at (am_m 525) 106 = some (.lreturn, 0) := by decide +kernel
theorem at_526_0 : am_at (am_m 526) 0 = some (.aload_n 0, 0) := by decide +kernel
theorem at_526_1 : am_at (am_m 526) 1 = some (.aload_n 0, 0) := by decide +kernel
theorem at_526_2 : am_at (am_m 526) 2 = some (.iload_n 1, 0) := by decide +kernel
theorem at_526_3 : am_at (am_m 526) 3 = some (.iload_n 2, 0) := by decide +kernel
theorem at_526_4 : am_at (am_m 526) 4 = some (.invokevirtual 901, 501) := by decide +kernel
theorem at_526_7 : am_at (am_m 526) 7 = some (.ifCond .eq 7, 14) := by decide +kernel
theorem at_526_10 : am_at (am_m 526) 10 = some (.iconst 0, 0) := by decide +kernel
theorem at_526_11 : am_at (am_m 526) 11 = some (.goto 4, 15) := by decide +kernel
theorem at_526_14 : am_at (am_m 526) 14 = some (.iconst 1, 0) := by decide +kernel
theorem at_526_15 : am_at (am_m 526) 15 = some (.putfield 292, 3072) := by decide +kernel
theorem at_526_18 : am_at (am_m 526) 18 = some (.aload_n 0, 0) := by decide +kernel
theorem at_526_19 : am_at (am_m 526) 19 = some (.getfield 292, 3072) := by decide +kernel
theorem at_526_22 : am_at (am_m 526) 22 = some (.ifCond .le 5, 27) := by decide +kernel
theorem at_526_25 : am_at (am_m 526) 25 = some (.lconst 0, 0) := by decide +kernel
theorem at_526_26 : am_at (am_m 526) 26 = some (.lreturn, 0) := by decide +kernel
theorem at_526_27 : am_at (am_m 526) 27 = some (.iconst 0, 0) := by decide +kernel
theorem at_526_28 : am_at (am_m 526) 28 = some (.istore_n 3, 0) := by decide +kernel
theorem at_526_29 : am_at (am_m 526) 29 = some (.iload_n 3, 0) := by decide +kernel
theorem at_526_30 : am_at (am_m 526) 30 = some (.iconst 3, 0) := by decide +kernel
theorem at_526_31 : am_at (am_m 526) 31 = some (.if_icmp .ge 18, 49) := by decide +kernel
theorem at_526_34 : am_at (am_m 526) 34 = some (.aload_n 0, 0) := by decide +kernel
theorem at_526_35 : am_at (am_m 526) 35 = some (.getfield 223, 3184) := by decide +kernel
theorem at_526_38 : am_at (am_m 526) 38 = some (.iload_n 3, 0) := by decide +kernel
theorem at_526_39 : am_at (am_m 526) 39 = some (.ldc2_w 640, 14) := by decide +kernel
theorem at_526_42 : am_at (am_m 526) 42 = some (.lastore, 0) := by decide +kernel
theorem at_526_43 : am_at (am_m 526) 43 = some (.iinc 3 1, 0) := by decide +kernel
theorem at_526_46 : am_at (am_m 526) 46 = some (.goto (-17), 29) := by decide +kernel
theorem at_526_49 : am_at (am_m 526) 49 = some (.iconst 0, 0) := by decide +kernel
theorem at_526_50 : am_at (am_m 526) 50 = some (.istore_n 3, 0) := by decide +kernel
theorem at_526_51 : am_at (am_m 526) 51 = some (.iload_n 3, 0) := by decide +kernel
theorem at_526_52 : am_at (am_m 526) 52 = some (.aload_n 0, 0) := by decide +kernel
theorem at_526_53 : am_at (am_m 526) 53 = some (.getfield 187, 3170) := by decide +kernel
theorem at_526_56 : am_at (am_m 526) 56 = some (.iload_n 1, 0) := by decide +kernel
theorem at_526_57 : am_at (am_m 526) 57 = some (.iaload, 0) := by decide +kernel
theorem at_526_58 : am_at (am_m 526) 58 = some (.if_icmp .ge 144, 202) := by decide +kernel
theorem at_526_61 : am_at (am_m 526) 61 = some (.iload_n 3, 0) := by decide +kernel
theorem at_526_62 : am_at (am_m 526) 62 = some (.iload_n 2, 0) := by decide +kernel
theorem at_526_63 : am_at (am_m 526) 63 = some (.if_icmp .ne 6, 69) := by decide +kernel
theorem at_526_66 : am_at (am_m 526) 66 = some (.goto 130, 196) := by decide +kernel
theorem at_526_69 : am_at (am_m 526) 69 = some (.aload_n 0, 0) := by decide +kernel
theorem at_526_70 : am_at (am_m 526) 70 = some (.aload_n 0, 0) := by decide +kernel
theorem at_526_71 : am_at (am_m 526) 71 = some (.getfield 190, 3171) := by decide +kernel
theorem at_526_74 : am_at (am_m 526) 74 = some (.bipush 16, 0) := by decide +kernel
theorem at_526_76 : am_at (am_m 526) 76 = some (.iload_n 1, 0) := by decide +kernel
theorem at_526_77 : am_at (am_m 526) 77 = some (.imul, 0) := by decide +kernel
theorem at_526_78 : am_at (am_m 526) 78 = some (.iload_n 2, 0) := by decide +kernel
theorem at_526_79 : am_at (am_m 526) 79 = some (.iadd, 0) := by decide +kernel
theorem at_526_80 : am_at (am_m 526) 80 = some (.iaload, 0) := by decide +kernel
theorem at_526_81 : am_at (am_m 526) 81 = some (.aload_n 0, 0) := by decide +kernel
theorem at_526_82 : am_at (am_m 526) 82 = some (.getfield 190, 3171) := by decide +kernel
theorem at_526_85 : am_at (am_m 526) 85 = some (.bipush 16, 0) := by decide +kernel
theorem at_526_87 : am_at (am_m 526) 87 = some (.iload_n 1, 0) := by decide +kernel
theorem at_526_88 : am_at (am_m 526) 88 = some (.imul, 0) := by decide +kernel
theorem at_526_89 : am_at (am_m 526) 89 = some (.iload_n 3, 0) := by decide +kernel
theorem at_526_90 : am_at (am_m 526) 90 = some (.iadd, 0) := by decide +kernel
theorem at_526_91 : am_at (am_m 526) 91 = some (.iaload, 0) := by decide +kernel
theorem at_526_92 : am_at (am_m 526) 92 = some (.invokevirtual 967, 525) := by decide +kernel
theorem at_526_95 : am_at (am_m 526) 95 = some (.lstore 4, 0) := by decide +kernel
theorem at_526_97 : am_at (am_m 526) 97 = some (.iconst 0, 0) := by decide +kernel
theorem at_526_98 : am_at (am_m 526) 98 = some (.istore 6, 0) := by decide +kernel
theorem at_526_100 : am_at (am_m 526) 100 = some (.iload 6, 0) := by decide +kernel
theorem at_526_102 : am_at (am_m 526) 102 = some (.iconst 3, 0) := by decide +kernel
theorem at_526_103 : am_at (am_m 526) 103 = some (.if_icmp .ge 93, 196) := by decide +kernel
theorem at_526_106 : am_at (am_m 526) 106 = some (.aload_n 0, 0) := by decide +kernel
theorem at_526_107 : am_at (am_m 526) 107 = some (.getfield 223, 3184) := by decide +kernel
theorem at_526_110 : am_at (am_m 526) 110 = some (.iload 6, 0) := by decide +kernel
theorem at_526_112 : am_at (am_m 526) 112 = some (.laload, 0) := by decide +kernel
theorem at_526_113 : am_at (am_m 526) 113 = some (.lconst 0, 0) := by decide +kernel
theorem at_526_114 : am_at (am_m 526) 114 = some (.lcmp, 0) := by decide +kernel
theorem at_526_115 : am_at (am_m 526) 115 = some (.ifCond .lt 16, 131) := by decide +kernel
theorem at_526_118 : am_at (am_m 526) 118 = some (.lload 4, 0) := by decide +kernel
theorem at_526_120 : am_at (am_m 526) 120 = some (.aload_n 0, 0) := by decide +kernel
theorem at_526_121 : am_at (am_m 526) 121 = some (.getfield 223, 3184) := by decide +kernel
theorem at_526_124 : am_at (am_m 526) 124 = some (.iload 6, 0) := by decide +kernel
theorem at_526_126 : am_at (am_m 526) 126 = some (.laload, 0) := by decide +kernel
theorem at_526_127 : am_at (am_m 526) 127 = some (.lcmp, 0) := by decide +kernel
theorem at_526_128 : am_at (am_m 526) 128 = some (.ifCond .ge 7, 135) := by decide +kernel
theorem at_526_131 : am_at (am_m 526) 131 = some (.iconst 1, 0) := by decide +kernel
theorem at_526_132 : am_at (am_m 526) 132 = some (.goto 4, 136) := by decide +kernel
theorem at_526_135 : am_at (am_m 526) 135 = some (.iconst 0, 0) := by decide +kernel
theorem at_526_136 : am_at (am_m 526) 136 = some (.istore 7, 0) := by decide +kernel
theorem at_526_138 : am_at (am_m 526) 138 = some (.aload_n 0, 0) := by decide +kernel
theorem at_526_139 : am_at (am_m 526) 139 = some (.getfield 223, 3184) := by decide +kernel
theorem at_526_142 : am_at (am_m 526) 142 = some (.iload 6, 0) := by decide +kernel
theorem at_526_144 : am_at (am_m 526) 144 = some (.laload, 0) := by decide +kernel
theorem at_526_145 : am_at (am_m 526) 145 = some (.lstore 8, 0) := by decide +kernel
theorem at_526_147 : am_at (am_m 526) 147 = some (.aload_n 0, 0) := by decide +kernel
theorem at_526_148 : am_at (am_m 526) 148 = some (.getfield 223, 3184) := by decide +kernel
theorem at_526_151 : am_at (am_m 526) 151 = some (.iload 6, 0) := by decide +kernel
theorem at_526_153 : am_at (am_m 526) 153 = some (.iload 7, 0) := by decide +kernel
theorem at_526_155 : am_at (am_m 526) 155 = some (.ifCond .eq 8, 163) := by decide +kernel
theorem at_526_158 : am_at (am_m 526) 158 = some (.lload 4, 0) := by decide +kernel
theorem at_526_160 : am_at (am_m 526) 160 = some (.goto 5, 165) := by decide +kernel
theorem at_526_163 : am_at (am_m 526) 163 = some (.lload 8, 0) := by decide +kernel
theorem at_526_165 : am_at (am_m 526) 165 = some (.lastore, 0) := by decide +kernel
theorem at_526_166 : am_at (am_m 526) 166 = some (.iload 7, 0) := by decide +kernel
theorem at_526_168 : am_at (am_m 526) 168 = some (.ifCond .eq 8, 176) := by decide +kernel
theorem at_526_171 : am_at (am_m 526) 171 = some (.lload 8, 0) := by decide +kernel
theorem at_526_173 : am_at (am_m 526) 173 = some (.goto 5, 178) := by decide +kernel
theorem at_526_176 : am_at (am_m 526) 176 = some (.lload 4, 0) := by decide +kernel
theorem at_526_178 : am_at (am_m 526) 178 = some (.lstore 4, 0) := by decide +kernel
theorem at_526_180 : am_at (am_m 526) 180 = some (.lload 4, 0) := by decide +kernel
theorem at_526_182 : am_at (am_m 526) 182 = some (.lconst 0, 0) := by decide +kernel
theorem at_526_183 : am_at (am_m 526) 183 = some (.lcmp, 0) := by decide +kernel
theorem at_526_184 : am_at (am_m 526) 184 = some (.ifCond .ge 6, 190) := by decide +kernel
theorem at_526_187 : am_at (am_m 526) 187 = some (.goto 9, 196) := by decide +kernel
theorem at_526_190 : am_at (am_m 526) 190 = some (.iinc 6 1, 0) := by decide +kernel
theorem at_526_193 : am_at (am_m 526) 193 = some (.goto (-93), 100) := by decide +kernel
theorem at_526_196 : am_at (am_m 526) 196 = some (.iinc 3 1, 0) := by decide +kernel
theorem at_526_199 : am_at (am_m 526) 199 = some (.goto (-148), 51) := by decide +kernel
theorem at_526_202 : am_at (am_m 526) 202 = some (.lconst 0, 0) := by decide +kernel
theorem at_526_203 : am_at (am_m 526) 203 = some (.lstore_n 3, 0) := by decide +kernel
theorem at_526_204 : am_at (am_m 526) 204 = some (.iconst 0, 0) := by decide +kernel
theorem at_526_205 : am_at (am_m 526) 205 = some (.istore 5, 0) := by decide +kernel
theorem at_526_207 : am_at (am_m 526) 207 = some (.iload 5, 0) := by decide +kernel
theorem at_526_209 : am_at (am_m 526) 209 = some (.iconst 3, 0) := by decide +kernel
theorem at_526_210 : am_at (am_m 526) 210 = some (.if_icmp .ge 35, 245) := by decide +kernel
theorem at_526_213 : am_at (am_m 526) 213 = some (.lload_n 3, 0) := by decide +kernel
theorem at_526_214 : am_at (am_m 526) 214 = some (.aload_n 0, 0) := by decide +kernel
theorem at_526_215 : am_at (am_m 526) 215 = some (.getfield 223, 3184) := by decide +kernel
theorem at_526_218 : am_at (am_m 526) 218 = some (.iload 5, 0) := by decide +kernel
theorem at_526_220 : am_at (am_m 526) 220 = some (.laload, 0) := by decide +kernel
theorem at_526_221 : am_at (am_m 526) 221 = some (.lconst 0, 0) := by decide +kernel
theorem at_526_222 : am_at (am_m 526) 222 = some (.lcmp, 0) := by decide +kernel
theorem at_526_223 : am_at (am_m 526) 223 = some (.ifCond .ge 7, 230) := by decide +kernel
theorem at_526_226 : am_at (am_m 526) 226 = some (.lconst 0, 0) := by decide +kernel
theorem at_526_227 : am_at (am_m 526) 227 = some (.goto 10, 237) := by decide +kernel
theorem at_526_230 : am_at (am_m 526) 230 = some (.aload_n 0, 0) := by decide +kernel
theorem at_526_231 : am_at (am_m 526) 231 = some (.getfield 223, 3184) := by decide +kernel
theorem at_526_234 : am_at (am_m 526) 234 = some (.iload 5, 0) := by decide +kernel
theorem at_526_236 : am_at (am_m 526) 236 = some (.laload, 0) := by decide +kernel
theorem at_526_237 : am_at (am_m 526) 237 = some (.ladd, 0) := by decide +kernel
theorem at_526_238 : am_at (am_m 526) 238 = some (.lstore_n 3, 0) := by decide +kernel
theorem at_526_239 : am_at (am_m 526) 239 = some (.iinc 5 1, 0) := by decide +kernel
theorem at_526_242 : am_at (am_m 526) 242 = some (.goto (-35), 207) := by decide +kernel
theorem at_526_245 : am_at (am_m 526) 245 = some (.lload_n 3, 0) := by decide +kernel
theorem at_526_246 : am_at (am_m 526) 246 = some (.lreturn, 0) := by decide +kernel
theorem at_527_0 : am_at (am_m 527) 0 = some (.aload_n 0, 0) := by decide +kernel
theorem at_527_1 : am_at (am_m 527) 1 = some (.aload_n 0, 0) := by decide +kernel
theorem at_527_2 : am_at (am_m 527) 2 = some (.iload_n 1, 0) := by decide +kernel
theorem at_527_3 : am_at (am_m 527) 3 = some (.invokevirtual 568, 358) := by decide +kernel
theorem at_527_6 : am_at (am_m 527) 6 = some (.ifCond .eq 7, 13) := by decide +kernel
theorem at_527_9 : am_at (am_m 527) 9 = some (.iconst 0, 0) := by decide +kernel
theorem at_527_10 : am_at (am_m 527) 10 = some (.goto 4, 14) := by decide +kernel
theorem at_527_13 : am_at (am_m 527) 13 = some (.iconst 1, 0) := by decide +kernel
theorem at_527_14 : am_at (am_m 527) 14 = some (.putfield 292, 3072) := by decide +kernel
theorem at_527_17 : am_at (am_m 527) 17 = some (.aload_n 0, 0) := by decide +kernel
theorem at_527_18 : am_at (am_m 527) 18 = some (.getfield 292, 3072) := by decide +kernel
theorem at_527_21 : am_at (am_m 527) 21 = some (.ifCond .le 5, 26) := by decide +kernel
theorem at_527_24 : am_at (am_m 527) 24 = some (.iconst 0, 0) := by decide +kernel
theorem at_527_25 : am_at (am_m 527) 25 = some (.ireturn, 0) := by decide +kernel
theorem at_527_26 : am_at (am_m 527) 26 = some (.aload_n 0, 0) := by decide +kernel
theorem at_527_27 : am_at (am_m 527) 27 = some (.iload_n 1, 0) := by decide +kernel
theorem at_527_28 : am_at (am_m 527) 28 = some (.iconst 0, 0) := by decide +kernel
theorem at_527_29 : am_at (am_m 527) 29 = some (.invokevirtual 974, 528) := by decide +kernel
theorem at_527_32 : am_at (am_m 527) 32 = some (.iconst (-1), 0) := by decide +kernel
theorem at_527_33 : am_at (am_m 527) 33 = some (.istore_n 2, 0) := by decide +kernel
theorem at_527_34 : am_at (am_m 527) 34 = some (.iconst 0, 0) := by decide +kernel
theorem at_527_35 : am_at (am_m 527) 35 = some (.istore_n 3, 0) := by decide +kernel
theorem at_527_36 : am_at (am_m 527) 36 = some (.iload_n 3, 0) := by decide +kernel
theorem at_527_37 : am_at (am_m 527) 37 = some (.aload_n 0, 0) := by decide +kernel
theorem at_527_38 : am_at (am_m 527) 38 = some (.getfield 296, 3073) := by decide +kernel
theorem at_527_41 : am_at (am_m 527) 41 = some (.if_icmp .ge 26, 67) := by decide +kernel
theorem at_527_44 : am_at (am_m 527) 44 = some (.iload_n 2, 0) := by decide +kernel
theorem at_527_45 : am_at (am_m 527) 45 = some (.aload_n 0, 0) := by decide +kernel
theorem at_527_46 : am_at (am_m 527) 46 = some (.getfield 226, 3185) := by decide +kernel
theorem at_527_49 : am_at (am_m 527) 49 = some (.iload_n 3, 0) := by decide +kernel
theorem at_527_50 : am_at (am_m 527) 50 = some (.baload, 0) := by decide +kernel
theorem at_527_51 : am_at (am_m 527) 51 = some (.ifCond .eq 7, 58) := by decide +kernel
theorem at_527_54 : am_at (am_m 527) 54 = some (.iconst 1, 0) := by decide +kernel
theorem at_527_55 : am_at (am_m 527) 55 = some (.goto 4, 59) := by decide +kernel
theorem at_527_58 : am_at (am_m 527) 58 = some (.iconst 0, 0) := by decide +kernel
theorem at_527_59 : am_at (am_m 527) 59 = some (.iadd, 0) := by decide +kernel
theorem at_527_60 : am_at (am_m 527) 60 = some (.istore_n 2, 0) := by decide +kernel
theorem at_527_61 : am_at (am_m 527) 61 = some (.iinc 3 1, 0) := by decide +kernel
theorem at_527_64 : am_at (am_m 527) 64 = some (.goto (-28), 36) := by decide +kernel
theorem at_527_67 : am_at (am_m 527) 67 = some (.iload_n 2, 0) := by decide +kernel
theorem at_527_68 : am_at (am_m 527) 68 = some (.ireturn, 0) := by decide +kernel
theorem at_528_0 : am_at (am_m 528) 0 = some (.iconst 0, 0) := by decide +kernel
theorem at_528_1 : am_at (am_m 528) 1 = some (.istore_n 3, 0) := by decide +kernel
theorem at_528_2 : am_at (am_m 528) 2 = some (.iload_n 3, 0) := by decide +kernel
theorem at_528_3 : am_at (am_m 528) 3 = some (.aload_n 0, 0) := by decide +kernel
theorem at_528_4 : am_at (am_m 528) 4 = some (.getfield 296, 3073) := by decide +kernel
theorem at_528_7 : am_at (am_m 528) 7 = some (.if_icmp .ge 48, 55) := by decide +kernel
theorem at_528_10 : am_at (am_m 528) 10 = some (.iload_n 2, 0) := by decide +kernel
theorem at_528_11 : am_at (am_m 528) 11 = some (.ifCond .eq 22, 33) := by decide +kernel
theorem at_528_14 : am_at (am_m 528) 14 = some (.aload_n 0, 0) := by decide +kernel
theorem at_528_15 : am_at (am_m 528) 15 = some (.getfield 229, 3186) := by decide +kernel
theorem at_528_18 : am_at (am_m 528) 18 = some (.iload_n 3, 0) := by decide +kernel
theorem at_528_19 : am_at (am_m 528) 19 = some (.iload_n 3, 0) := by decide +kernel
theorem at_528_20 : am_at (am_m 528) 20 = some (.iload_n 1, 0) := by decide +kernel
theorem at_528_21 : am_at (am_m 528) 21 = some (.if_icmp .ne 7, 28) := by decide +kernel
theorem at_528_24 : am_at (am_m 528) 24 = some (.iconst 1, 0) := by decide +kernel
theorem at_528_25 : am_at (am_m 528) 25 = some (.goto 4, 29) := by decide +kernel
theorem at_528_28 : am_at (am_m 528) 28 = some (.iconst 0, 0) := by decide +kernel
theorem at_528_29 : am_at (am_m 528) 29 = some (.bastore, 0) := by decide +kernel
theorem at_528_30 : am_at (am_m 528) 30 = some (.goto 19, 49) := by decide +kernel
theorem at_528_33 : am_at (am_m 528) 33 = some (.aload_n 0, 0) := by decide +kernel
theorem at_528_34 : am_at (am_m 528) 34 = some (.getfield 226, 3185) := by decide +kernel
theorem at_528_37 : am_at (am_m 528) 37 = some (.iload_n 3, 0) := by decide +kernel
theorem at_528_38 : am_at (am_m 528) 38 = some (.iload_n 3, 0) := by decide +kernel
theorem at_528_39 : am_at (am_m 528) 39 = some (.iload_n 1, 0) := by decide +kernel
theorem at_528_40 : am_at (am_m 528) 40 = some (.if_icmp .ne 7, 47) := by decide +kernel
theorem at_528_43 : am_at (am_m 528) 43 = some (.iconst 1, 0) := by decide +kernel
theorem at_528_44 : am_at (am_m 528) 44 = some (.goto 4, 48) := by decide +kernel
theorem at_528_47 : am_at (am_m 528) 47 = some (.iconst 0, 0) := by decide +kernel
theorem at_528_48 : am_at (am_m 528) 48 = some (.bastore, 0) := by decide +kernel
theorem at_528_49 : am_at (am_m 528) 49 = some (.iinc 3 1, 0) := by decide +kernel
theorem at_528_52 : am_at (am_m 528) 52 = some (.goto (-50), 2) := by decide +kernel
theorem at_528_55 : am_at (am_m 528) 55 = some (.iload_n 1, 0) := by decide +kernel
theorem at_528_56 : am_at (am_m 528) 56 = some (.istore_n 3, 0) := by decide +kernel
theorem at_528_57 : am_at (am_m 528) 57 = some (.iload_n 3, 0) := by decide +kernel
theorem at_528_58 : am_at (am_m 528) 58 = some (.ifCond .lt 59, 117) := by decide +kernel
theorem at_528_61 : am_at (am_m 528) 61 = some (.iload_n 2, 0) := by decide +kernel
theorem at_528_62 : am_at (am_m 528) 62 = some (.ifCond .eq 15, 77) := by decide +kernel
theorem at_528_65 : am_at (am_m 528) 65 = some (.aload_n 0, 0) := by decide +kernel
theorem at_528_66 : am_at (am_m 528) 66 = some (.getfield 229, 3186) := by decide +kernel
theorem at_528_69 : am_at (am_m 528) 69 = some (.iload_n 3, 0) := by decide +kernel
theorem at_528_70 : am_at (am_m 528) 70 = some (.baload, 0) := by decide +kernel
theorem at_528_71 : am_at (am_m 528) 71 = some (.ifCond .eq 40, 111) := by decide +kernel
theorem at_528_74 : am_at (am_m 528) 74 = some (.goto 15, 89) := by decide +kernel
theorem at_528_77 : am_at (am_m 528) 77 = some (.aload_n 0, 0) := by decide +kernel
theorem at_528_78 : am_at (am_m 528) 78 = some (.getfield 226, 3185) := by decide +kernel
theorem at_528_81 : am_at (am_m 528) 81 = some (.iload_n 3, 0) := by decide +kernel
theorem at_528_82 : am_at (am_m 528) 82 = some (.baload, 0) := by decide +kernel
theorem at_528_83 : am_at (am_m 528) 83 = some (.ifCond .ne 6, 89) := by decide +kernel
theorem at_528_86 : am_at (am_m 528) 86 = some (.goto 25, 111) := by decide +kernel
theorem at_528_89 : am_at (am_m 528) 89 = some (.aload_n 0, 0) := by decide +kernel
theorem at_528_90 : am_at (am_m 528) 90 = some (.aload_n 0, 0) := by decide +kernel
theorem at_528_91 : am_at (am_m 528) 91 = some (.getfield 22, 3078) := by decide +kernel
theorem at_528_94 : am_at (am_m 528) 94 = some (.iload_n 3, 0) := by decide +kernel
theorem at_528_95 : am_at (am_m 528) 95 = some (.iaload, 0) := by decide +kernel
theorem at_528_96 : am_at (am_m 528) 96 = some (.iload_n 2, 0) := by decide +kernel
theorem at_528_97 : am_at (am_m 528) 97 = some (.invokevirtual 970, 529) := by decide +kernel
theorem at_528_100 : am_at (am_m 528) 100 = some (.aload_n 0, 0) := by decide +kernel
theorem at_528_101 : am_at (am_m 528) 101 = some (.aload_n 0, 0) := by decide +kernel
theorem at_528_102 : am_at (am_m 528) 102 = some (.getfield 25, 3079) := by decide +kernel
theorem at_528_105 : am_at (am_m 528) 105 = some (.iload_n 3, 0) := by decide +kernel
theorem at_528_106 : am_at (am_m 528) 106 = some (.iaload, 0) := by decide +kernel
theorem at_528_107 : am_at (am_m 528) 107 = some (.iload_n 2, 0) := by decide +kernel
theorem at_528_108 : am_at (am_m 528) 108 = some (.invokevirtual 970, 529) := by decide +kernel
theorem at_528_111 : am_at (am_m 528) 111 = some (.iinc 3 (-1), 0) := by decide +kernel
theorem at_528_114 : am_at (am_m 528) 114 = some (.goto (-57), 57) := by decide +kernel
theorem at_528_117 : am_at (am_m 528) 117 = some (.return_, 0) := by decide +kernel
theorem at_529_0 : am_at (am_m 529) 0 = some (.iload_n 1, 0) := by decide +kernel
theorem at_529_1 : am_at (am_m 529) 1 = some (.ifCond .ge 4, 5) := by decide +kernel
theorem at_529_4 : am_at (am_m 529) 4 = some (.return_, 0) := by decide +kernel
theorem at_529_5 : am_at (am_m 529) 5 = some (.iload_n 2, 0) := by decide +kernel
theorem at_529_6 : am_at (am_m 529) 6 = some (.ifCond .eq 13, 19) := by decide +kernel
theorem at_529_9 : am_at (am_m 529) 9 = some (.aload_n 0, 0) := by decide +kernel
theorem at_529_10 : am_at (am_m 529) 10 = some (.getfield 229, 3186) := by decide +kernel
theorem at_529_13 : am_at (am_m 529) 13 = some (.iload_n 1, 0) := by decide +kernel
theorem at_529_14 : am_at (am_m 529) 14 = some (.iconst 1, 0) := by decide +kernel
theorem at_529_15 : am_at (am_m 529) 15 = some (.bastore, 0) := by decide +kernel
theorem at_529_16 : am_at (am_m 529) 16 = some (.goto 10, 26) := by decide +kernel
theorem at_529_19 : am_at (am_m 529) 19 = some (.aload_n 0, 0) := by decide +kernel
theorem at_529_20 : am_at (am_m 529) 20 = some (.getfield 226, 3185) := by decide +kernel
theorem at_529_23 : am_at (am_m 529) 23 = some (.iload_n 1, 0) := by decide +kernel
theorem at_529_24 : am_at (am_m 529) 24 = some (.iconst 1, 0) := by decide +kernel
theorem at_529_25 : am_at (am_m 529) 25 = some (.bastore, 0) := by decide +kernel
theorem at_529_26 : am_at (am_m 529) 26 = some (.return_, 0) := by decide +kernel
theorem at_530_0 : am_at (am_m 530) 0 = some (.aload_n 0, 0) := by decide +kernel
theorem at_530_1 : am_at (am_m 530) 1 = some (.aload_n 0, 0) := by decide +kernel
theorem at_530_2 : am_at (am_m 530) 2 = some (.iload_n 1, 0) := by decide +kernel
theorem at_530_3 : am_at (am_m 530) 3 = some (.invokevirtual 568, 358) := by decide +kernel
theorem at_530_6 : am_at (am_m 530) 6 = some (.ifCond .eq 15, 21) := by decide +kernel
theorem at_530_9 : am_at (am_m 530) 9 = some (.aload_n 0, 0) := by decide +kernel
theorem at_530_10 : am_at (am_m 530) 10 = some (.iload_n 2, 0) := by decide +kernel
theorem at_530_11 : am_at (am_m 530) 11 = some (.invokevirtual 568, 358) := by decide +kernel
theorem at_530_14 : am_at (am_m 530) 14 = some (.ifCond .eq 7, 21) := by decide +kernel
theorem at_530_17 : am_at (am_m 530) 17 = some (.iconst 0, 0) := by decide +kernel
theorem at_530_18 : am_at (am_m 530) 18 = some (.goto 4, 22) := by decide +kernel
theorem at_530_21 : am_at (am_m 530) 21 = some (.iconst 1, 0) := by decide +kernel
theorem at_530_22 : am_at (am_m 530) 22 = some (.putfield 292, 3072) := by decide +kernel
theorem at_530_25 : am_at (am_m 530) 25 = some (.aload_n 0, 0) := by decide +kernel
theorem at_530_26 : am_at (am_m 530) 26 = some (.getfield 292, 3072) := by decide +kernel
theorem at_530_29 : am_at (am_m 530) 29 = some (.ifCond .le 5, 34) := by decide +kernel
theorem at_530_32 : am_at (am_m 530) 32 = some (.iconst 0, 0) := by decide +kernel
theorem at_530_33 : am_at (am_m 530) 33 = some (.ireturn, 0) := by decide +kernel
theorem at_530_34 : am_at (am_m 530) 34 = some (.aload_n 0, 0) := by decide +kernel
theorem at_530_35 : am_at (am_m 530) 35 = some (.iload_n 1, 0) := by decide +kernel
theorem at_530_36 : am_at (am_m 530) 36 = some (.iconst 0, 0) := by decide +kernel
theorem at_530_37 : am_at (am_m 530) 37 = some (.invokevirtual 974, 528) := by decide +kernel
theorem at_530_40 : am_at (am_m 530) 40 = some (.aload_n 0, 0) := by decide +kernel
theorem at_530_41 : am_at (am_m 530) 41 = some (.iload_n 2, 0) := by decide +kernel
theorem at_530_42 : am_at (am_m 530) 42 = some (.iconst 1, 0) := by decide +kernel
theorem at_530_43 : am_at (am_m 530) 43 = some (.invokevirtual 974, 528) := by decide +kernel
theorem at_530_46 : am_at (am_m 530) 46 = some (.iconst (-1), 0) := by decide +kernel
theorem at_530_47 : am_at (am_m 530) 47 = some (.istore_n 3, 0) := by decide +kernel
theorem at_530_48 : am_at (am_m 530) 48 = some (.iconst 0, 0) := by decide +kernel
theorem at_530_49 : am_at (am_m 530) 49 = some (.istore 4, 0) := by decide +kernel
theorem at_530_51 : am_at (am_m 530) 51 = some (.iload 4, 0) := by decide +kernel
theorem at_530_53 : am_at (am_m 530) 53 = some (.aload_n 0, 0) := by decide +kernel
theorem at_530_54 : am_at (am_m 530) 54 = some (.getfield 296, 3073) := by decide +kernel
theorem at_530_57 : am_at (am_m 530) 57 = some (.if_icmp .ge 36, 93) := by decide +kernel
theorem at_530_60 : am_at (am_m 530) 60 = some (.aload_n 0, 0) := by decide +kernel
theorem at_530_61 : am_at (am_m 530) 61 = some (.getfield 226, 3185) := by decide +kernel
theorem at_530_64 : am_at (am_m 530) 64 = some (.iload 4, 0) := by decide +kernel
theorem at_530_66 : am_at (am_m 530) 66 = some (.baload, 0) := by decide +kernel
theorem at_530_67 : am_at (am_m 530) 67 = some (.ifCond .eq 18, 85) := by decide +kernel
theorem at_530_70 : am_at (am_m 530) 70 = some (.aload_n 0, 0) := by decide +kernel
theorem at_530_71 : am_at (am_m 530) 71 = some (.getfield 229, 3186) := by decide +kernel
theorem at_530_74 : am_at (am_m 530) 74 = some (.iload 4, 0) := by decide +kernel
theorem at_530_76 : am_at (am_m 530) 76 = some (.baload, 0) := by decide +kernel
theorem at_530_77 : am_at (am_m 530) 77 = some (.ifCond .eq 8, 85) := by decide +kernel
theorem at_530_80 : am_at (am_m 530) 80 = some (.iload 4, 0) := by decide +kernel
theorem at_530_82 : am_at (am_m 530) 82 = some (.goto 4, 86) := by decide +kernel
theorem at_530_85 : am_at (am_m 530) 85 = some (.iload_n 3, 0) := by decide +kernel
theorem at_530_86 : am_at (am_m 530) 86 = some (.istore_n 3, 0) := by decide +kernel
theorem at_530_87 : am_at (am_m 530) 87 = some (.iinc 4 1, 0) := by decide +kernel
theorem at_530_90 : am_at (am_m 530) 90 = some (.goto (-39), 51) := by decide +kernel
theorem at_530_93 : am_at (am_m 530) 93 = some (.iload_n 3, 0) := by decide +kernel
theorem at_530_94 : am_at (am_m 530) 94 = some (.ireturn, 0) := by decide +kernel
theorem at_531_0 : am_at (am_m 531) 0 = some (.aload_n 0, 0) := by decide +kernel
theorem at_531_1 : am_at (am_m 531) 1 = some (.aload_n 0, 0) := by decide +kernel
theorem at_531_2 : am_at (am_m 531) 2 = some (.iload_n 1, 0) := by decide +kernel
theorem at_531_3 : am_at (am_m 531) 3 = some (.invokevirtual 568, 358) := by decide +kernel
theorem at_531_6 : am_at (am_m 531) 6 = some (.ifCond .ne 7, 13) := by decide +kernel
theorem at_531_9 : am_at (am_m 531) 9 = some (.iconst 1, 0) := by decide +kernel
theorem at_531_10 : am_at (am_m 531) 10 = some (.goto 39, 49) := by decide +kernel
theorem at_531_13 : am_at (am_m 531) 13 = some (.iload_n 2, 0) := by decide +kernel
theorem at_531_14 : am_at (am_m 531) 14 = some (.i2l, 0) := by decide +kernel
theorem at_531_15 : am_at (am_m 531) 15 = some (.lconst 0, 0) := by decide +kernel
theorem at_531_16 : am_at (am_m 531) 16 = some (.lconst 1, 0) := by decide +kernel
theorem at_531_17 : am_at (am_m 531) 17 = some (.invokestatic 299, 327) := by decide +kernel
theorem at_531_20 : am_at (am_m 531) 20 = some (.ifCond .eq 24, 44) := by decide +kernel
theorem at_531_23 : am_at (am_m 531) 23 = some (.aload_n 0, 0) := by decide +kernel
theorem at_531_24 : am_at (am_m 531) 24 = some (.getfield 22, 3078) := by decide +kernel
theorem at_531_27 : am_at (am_m 531) 27 = some (.aload_n 0, 0) := by decide +kernel
theorem at_531_28 : am_at (am_m 531) 28 = some (.iload_n 1, 0) := by decide +kernel
theorem at_531_29 : am_at (am_m 531) 29 = some (.invokevirtual 568, 358) := by decide +kernel
theorem at_531_32 : am_at (am_m 531) 32 = some (.ifCond .eq 7, 39) := by decide +kernel
theorem at_531_35 : am_at (am_m 531) 35 = some (.iload_n 1, 0) := by decide +kernel
theorem at_531_36 : am_at (am_m 531) 36 = some (.goto 4, 40) := by decide +kernel
theorem at_531_39 : am_at (am_m 531) 39 = some (.iconst 0, 0) := by decide +kernel
theorem at_531_40 : am_at (am_m 531) 40 = some (.iaload, 0) := by decide +kernel
theorem at_531_41 : am_at (am_m 531) 41 = some (.ifCond .ge 7, 48) := by decide +kernel
theorem at_531_44 : am_at (am_m 531) 44 = some (.iconst 2, 0) := by decide +kernel
theorem at_531_45 : am_at (am_m 531) 45 = some (.goto 4, 49) := by decide +kernel
theorem at_531_48 : am_at (am_m 531) 48 = some (.iconst 0, 0) := by decide +kernel
theorem at_531_49 : am_at (am_m 531) 49 = some (.putfield 292, 3072) := by decide +kernel
theorem at_531_52 : am_at (am_m 531) 52 = some (.aload_n 0, 0) := by decide +kernel
theorem at_531_53 : am_at (am_m 531) 53 = some (.getfield 292, 3072) := by decide +kernel
theorem at_531_56 : am_at (am_m 531) 56 = some (.ifCond .le 5, 61) := by decide +kernel
theorem at_531_59 : am_at (am_m 531) 59 = some (.lconst 0, 0) := by decide +kernel
theorem at_531_60 : am_at (am_m 531) 60 = some (.lreturn, 0) := by decide +kernel
theorem at_531_61 : am_at (am_m 531) 61 = some (.aload_n 0, 0) := by decide +kernel
theorem at_531_62 : am_at (am_m 531) 62 = some (.aload_n 0, 0) := by decide +kernel
theorem at_531_63 : am_at (am_m 531) 63 = some (.getfield 22, 3078) := by decide +kernel
theorem at_531_66 : am_at (am_m 531) 66 = some (.iload_n 1, 0) := by decide +kernel
theorem at_531_67 : am_at (am_m 531) 67 = some (.iaload, 0) := by decide +kernel
theorem at_531_68 : am_at (am_m 531) 68 = some (.invokevirtual 571, 359) := by decide +kernel
theorem at_531_71 : am_at (am_m 531) 71 = some (.aload_n 0, 0) := by decide +kernel
theorem at_531_72 : am_at (am_m 531) 72 = some (.iconst 0, 0) := by decide +kernel
theorem at_531_73 : am_at (am_m 531) 73 = some (.invokevirtual 703, 428) := by decide +kernel
theorem at_531_76 : am_at (am_m 531) 76 = some (.aload_n 0, 0) := by decide +kernel
theorem at_531_77 : am_at (am_m 531) 77 = some (.getfield 689, 3163) := by decide +kernel
theorem at_531_80 : am_at (am_m 531) 80 = some (.lstore_n 3, 0) := by decide +kernel
theorem at_531_81 : am_at (am_m 531) 81 = some (.aload_n 0, 0) := by decide +kernel
theorem at_531_82 : am_at (am_m 531) 82 = some (.getfield 693, 3164) := by decide +kernel
theorem at_531_85 : am_at (am_m 531) 85 = some (.lstore 5, 0) := by decide +kernel
theorem at_531_87 : am_at (am_m 531) 87 = some (.aload_n 0, 0) := by decide +kernel
theorem at_531_88 : am_at (am_m 531) 88 = some (.iload_n 1, 0) := by decide +kernel
theorem at_531_89 : am_at (am_m 531) 89 = some (.invokevirtual 571, 359) := by decide +kernel
theorem at_531_92 : am_at (am_m 531) 92 = some (.aload_n 0, 0) := by decide +kernel
theorem at_531_93 : am_at (am_m 531) 93 = some (.iconst 0, 0) := by decide +kernel
theorem at_531_94 : am_at (am_m 531) 94 = some (.invokevirtual 703, 428) := by decide +kernel
theorem at_531_97 : am_at (am_m 531) 97 = some (.aload_n 0, 0) := by decide +kernel
theorem at_531_98 : am_at (am_m 531) 98 = some (.lload_n 3, 0) := by decide +kernel
theorem at_531_99 : am_at (am_m 531) 99 = some (.lload 5, 0) := by decide +kernel
theorem at_531_101 : am_at (am_m 531) 101 = some (.aload_n 0, 0) := by decide +kernel
theorem at_531_102 : am_at (am_m 531) 102 = some (.getfield 689, 3163) := by decide +kernel
theorem at_531_105 : am_at (am_m 531) 105 = some (.aload_n 0, 0) := by decide +kernel
theorem at_531_106 : am_at (am_m 531) 106 = some (.getfield 693, 3164) := by decide +kernel
theorem at_531_109 : am_at (am_m 531) 109 = some (.iload_n 2, 0) := by decide +kernel
theorem at_531_110 : am_at (am_m 531) 110 = some (.invokevirtual 707, 432) := by decide +kernel
theorem at_531_113 : am_at (am_m 531) 113 = some (.lreturn, 0) := by decide +kernel
theorem at_532_0 : am_at (am_m 532) 0 = some (.aload_n 0, 0) := by decide +kernel
theorem at_532_1 : am_at (am_m 532) 1 = some (.iload_n 1, 0) := by decide +kernel
theorem at_532_2 : am_at (am_m 532) 2 = some (.invokevirtual 568, 358) := by decide +kernel
theorem at_532_5 : am_at (am_m 532) 5 = some (.ifCond .eq 12, 17) := by decide +kernel
theorem at_532_8 : am_at (am_m 532) 8 = some (.aload_n 0, 0) := by decide +kernel
theorem at_532_9 : am_at (am_m 532) 9 = some (.getfield 19, 3077) := by decide +kernel
theorem at_532_12 : am_at (am_m 532) 12 = some (.iload_n 1, 0) := by decide +kernel
theorem at_532_13 : am_at (am_m 532) 13 = some (.iaload, 0) := by decide +kernel
theorem at_532_14 : am_at (am_m 532) 14 = some (.goto 4, 18) := by decide +kernel
theorem at_532_17 : am_at (am_m 532) 17 = some (.iconst 0, 0) := by decide +kernel
theorem at_532_18 : am_at (am_m 532) 18 = some (.istore_n 2, 0) := by decide +kernel
theorem at_532_19 : am_at (am_m 532) 19 = some (.aload_n 0, 0) := by decide +kernel
theorem at_532_20 : am_at (am_m 532) 20 = some (.aload_n 0, 0) := by decide +kernel
theorem at_532_21 : am_at (am_m 532) 21 = some (.iload_n 1, 0) := by decide +kernel
theorem at_532_22 : am_at (am_m 532) 22 = some (.invokevirtual 568, 358) := by decide +kernel
theorem at_532_25 : am_at (am_m 532) 25 = some (.ifCond .ne 7, 32) := by decide +kernel
theorem at_532_28 : am_at (am_m 532) 28 = some (.iconst 1, 0) := by decide +kernel
theorem at_532_29 : am_at (am_m 532) 29 = some (.goto 18, 47) := by decide +kernel
theorem at_532_32 : am_at (am_m 532) 32 = some (.iload_n 2, 0) := by decide +kernel
theorem at_532_33 : am_at (am_m 532) 33 = some (.iconst 3, 0) := by decide +kernel
theorem at_532_34 : am_at (am_m 532) 34 = some (.if_icmp .eq 12, 46) := by decide +kernel
theorem at_532_37 : am_at (am_m 532) 37 = some (.iload_n 2, 0) := by decide +kernel
theorem at_532_38 : am_at (am_m 532) 38 = some (.iconst 4, 0) := by decide +kernel
theorem at_532_39 : am_at (am_m 532) 39 = some (.if_icmp .eq 7, 46) := by decide +kernel
theorem at_532_42 : am_at (am_m 532) 42 = some (.iconst 2, 0) := by decide +kernel
theorem at_532_43 : am_at (am_m 532) 43 = some (.goto 4, 47) := by decide +kernel
theorem at_532_46 : am_at (am_m 532) 46 = some (.iconst 0, 0) := by decide +kernel
theorem at_532_47 : am_at (am_m 532) 47 = some (.putfield 292, 3072) := by decide +kernel
theorem at_532_50 : am_at (am_m 532) 50 = some (.aload_n 0, 0) := by decide +kernel
theorem at_532_51 : am_at (am_m 532) 51 = some (.getfield 292, 3072) := by decide +kernel
theorem at_532_54 : am_at (am_m 532) 54 = some (.ifCond .le 5, 59) := by decide +kernel
theorem at_532_57 : am_at (am_m 532) 57 = some (.iconst 0, 0) := by decide +kernel
theorem at_532_58 : am_at (am_m 532) 58 = some (.ireturn, 0) := by decide +kernel
theorem at_532_59 : am_at (am_m 532) 59 = some (.aload_n 0, 0) := by decide +kernel
theorem at_532_60 : am_at (am_m 532) 60 = some (.aload_n 0, 0) := by decide +kernel
theorem at_532_61 : am_at (am_m 532) 61 = some (.getfield 22, 3078) := by decide +kernel
theorem at_532_64 : am_at (am_m 532) 64 = some (.iload_n 1, 0) := by decide +kernel
theorem at_532_65 : am_at (am_m 532) 65 = some (.iaload, 0) := by decide +kernel
theorem at_532_66 : am_at (am_m 532) 66 = some (.invokevirtual 635, 391) := by decide +kernel
theorem at_532_69 : am_at (am_m 532) 69 = some (.iload_n 2, 0) := by decide +kernel
theorem at_532_70 : am_at (am_m 532) 70 = some (.iconst 3, 0) := by decide +kernel
theorem at_532_71 : am_at (am_m 532) 71 = some (.if_icmp .ne 27, 98) := by decide +kernel
theorem at_532_74 : am_at (am_m 532) 74 = some (.aload_n 0, 0) := by decide +kernel
theorem at_532_75 : am_at (am_m 532) 75 = some (.getfield 28, 3080) := by decide +kernel
theorem at_532_78 : am_at (am_m 532) 78 = some (.iload_n 1, 0) := by decide +kernel
theorem at_532_79 : am_at (am_m 532) 79 = some (.iaload, 0) := by decide +kernel
theorem at_532_80 : am_at (am_m 532) 80 = some (.iconst 4, 0) := by decide +kernel
theorem at_532_81 : am_at (am_m 532) 81 = some (.if_icmp .ne 17, 98) := by decide +kernel
theorem at_532_84 : am_at (am_m 532) 84 = some (.aload_n 0, 0) := by decide +kernel
theorem at_532_85 : am_at (am_m 532) 85 = some (.iconst 4, 0) := by decide +kernel
theorem at_532_86 : am_at (am_m 532) 86 = some (.aload_n 0, 0) := by decide +kernel
theorem at_532_87 : am_at (am_m 532) 87 = some (.getfield 34, 3082) := by decide +kernel
theorem at_532_90 : am_at (am_m 532) 90 = some (.iload_n 1, 0) := by decide +kernel
theorem at_532_91 : am_at (am_m 532) 91 = some (.laload, 0) := by decide +kernel
theorem at_532_92 : am_at (am_m 532) 92 = some (.invokevirtual 852, 472) := by decide +kernel
theorem at_532_95 : am_at (am_m 532) 95 = some (.goto 65, 160) := by decide +kernel
theorem at_532_98 : am_at (am_m 532) 98 = some (.aload_n 0, 0) := by decide +kernel
theorem at_532_99 : am_at (am_m 532) 99 = some (.getfield 31, 3081) := by decide +kernel
theorem at_532_102 : am_at (am_m 532) 102 = some (.iload_n 1, 0) := by decide +kernel
theorem at_532_103 : am_at (am_m 532) 103 = some (.iaload, 0) := by decide +kernel
theorem at_532_104 : am_at (am_m 532) 104 = some (.ifCond .ge 10, 114) := by decide +kernel
theorem at_532_107 : am_at (am_m 532) 107 = some (.aload_n 0, 0) := by decide +kernel
theorem at_532_108 : am_at (am_m 532) 108 = some (.invokevirtual 739, 442) := by decide +kernel
theorem at_532_111 : am_at (am_m 532) 111 = some (.goto 49, 160) := by decide +kernel
theorem at_532_114 : am_at (am_m 532) 114 = some (.iload_n 2, 0) := by decide +kernel
theorem at_532_115 : am_at (am_m 532) 115 = some (.iconst 3, 0) := by decide +kernel
theorem at_532_116 : am_at (am_m 532) 116 = some (.if_icmp .ne 23, 139) := by decide +kernel
theorem at_532_119 : am_at (am_m 532) 119 = some (.aload_n 0, 0) := by decide +kernel
theorem at_532_120 : am_at (am_m 532) 120 = some (.aload_n 0, 0) := by decide +kernel
theorem at_532_121 : am_at (am_m 532) 121 = some (.getfield 28, 3080) := by decide +kernel
theorem at_532_124 : am_at (am_m 532) 124 = some (.iload_n 1, 0) := by decide +kernel
theorem at_532_125 : am_at (am_m 532) 125 = some (.iaload, 0) := by decide +kernel
theorem at_532_126 : am_at (am_m 532) 126 = some (.aload_n 0, 0) := by decide +kernel
theorem at_532_127 : am_at (am_m 532) 127 = some (.getfield 31, 3081) := by decide +kernel
theorem at_532_130 : am_at (am_m 532) 130 = some (.iload_n 1, 0) := by decide +kernel
theorem at_532_131 : am_at (am_m 532) 131 = some (.iaload, 0) := by decide +kernel
theorem at_532_132 : am_at (am_m 532) 132 = some (.invokevirtual 817, 439) := by decide +kernel
theorem at_532_135 : am_at (am_m 532) 135 = some (.pop, 0) := by decide +kernel
theorem at_532_136 : am_at (am_m 532) 136 = some (.goto 24, 160) := by decide +kernel
theorem at_532_139 : am_at (am_m 532) 139 = some (.aload_n 0, 0) := by decide +kernel
theorem at_532_140 : am_at (am_m 532) 140 = some (.aload_n 0, 0) := by decide +kernel
theorem at_532_141 : am_at (am_m 532) 141 = some (.getfield 25, 3079) := by decide +kernel
theorem at_532_144 : am_at (am_m 532) 144 = some (.iload_n 1, 0) := by decide +kernel
theorem at_532_145 : am_at (am_m 532) 145 = some (.iaload, 0) := by decide +kernel
theorem at_532_146 : am_at (am_m 532) 146 = some (.invokevirtual 871, 480) := by decide +kernel
theorem at_532_149 : am_at (am_m 532) 149 = some (.aload_n 0, 0) := by decide +kernel
theorem at_532_150 : am_at (am_m 532) 150 = some (.aload_n 0, 0) := by decide +kernel
theorem at_532_151 : am_at (am_m 532) 151 = some (.getfield 31, 3081) := by decide +kernel
theorem at_532_154 : am_at (am_m 532) 154 = some (.iload_n 1, 0) := by decide +kernel
theorem at_532_155 : am_at (am_m 532) 155 = some (.iaload, 0) := by decide +kernel
theorem at_532_156 : am_at (am_m 532) 156 = some (.invokevirtual 874, 481) := by decide +kernel
theorem at_532_159 : am_at (am_m 532) 159 = some (.pop, 0) := by decide +kernel
theorem at_532_160 : am_at (am_m 532) 160 = some (.aload_n 0, 0) := by decide +kernel
theorem at_532_161 : am_at (am_m 532) 161 = some (.iload_n 1, 0) := by decide +kernel
theorem at_532_162 : am_at (am_m 532) 162 = some (.invokevirtual 582, 375) := by decide +kernel
theorem at_532_165 : am_at (am_m 532) 165 = some (.ireturn, 0) := by decide +kernel
theorem at_533_0 : am_at (am_m 533) 0 = some (.aload_n 0, 0) := by decide +kernel
theorem at_533_1 : am_at (am_m 533) 1 = some (.iload_n 1, 0) := by decide +kernel
theorem at_533_2 : am_at (am_m 533) 2 = some (.i2l, 0) := by decide +kernel
theorem at_533_3 : am_at (am_m 533) 3 = some (.lconst 1, 0) := by decide +kernel
theorem at_533_4 : am_at (am_m 533) 4 = some (.ldc2_w 716, 59) := by decide +kernel
theorem at_533_7 : am_at (am_m 533) 7 = some (.invokestatic 299, 327) := by decide +kernel
theorem at_533_10 : am_at (am_m 533) 10 = some (.ifCond .ne 7, 17) := by decide +kernel
theorem at_533_13 : am_at (am_m 533) 13 = some (.iconst 1, 0) := by decide +kernel
theorem at_533_14 : am_at (am_m 533) 14 = some (.goto 18, 32) := by decide +kernel
theorem at_533_17 : am_at (am_m 533) 17 = some (.aload_n 0, 0) := by decide +kernel
theorem at_533_18 : am_at (am_m 533) 18 = some (.getfield 296, 3073) := by decide +kernel
theorem at_533_21 : am_at (am_m 533) 21 = some (.sipush 600, 0) := by decide +kernel
theorem at_533_24 : am_at (am_m 533) 24 = some (.if_icmp .ne 7, 31) := by decide +kernel
theorem at_533_27 : am_at (am_m 533) 27 = some (.iconst 2, 0) := by decide +kernel
theorem at_533_28 : am_at (am_m 533) 28 = some (.goto 4, 32) := by decide +kernel
theorem at_533_31 : am_at (am_m 533) 31 = some (.iconst 0, 0) := by decide +kernel
theorem at_533_32 : am_at (am_m 533) 32 = some (.putfield 292, 3072) := by decide +kernel
theorem at_533_35 : am_at (am_m 533) 35 = some (.aload_n 0, 0) := by decide +kernel
theorem at_533_36 : am_at (am_m 533) 36 = some (.getfield 292, 3072) := by decide +kernel
theorem at_533_39 : am_at (am_m 533) 39 = some (.ifCond .le 5, 44) := by decide +kernel
theorem at_533_42 : am_at (am_m 533) 42 = some (.iconst 0, 0) := by decide +kernel
theorem at_533_43 : am_at (am_m 533) 43 = some (.ireturn, 0) := by decide +kernel
theorem at_533_44 : am_at (am_m 533) 44 = some (.aload_n 0, 0) := by decide +kernel
theorem at_533_45 : am_at (am_m 533) 45 = some (.invokevirtual 616, 377) := by decide +kernel
theorem at_533_48 : am_at (am_m 533) 48 = some (.iconst 1, 0) := by decide +kernel
theorem at_533_49 : am_at (am_m 533) 49 = some (.istore_n 2, 0) := by decide +kernel
theorem at_533_50 : am_at (am_m 533) 50 = some (.iload_n 2, 0) := by decide +kernel
theorem at_533_51 : am_at (am_m 533) 51 = some (.iload_n 1, 0) := by decide +kernel
theorem at_533_52 : am_at (am_m 533) 52 = some (.if_icmp .gt 66, 118) := by decide +kernel
theorem at_533_55 : am_at (am_m 533) 55 = some (.lconst 0, 0) := by decide +kernel
theorem at_533_56 : am_at (am_m 533) 56 = some (.lstore_n 3, 0) := by decide +kernel
theorem at_533_57 : am_at (am_m 533) 57 = some (.lload_n 3, 0) := by decide +kernel
theorem at_533_58 : am_at (am_m 533) 58 = some (.aload_n 0, 0) := by decide +kernel
theorem at_533_59 : am_at (am_m 533) 59 = some (.iconst 2, 0) := by decide +kernel
theorem at_533_60 : am_at (am_m 533) 60 = some (.iconst 0, 0) := by decide +kernel
theorem at_533_61 : am_at (am_m 533) 61 = some (.iload_n 2, 0) := by decide +kernel
theorem at_533_62 : am_at (am_m 533) 62 = some (.invokevirtual 600, 383) := by decide +kernel
theorem at_533_65 : am_at (am_m 533) 65 = some (.lcmp, 0) := by decide +kernel
theorem at_533_66 : am_at (am_m 533) 66 = some (.ifCond .ge 46, 112) := by decide +kernel
theorem at_533_69 : am_at (am_m 533) 69 = some (.aload_n 0, 0) := by decide +kernel
theorem at_533_70 : am_at (am_m 533) 70 = some (.iconst 0, 0) := by decide +kernel
theorem at_533_71 : am_at (am_m 533) 71 = some (.putfield 303, 3085) := by decide +kernel
theorem at_533_74 : am_at (am_m 533) 74 = some (.aload_n 0, 0) := by decide +kernel
theorem at_533_75 : am_at (am_m 533) 75 = some (.iconst 0, 0) := by decide +kernel
theorem at_533_76 : am_at (am_m 533) 76 = some (.putfield 306, 3086) := by decide +kernel
theorem at_533_79 : am_at (am_m 533) 79 = some (.aload_n 0, 0) := by decide +kernel
theorem at_533_80 : am_at (am_m 533) 80 = some (.iconst 2, 0) := by decide +kernel
theorem at_533_81 : am_at (am_m 533) 81 = some (.iconst 0, 0) := by decide +kernel
theorem at_533_82 : am_at (am_m 533) 82 = some (.iload_n 2, 0) := by decide +kernel
theorem at_533_83 : am_at (am_m 533) 83 = some (.lload_n 3, 0) := by decide +kernel
theorem at_533_84 : am_at (am_m 533) 84 = some (.invokevirtual 632, 386) := by decide +kernel
theorem at_533_87 : am_at (am_m 533) 87 = some (.aload_n 0, 0) := by decide +kernel
theorem at_533_88 : am_at (am_m 533) 88 = some (.invokevirtual 977, 534) := by decide +kernel
theorem at_533_91 : am_at (am_m 533) 91 = some (.ifCond .eq 14, 105) := by decide +kernel
theorem at_533_94 : am_at (am_m 533) 94 = some (.aload_n 0, 0) := by decide +kernel
theorem at_533_95 : am_at (am_m 533) 95 = some (.iconst 1, 0) := by decide +kernel
theorem at_533_96 : am_at (am_m 533) 96 = some (.iconst (-1), 0) := by decide +kernel
theorem at_533_97 : am_at (am_m 533) 97 = some (.iconst (-1), 0) := by decide +kernel
theorem at_533_98 : am_at (am_m 533) 98 = some (.iconst (-1), 0) := by decide +kernel
theorem at_533_99 : am_at (am_m 533) 99 = some (.iconst (-1), 0) := by decide +kernel
theorem at_533_100 : am_at (am_m 533) 100 = some (.lconst 0, 0) := by decide +kernel
theorem at_533_101 : am_at (am_m 533) 101 = some (.invokevirtual 543, 356) := by decide +kernel
theorem at_533_104 : am_at (am_m 533) 104 = some (.ireturn, 0) := by decide +kernel
theorem at_533_105 : am_at (am_m 533) 105 = some (.lload_n 3, 0) := by decide +kernel
theorem at_533_106 : am_at (am_m 533) 106 = some (.lconst 1, 0) := by decide +kernel
theorem at_533_107 : am_at (am_m 533) 107 = some (.ladd, 0) := by decide +kernel
theorem at_533_108 : am_at (am_m 533) 108 = some (.lstore_n 3, 0) := by decide +kernel
theorem at_533_109 : am_at (am_m 533) 109 = some (.goto (-52), 57) := by decide +kernel
theorem at_533_112 : am_at (am_m 533) 112 = some (.iinc 2 1, 0) := by decide +kernel
theorem at_533_115 : am_at (am_m 533) 115 = some (.goto (-65), 50) := by decide +kernel
theorem at_533_118 : am_at (am_m 533) 118 = some (.iconst (-1), 0) := by decide +kernel
theorem at_533_119 : am_at (am_m 533) 119 = some (.ireturn, 0) := by decide +kernel
theorem at_534_0 : am_at (am_m 534) 0 = some (.iconst 1, 0) := by decide +kernel
theorem at_534_1 : am_at (am_m 534) 1 = some (.istore_n 1, 0) := by decide +kernel
theorem at_534_2 : am_at (am_m 534) 2 = some (.iconst 0, 0) := by decide +kernel
theorem at_534_3 : am_at (am_m 534) 3 = some (.istore_n 2, 0) := by decide +kernel
theorem at_534_4 : am_at (am_m 534) 4 = some (.iload_n 2, 0) := by decide +kernel
theorem at_534_5 : am_at (am_m 534) 5 = some (.aload_n 0, 0) := by decide +kernel
theorem at_534_6 : am_at (am_m 534) 6 = some (.getfield 652, 3103) := by decide +kernel
theorem at_534_9 : am_at (am_m 534) 9 = some (.if_icmp .ge 38, 47) := by decide +kernel
theorem at_534_12 : am_at (am_m 534) 12 = some (.iload_n 1, 0) := by decide +kernel
theorem at_534_13 : am_at (am_m 534) 13 = some (.ifCond .eq 34, 47) := by decide +kernel
theorem at_534_16 : am_at (am_m 534) 16 = some (.aload_n 0, 0) := by decide +kernel
theorem at_534_17 : am_at (am_m 534) 17 = some (.getfield 93, 3109) := by decide +kernel
theorem at_534_20 : am_at (am_m 534) 20 = some (.iload_n 2, 0) := by decide +kernel
theorem at_534_21 : am_at (am_m 534) 21 = some (.baload, 0) := by decide +kernel
theorem at_534_22 : am_at (am_m 534) 22 = some (.ifCond .ne 13, 35) := by decide +kernel
theorem at_534_25 : am_at (am_m 534) 25 = some (.aload_n 0, 0) := by decide +kernel
theorem at_534_26 : am_at (am_m 534) 26 = some (.iload_n 2, 0) := by decide +kernel
theorem at_534_27 : am_at (am_m 534) 27 = some (.invokevirtual 686, 425) := by decide +kernel
theorem at_534_30 : am_at (am_m 534) 30 = some (.lconst 0, 0) := by decide +kernel
theorem at_534_31 : am_at (am_m 534) 31 = some (.lcmp, 0) := by decide +kernel
theorem at_534_32 : am_at (am_m 534) 32 = some (.ifCond .ne 7, 39) := by decide +kernel
theorem at_534_35 : am_at (am_m 534) 35 = some (.iconst 1, 0) := by decide +kernel
theorem at_534_36 : am_at (am_m 534) 36 = some (.goto 4, 40) := by decide +kernel
theorem at_534_39 : am_at (am_m 534) 39 = some (.iconst 0, 0) := by decide +kernel
theorem at_534_40 : am_at (am_m 534) 40 = some (.istore_n 1, 0) := by decide +kernel
theorem at_534_41 : am_at (am_m 534) 41 = some (.iinc 2 1, 0) := by decide +kernel
theorem at_534_44 : am_at (am_m 534) 44 = some (.goto (-40), 4) := by decide +kernel
theorem at_534_47 : am_at (am_m 534) 47 = some (.iload_n 1, 0) := by decide +kernel
theorem at_534_48 : am_at (am_m 534) 48 = some (.ireturn, 0) := by decide +kernel
theorem at_535_0 : am_at (am_m 535) 0 = some (.aload_n 0, 0) := by decide +kernel
theorem at_535_1 : am_at (am_m 535) 1 = some (.aload_n 0, 0) := by decide +kernel
theorem at_535_2 : am_at (am_m 535) 2 = some (.iload_n 1, 0) := by decide +kernel
theorem at_535_3 : am_at (am_m 535) 3 = some (.invokevirtual 568, 358) := by decide +kernel
theorem at_535_6 : am_at (am_m 535) 6 = some (.ifCond .ne 7, 13) := by decide +kernel
theorem at_535_9 : am_at (am_m 535) 9 = some (.iconst 1, 0) := by decide +kernel
theorem at_535_10 : am_at (am_m 535) 10 = some (.goto 43, 53) := by decide +kernel
theorem at_535_13 : am_at (am_m 535) 13 = some (.aload_n 0, 0) := by decide +kernel
theorem at_535_14 : am_at (am_m 535) 14 = some (.getfield 7, 3074) := by decide +kernel
theorem at_535_17 : am_at (am_m 535) 17 = some (.aload_n 0, 0) := by decide +kernel
theorem at_535_18 : am_at (am_m 535) 18 = some (.iload_n 1, 0) := by decide +kernel
theorem at_535_19 : am_at (am_m 535) 19 = some (.invokevirtual 568, 358) := by decide +kernel
theorem at_535_22 : am_at (am_m 535) 22 = some (.ifCond .eq 7, 29) := by decide +kernel
theorem at_535_25 : am_at (am_m 535) 25 = some (.iload_n 1, 0) := by decide +kernel
theorem at_535_26 : am_at (am_m 535) 26 = some (.goto 4, 30) := by decide +kernel
theorem at_535_29 : am_at (am_m 535) 29 = some (.iconst 0, 0) := by decide +kernel
theorem at_535_30 : am_at (am_m 535) 30 = some (.iaload, 0) := by decide +kernel
theorem at_535_31 : am_at (am_m 535) 31 = some (.ifCond .eq 7, 38) := by decide +kernel
theorem at_535_34 : am_at (am_m 535) 34 = some (.iconst 2, 0) := by decide +kernel
theorem at_535_35 : am_at (am_m 535) 35 = some (.goto 18, 53) := by decide +kernel
theorem at_535_38 : am_at (am_m 535) 38 = some (.aload_n 0, 0) := by decide +kernel
theorem at_535_39 : am_at (am_m 535) 39 = some (.getfield 296, 3073) := by decide +kernel
theorem at_535_42 : am_at (am_m 535) 42 = some (.sipush 600, 0) := by decide +kernel
theorem at_535_45 : am_at (am_m 535) 45 = some (.if_icmp .ne 7, 52) := by decide +kernel
theorem at_535_48 : am_at (am_m 535) 48 = some (.iconst 3, 0) := by decide +kernel
theorem at_535_49 : am_at (am_m 535) 49 = some (.goto 4, 53) := by decide +kernel
theorem at_535_52 : am_at (am_m 535) 52 = some (.iconst 0, 0) := by decide +kernel
theorem at_535_53 : am_at (am_m 535) 53 = some (.putfield 292, 3072) := by decide +kernel
theorem at_535_56 : am_at (am_m 535) 56 = some (.aload_n 0, 0) := by decide +kernel
theorem at_535_57 : am_at (am_m 535) 57 = some (.getfield 292, 3072) := by decide +kernel
theorem at_535_60 : am_at (am_m 535) 60 = some (.ifCond .le 5, 65) := by decide +kernel
theorem at_535_63 : am_at (am_m 535) 63 = some (.iconst 0, 0) := by decide +kernel
theorem at_535_64 : am_at (am_m 535) 64 = some (.ireturn, 0) := by decide +kernel
theorem at_535_65 : am_at (am_m 535) 65 = some (.aload_n 0, 0) := by decide +kernel
theorem at_535_66 : am_at (am_m 535) 66 = some (.iload_n 1, 0) := by decide +kernel
theorem at_535_67 : am_at (am_m 535) 67 = some (.invokevirtual 635, 391) := by decide +kernel
theorem at_535_70 : am_at (am_m 535) 70 = some (.aload_n 0, 0) := by decide +kernel
theorem at_535_71 : am_at (am_m 535) 71 = some (.iconst 1, 0) := by decide +kernel
theorem at_535_72 : am_at (am_m 535) 72 = some (.invokevirtual 1035, 536) := by decide +kernel
theorem at_535_75 : am_at (am_m 535) 75 = some (.aload_n 0, 0) := by decide +kernel
theorem at_535_76 : am_at (am_m 535) 76 = some (.iconst 5, 0) := by decide +kernel
theorem at_535_77 : am_at (am_m 535) 77 = some (.iload_n 1, 0) := by decide +kernel
theorem at_535_78 : am_at (am_m 535) 78 = some (.iconst (-1), 0) := by decide +kernel
theorem at_535_79 : am_at (am_m 535) 79 = some (.iconst (-1), 0) := by decide +kernel
theorem at_535_80 : am_at (am_m 535) 80 = some (.iconst (-1), 0) := by decide +kernel
theorem at_535_81 : am_at (am_m 535) 81 = some (.lconst 0, 0) := by decide +kernel
theorem at_535_82 : am_at (am_m 535) 82 = some (.invokevirtual 543, 356) := by decide +kernel
theorem at_535_85 : am_at (am_m 535) 85 = some (.ireturn, 0) := by decide +kernel
theorem at_536_0 : am_at (am_m 536) 0 = some (.iload_n 1, 0) := by decide +kernel
theorem at_536_1 : am_at (am_m 536) 1 = some (.ifCond .eq 8, 9) := by decide +kernel
theorem at_536_4 : am_at (am_m 536) 4 = some (.aload_n 0, 0) := by decide +kernel
theorem at_536_5 : am_at (am_m 536) 5 = some (.iconst 0, 0) := by decide +kernel
theorem at_536_6 : am_at (am_m 536) 6 = some (.putfield 1025, 3187) := by decide +kernel
theorem at_536_9 : am_at (am_m 536) 9 = some (.aload_n 0, 0) := by decide +kernel
theorem at_536_10 : am_at (am_m 536) 10 = some (.iload_n 1, 0) := by decide +kernel
theorem at_536_11 : am_at (am_m 536) 11 = some (.invokevirtual 1028, 537) := by decide +kernel
theorem at_536_14 : am_at (am_m 536) 14 = some (.ifCond .eq 10, 24) := by decide +kernel
theorem at_536_17 : am_at (am_m 536) 17 = some (.aload_n 0, 0) := by decide +kernel
theorem at_536_18 : am_at (am_m 536) 18 = some (.invokevirtual 1032, 495) := by decide +kernel
theorem at_536_21 : am_at (am_m 536) 21 = some (.goto (-12), 9) := by decide +kernel
theorem at_536_24 : am_at (am_m 536) 24 = some (.aload_n 0, 0) := by decide +kernel
theorem at_536_25 : am_at (am_m 536) 25 = some (.invokevirtual 739, 442) := by decide +kernel
theorem at_536_28 : am_at (am_m 536) 28 = some (.return_, 0) := by decide +kernel
theorem at_537_0 : am_at (am_m 537) 0 = some (.aload_n 0, 0) := by decide +kernel
theorem at_537_1 : am_at (am_m 537) 1 = some (.getfield 315, 3090) := by decide +kernel
theorem at_537_4 : am_at (am_m 537) 4 = some (.iconst 1, 0) := by decide +kernel
theorem at_537_5 : am_at (am_m 537) 5 = some (.isub, 0) := by decide +kernel
theorem at_537_6 : am_at (am_m 537) 6 = some (.istore_n 2, 0) := by decide +kernel
theorem at_537_7 : am_at (am_m 537) 7 = some (.iload_n 2, 0) := by decide +kernel
theorem at_537_8 : am_at (am_m 537) 8 = some (.ifCond .lt 71, 79) := by decide +kernel
theorem at_537_11 : am_at (am_m 537) 11 = some (.iconst 0, 0) := by decide +kernel
theorem at_537_12 : am_at (am_m 537) 12 = some (.istore_n 3, 0) := by decide +kernel
theorem at_537_13 : am_at (am_m 537) 13 = some (.iload_n 3, 0) := by decide +kernel
theorem at_537_14 : am_at (am_m 537) 14 = some (.bipush 9, 0) := by decide +kernel
theorem at_537_16 : am_at (am_m 537) 16 = some (.if_icmp .ge 57, 73) := by decide +kernel
theorem at_537_19 : am_at (am_m 537) 19 = some (.aload_n 0, 0) := by decide +kernel
theorem at_537_20 : am_at (am_m 537) 20 = some (.iload_n 2, 0) := by decide +kernel
theorem at_537_21 : am_at (am_m 537) 21 = some (.iload_n 3, 0) := by decide +kernel
theorem at_537_22 : am_at (am_m 537) 22 = some (.invokevirtual 1022, 538) := by decide +kernel
theorem at_537_25 : am_at (am_m 537) 25 = some (.ifCond .ne 6, 31) := by decide +kernel
theorem at_537_28 : am_at (am_m 537) 28 = some (.goto 39, 67) := by decide +kernel
theorem at_537_31 : am_at (am_m 537) 31 = some (.iload_n 1, 0) := by decide +kernel
theorem at_537_32 : am_at (am_m 537) 32 = some (.ifCond .eq 33, 65) := by decide +kernel
theorem at_537_35 : am_at (am_m 537) 35 = some (.aload_n 0, 0) := by decide +kernel
theorem at_537_36 : am_at (am_m 537) 36 = some (.getfield 232, 3188) := by decide +kernel
theorem at_537_39 : am_at (am_m 537) 39 = some (.aload_n 0, 0) := by decide +kernel
theorem at_537_40 : am_at (am_m 537) 40 = some (.getfield 1025, 3187) := by decide +kernel
theorem at_537_43 : am_at (am_m 537) 43 = some (.iload_n 2, 0) := by decide +kernel
theorem at_537_44 : am_at (am_m 537) 44 = some (.iastore, 0) := by decide +kernel
theorem at_537_45 : am_at (am_m 537) 45 = some (.aload_n 0, 0) := by decide +kernel
theorem at_537_46 : am_at (am_m 537) 46 = some (.getfield 235, 3189) := by decide +kernel
theorem at_537_49 : am_at (am_m 537) 49 = some (.aload_n 0, 0) := by decide +kernel
theorem at_537_50 : am_at (am_m 537) 50 = some (.getfield 1025, 3187) := by decide +kernel
theorem at_537_53 : am_at (am_m 537) 53 = some (.iload_n 3, 0) := by decide +kernel
theorem at_537_54 : am_at (am_m 537) 54 = some (.iastore, 0) := by decide +kernel
theorem at_537_55 : am_at (am_m 537) 55 = some (.aload_n 0, 0) := by decide +kernel
theorem at_537_56 : am_at (am_m 537) 56 = some (.dup, 0) := by decide +kernel
theorem at_537_57 : am_at (am_m 537) 57 = some (.getfield 1025, 3187) := by decide +kernel
theorem at_537_60 : am_at (am_m 537) 60 = some (.iconst 1, 0) := by decide +kernel
theorem at_537_61 : am_at (am_m 537) 61 = some (.iadd, 0) := by decide +kernel
theorem at_537_62 : am_at (am_m 537) 62 = some (.putfield 1025, 3187) := by decide +kernel
theorem at_537_65 : am_at (am_m 537) 65 = some (.iconst 1, 0) := by decide +kernel
theorem at_537_66 : am_at (am_m 537) 66 = some (.ireturn, 0) := by decide +kernel
theorem at_537_67 : am_at (am_m 537) 67 = some (.iinc 3 1, 0) := by decide +kernel
theorem at_537_70 : am_at (am_m 537) 70 = some (.goto (-57), 13) := by decide +kernel
theorem at_537_73 : am_at (am_m 537) 73 = some (.iinc 2 (-1), 0) := by decide +kernel
theorem at_537_76 : am_at (am_m 537) 76 = some (.goto (-69), 7) := by decide +kernel
theorem at_537_79 : am_at (am_m 537) 79 = some (.iconst 0, 0) := by decide +kernel
theorem at_537_80 : am_at (am_m 537) 80 = some (.ireturn, 0) := by decide +kernel
theorem at_538_0 : am_at (am_m 538) 0 = some (.iload_n 2, 0) := by decide +kernel
theorem at_538_1 : am_at (am_m 538) 1 = some (.tableswitch 95 0 7 #[47, 53, 59, 65, 71, 77, 83, 89], 0) := by decide +kernel
theorem at_538_48 : am_at (am_m 538) 48 = some (.aload_n 0, 0) := by decide +kernel
theorem at_538_49 : am_at (am_m 538) 49 = some (.iload_n 1, 0) := by decide +kernel
theorem at_538_50 : am_at (am_m 538) 50 = some (.invokevirtual 995, 539) := by decide +kernel
theorem at_538_53 : am_at (am_m 538) 53 = some (.ireturn, 0) := by decide +kernel
theorem at_538_54 : am_at (am_m 538) 54 = some (.aload_n 0, 0) := by decide +kernel
theorem at_538_55 : am_at (am_m 538) 55 = some (.iload_n 1, 0) := by decide +kernel
theorem at_538_56 : am_at (am_m 538) 56 = some (.invokevirtual 998, 541) := by decide +kernel
theorem at_538_59 : am_at (am_m 538) 59 = some (.ireturn, 0) := by decide +kernel
theorem at_538_60 : am_at (am_m 538) 60 = some (.aload_n 0, 0) := by decide +kernel
theorem at_538_61 : am_at (am_m 538) 61 = some (.iload_n 1, 0) := by decide +kernel
theorem at_538_62 : am_at (am_m 538) 62 = some (.invokevirtual 1001, 544) := by decide +kernel
theorem at_538_65 : am_at (am_m 538) 65 = some (.ireturn, 0) := by decide +kernel
theorem at_538_66 : am_at (am_m 538) 66 = some (.aload_n 0, 0) := by decide +kernel
theorem at_538_67 : am_at (am_m 538) 67 = some (.iload_n 1, 0) := by decide +kernel
theorem at_538_68 : am_at (am_m 538) 68 = some (.invokevirtual 1004, 545) := by decide +kernel
theorem at_538_71 : am_at (am_m 538) 71 = some (.ireturn, 0) := by decide +kernel
theorem at_538_72 : am_at (am_m 538) 72 = some (.aload_n 0, 0) := by decide +kernel
theorem at_538_73 : am_at (am_m 538) 73 = some (.iload_n 1, 0) := by decide +kernel
theorem at_538_74 : am_at (am_m 538) 74 = some (.invokevirtual 1007, 546) := by decide +kernel
theorem at_538_77 : am_at (am_m 538) 77 = some (.ireturn, 0) := by decide +kernel
theorem at_538_78 : am_at (am_m 538) 78 = some (.aload_n 0, 0) := by decide +kernel
theorem at_538_79 : am_at (am_m 538) 79 = some (.iload_n 1, 0) := by decide +kernel
theorem at_538_80 : am_at (am_m 538) 80 = some (.invokevirtual 1010, 549) := by decide +kernel
theorem at_538_83 : am_at (am_m 538) 83 = some (.ireturn, 0) := by decide +kernel
theorem at_538_84 : am_at (am_m 538) 84 = some (.aload_n 0, 0) := by decide +kernel
theorem at_538_85 : am_at (am_m 538) 85 = some (.iload_n 1, 0) := by decide +kernel
theorem at_538_86 : am_at (am_m 538) 86 = some (.invokevirtual 1013, 550) := by decide +kernel
theorem at_538_89 : am_at (am_m 538) 89 = some (.ireturn, 0) := by decide +kernel
theorem at_538_90 : am_at (am_m 538) 90 = some (.aload_n 0, 0) := by decide +kernel
theorem at_538_91 : am_at (am_m 538) 91 = some (.iload_n 1, 0) := by decide +kernel
theorem at_538_92 : am_at (am_m 538) 92 = some (.invokevirtual 1016, 551) := by decide +kernel
theorem at_538_95 : am_at (am_m 538) 95 = some (.ireturn, 0) := by decide +kernel
theorem at_538_96 : am_at (am_m 538) 96 = some (.aload_n 0, 0) := by decide +kernel
theorem at_538_97 : am_at (am_m 538) 97 = some (.iload_n 1, 0) := by decide +kernel
theorem at_538_98 : am_at (am_m 538) 98 = some (.invokevirtual 1019, 552) := by decide +kernel
theorem at_538_101 : am_at (am_m 538) 101 = some (.ireturn, 0) := by decide +kernel
theorem at_539_0 : am_at (am_m 539) 0 = some (.aload_n 0, 0) := by decide +kernel
theorem at_539_1 : am_at (am_m 539) 1 = some (.getfield 51, 3093) := by decide +kernel
theorem at_539_4 : am_at (am_m 539) 4 = some (.iload_n 1, 0) := by decide +kernel
theorem at_539_5 : am_at (am_m 539) 5 = some (.iaload, 0) := by decide +kernel
theorem at_539_6 : am_at (am_m 539) 6 = some (.istore_n 2, 0) := by decide +kernel
theorem at_539_7 : am_at (am_m 539) 7 = some (.iload_n 2, 0) := by decide +kernel
theorem at_539_8 : am_at (am_m 539) 8 = some (.bipush 7, 0) := by decide +kernel
theorem at_539_10 : am_at (am_m 539) 10 = some (.if_icmp .ne 29, 39) := by decide +kernel
theorem at_539_13 : am_at (am_m 539) 13 = some (.aload_n 0, 0) := by decide +kernel
theorem at_539_14 : am_at (am_m 539) 14 = some (.getfield 51, 3093) := by decide +kernel
theorem at_539_17 : am_at (am_m 539) 17 = some (.iload_n 1, 0) := by decide +kernel
theorem at_539_18 : am_at (am_m 539) 18 = some (.iconst 1, 0) := by decide +kernel
theorem at_539_19 : am_at (am_m 539) 19 = some (.iadd, 0) := by decide +kernel
theorem at_539_20 : am_at (am_m 539) 20 = some (.iaload, 0) := by decide +kernel
theorem at_539_21 : am_at (am_m 539) 21 = some (.ifCond .ne 18, 39) := by decide +kernel
theorem at_539_24 : am_at (am_m 539) 24 = some (.aload_n 0, 0) := by decide +kernel
theorem at_539_25 : am_at (am_m 539) 25 = some (.iload_n 1, 0) := by decide +kernel
theorem at_539_26 : am_at (am_m 539) 26 = some (.aload_n 0, 0) := by decide +kernel
theorem at_539_27 : am_at (am_m 539) 27 = some (.getfield 54, 3094) := by decide +kernel
theorem at_539_30 : am_at (am_m 539) 30 = some (.iload_n 1, 0) := by decide +kernel
theorem at_539_31 : am_at (am_m 539) 31 = some (.iconst 1, 0) := by decide +kernel
theorem at_539_32 : am_at (am_m 539) 32 = some (.iadd, 0) := by decide +kernel
theorem at_539_33 : am_at (am_m 539) 33 = some (.iaload, 0) := by decide +kernel
theorem at_539_34 : am_at (am_m 539) 34 = some (.ineg, 0) := by decide +kernel
theorem at_539_35 : am_at (am_m 539) 35 = some (.invokevirtual 980, 540) := by decide +kernel
theorem at_539_38 : am_at (am_m 539) 38 = some (.ireturn, 0) := by decide +kernel
theorem at_539_39 : am_at (am_m 539) 39 = some (.iload_n 2, 0) := by decide +kernel
theorem at_539_40 : am_at (am_m 539) 40 = some (.bipush 10, 0) := by decide +kernel
theorem at_539_42 : am_at (am_m 539) 42 = some (.if_icmp .lt 34, 76) := by decide +kernel
theorem at_539_45 : am_at (am_m 539) 45 = some (.iload_n 2, 0) := by decide +kernel
theorem at_539_46 : am_at (am_m 539) 46 = some (.bipush 14, 0) := by decide +kernel
theorem at_539_48 : am_at (am_m 539) 48 = some (.if_icmp .gt 28, 76) := by decide +kernel
theorem at_539_51 : am_at (am_m 539) 51 = some (.aload_n 0, 0) := by decide +kernel
theorem at_539_52 : am_at (am_m 539) 52 = some (.getfield 51, 3093) := by decide +kernel
theorem at_539_55 : am_at (am_m 539) 55 = some (.iload_n 1, 0) := by decide +kernel
theorem at_539_56 : am_at (am_m 539) 56 = some (.iconst 1, 0) := by decide +kernel
theorem at_539_57 : am_at (am_m 539) 57 = some (.iadd, 0) := by decide +kernel
theorem at_539_58 : am_at (am_m 539) 58 = some (.iaload, 0) := by decide +kernel
theorem at_539_59 : am_at (am_m 539) 59 = some (.ifCond .ne 17, 76) := by decide +kernel
theorem at_539_62 : am_at (am_m 539) 62 = some (.aload_n 0, 0) := by decide +kernel
theorem at_539_63 : am_at (am_m 539) 63 = some (.getfield 51, 3093) := by decide +kernel
theorem at_539_66 : am_at (am_m 539) 66 = some (.aload_n 0, 0) := by decide +kernel
theorem at_539_67 : am_at (am_m 539) 67 = some (.iload_n 1, 0) := by decide +kernel
theorem at_539_68 : am_at (am_m 539) 68 = some (.iconst 1, 0) := by decide +kernel
theorem at_539_69 : am_at (am_m 539) 69 = some (.invokevirtual 642, 393) := by decide +kernel
theorem at_539_72 : am_at (am_m 539) 72 = some (.iaload, 0) := by decide +kernel
theorem at_539_73 : am_at (am_m 539) 73 = some (.ifCond .eq 5, 78) := by decide +kernel
theorem at_539_76 : am_at (am_m 539) 76 = some (.iconst 0, 0) := by decide +kernel
theorem at_539_77 : am_at (am_m 539) 77 = some (.ireturn, 0) := by decide +kernel
theorem at_539_78 : am_at (am_m 539) 78 = some (.aload_n 0, 0) := by decide +kernel
theorem at_539_79 : am_at (am_m 539) 79 = some (.getfield 54, 3094) := by decide +kernel
theorem at_539_82 : am_at (am_m 539) 82 = some (.iload_n 1, 0) := by decide +kernel
theorem at_539_83 : am_at (am_m 539) 83 = some (.iconst 1, 0) := by decide +kernel
theorem at_539_84 : am_at (am_m 539) 84 = some (.iadd, 0) := by decide +kernel
theorem at_539_85 : am_at (am_m 539) 85 = some (.iaload, 0) := by decide +kernel
theorem at_539_86 : am_at (am_m 539) 86 = some (.istore_n 3, 0) := by decide +kernel
theorem at_539_87 : am_at (am_m 539) 87 = some (.aload_n 0, 0) := by decide +kernel
theorem at_539_88 : am_at (am_m 539) 88 = some (.getfield 54, 3094) := by decide +kernel
theorem at_539_91 : am_at (am_m 539) 91 = some (.aload_n 0, 0) := by decide +kernel
theorem at_539_92 : am_at (am_m 539) 92 = some (.iload_n 1, 0) := by decide +kernel
theorem at_539_93 : am_at (am_m 539) 93 = some (.iconst 1, 0) := by decide +kernel
theorem at_539_94 : am_at (am_m 539) 94 = some (.invokevirtual 642, 393) := by decide +kernel
theorem at_539_97 : am_at (am_m 539) 97 = some (.iaload, 0) := by decide +kernel
theorem at_539_98 : am_at (am_m 539) 98 = some (.istore 4, 0) := by decide +kernel
theorem at_539_100 : am_at (am_m 539) 100 = some (.iload_n 2, 0) := by decide +kernel
theorem at_539_101 : am_at (am_m 539) 101 = some (.bipush 12, 0) := by decide +kernel
theorem at_539_103 : am_at (am_m 539) 103 = some (.if_icmp .le 10, 113) := by decide +kernel
theorem at_539_106 : am_at (am_m 539) 106 = some (.iload 4, 0) := by decide +kernel
theorem at_539_108 : am_at (am_m 539) 108 = some (.ifCond .ne 5, 113) := by decide +kernel
theorem at_539_111 : am_at (am_m 539) 111 = some (.iconst 0, 0) := by decide +kernel
theorem at_539_112 : am_at (am_m 539) 112 = some (.ireturn, 0) := by decide +kernel
theorem at_539_113 : am_at (am_m 539) 113 = some (.iload_n 2, 0) := by decide +kernel
theorem at_539_114 : am_at (am_m 539) 114 = some (.bipush 10, 0) := by decide +kernel
theorem at_539_116 : am_at (am_m 539) 116 = some (.if_icmp .ne 10, 126) := by decide +kernel
theorem at_539_119 : am_at (am_m 539) 119 = some (.iload_n 3, 0) := by decide +kernel
theorem at_539_120 : am_at (am_m 539) 120 = some (.iload 4, 0) := by decide +kernel
theorem at_539_122 : am_at (am_m 539) 122 = some (.iadd, 0) := by decide +kernel
theorem at_539_123 : am_at (am_m 539) 123 = some (.goto 46, 169) := by decide +kernel
theorem at_539_126 : am_at (am_m 539) 126 = some (.iload_n 2, 0) := by decide +kernel
theorem at_539_127 : am_at (am_m 539) 127 = some (.bipush 11, 0) := by decide +kernel
theorem at_539_129 : am_at (am_m 539) 129 = some (.if_icmp .ne 10, 139) := by decide +kernel
theorem at_539_132 : am_at (am_m 539) 132 = some (.iload_n 3, 0) := by decide +kernel
theorem at_539_133 : am_at (am_m 539) 133 = some (.iload 4, 0) := by decide +kernel
theorem at_539_135 : am_at (am_m 539) 135 = some (.isub, 0) := by decide +kernel
theorem at_539_136 : am_at (am_m 539) 136 = some (.goto 33, 169) := by decide +kernel
theorem at_539_139 : am_at (am_m 539) 139 = some (.iload_n 2, 0) := by decide +kernel
theorem at_539_140 : am_at (am_m 539) 140 = some (.bipush 12, 0) := by decide +kernel
theorem at_539_142 : am_at (am_m 539) 142 = some (.if_icmp .ne 10, 152) := by decide +kernel
theorem at_539_145 : am_at (am_m 539) 145 = some (.iload_n 3, 0) := by decide +kernel
theorem at_539_146 : am_at (am_m 539) 146 = some (.iload 4, 0) := by decide +kernel
theorem at_539_148 : am_at (am_m 539) 148 = some (.imul, 0) := by decide +kernel
theorem at_539_149 : am_at (am_m 539) 149 = some (.goto 20, 169) := by decide +kernel
theorem at_539_152 : am_at (am_m 539) 152 = some (.iload_n 2, 0) := by decide +kernel
theorem at_539_153 : am_at (am_m 539) 153 = some (.bipush 13, 0) := by decide +kernel
theorem at_539_155 : am_at (am_m 539) 155 = some (.if_icmp .ne 10, 165) := by decide +kernel
theorem at_539_158 : am_at (am_m 539) 158 = some (.iload_n 3, 0) := by decide +kernel
theorem at_539_159 : am_at (am_m 539) 159 = some (.iload 4, 0) := by decide +kernel
theorem at_539_161 : am_at (am_m 539) 161 = some (.idiv, 0) := by decide +kernel
theorem at_539_162 : am_at (am_m 539) 162 = some (.goto 7, 169) := by decide +kernel
theorem at_539_165 : am_at (am_m 539) 165 = some (.iload_n 3, 0) := by decide +kernel
theorem at_539_166 : am_at (am_m 539) 166 = some (.iload 4, 0) := by decide +kernel
theorem at_539_168 : am_at (am_m 539) 168 = some (.irem, 0) := by decide +kernel
theorem at_539_169 : am_at (am_m 539) 169 = some (.istore 5, 0) := by decide +kernel
theorem at_539_171 : am_at (am_m 539) 171 = some (.iload 5, 0) := by decide +kernel
theorem at_539_173 : am_at (am_m 539) 173 = some (.i2l, 0) := by decide +kernel
theorem at_539_174 : am_at (am_m 539) 174 = some (.ldc2_w 735, 61) := by decide +kernel
theorem at_539_177 : am_at (am_m 539) 177 = some (.ldc2_w 737, 62) := by decide +kernel
theorem at_539_180 : am_at (am_m 539) 180 = some (.invokestatic 299, 327) := by decide +kernel
theorem at_539_183 : am_at (am_m 539) 183 = some (.ifCond .eq 17, 200) := by decide +kernel
theorem at_539_186 : am_at (am_m 539) 186 = some (.aload_n 0, 0) := by decide +kernel
theorem at_539_187 : am_at (am_m 539) 187 = some (.iload_n 1, 0) := by decide +kernel
theorem at_539_188 : am_at (am_m 539) 188 = some (.iload 5, 0) := by decide +kernel
theorem at_539_190 : am_at (am_m 539) 190 = some (.invokevirtual 980, 540) := by decide +kernel
theorem at_539_193 : am_at (am_m 539) 193 = some (.ifCond .eq 7, 200) := by decide +kernel
theorem at_539_196 : am_at (am_m 539) 196 = some (.iconst 1, 0) := by decide +kernel
theorem at_539_197 : am_at (am_m 539) 197 = some (.goto 4, 201) := by decide +kernel
theorem at_539_200 : am_at (am_m 539) 200 = some (.iconst 0, 0) := by decide +kernel
theorem at_539_201 : am_at (am_m 539) 201 = some (.ireturn, 0) := by decide +kernel
theorem at_540_0 : am_at (am_m 540) 0 = some (.aload_n 0, 0) := by decide +kernel
theorem at_540_1 : am_at (am_m 540) 1 = some (.invokevirtual 753, 451) := by decide +kernel
theorem at_540_4 : am_at (am_m 540) 4 = some (.aload_n 0, 0) := by decide +kernel
theorem at_540_5 : am_at (am_m 540) 5 = some (.iconst 0, 0) := by decide +kernel
theorem at_540_6 : am_at (am_m 540) 6 = some (.iload_n 1, 0) := by decide +kernel
theorem at_540_7 : am_at (am_m 540) 7 = some (.invokevirtual 331, 443) := by decide +kernel
theorem at_540_10 : am_at (am_m 540) 10 = some (.aload_n 0, 0) := by decide +kernel
theorem at_540_11 : am_at (am_m 540) 11 = some (.iconst 0, 0) := by decide +kernel
theorem at_540_12 : am_at (am_m 540) 12 = some (.iload_n 2, 0) := by decide +kernel
theorem at_540_13 : am_at (am_m 540) 13 = some (.invokevirtual 335, 335) := by decide +kernel
theorem at_540_16 : am_at (am_m 540) 16 = some (.aload_n 0, 0) := by decide +kernel
theorem at_540_17 : am_at (am_m 540) 17 = some (.iload_n 1, 0) := by decide +kernel
theorem at_540_18 : am_at (am_m 540) 18 = some (.aload_n 0, 0) := by decide +kernel
theorem at_540_19 : am_at (am_m 540) 19 = some (.getfield 63, 3098) := by decide +kernel
theorem at_540_22 : am_at (am_m 540) 22 = some (.iload_n 1, 0) := by decide +kernel
theorem at_540_23 : am_at (am_m 540) 23 = some (.iaload, 0) := by decide +kernel
theorem at_540_24 : am_at (am_m 540) 24 = some (.iadd, 0) := by decide +kernel
theorem at_540_25 : am_at (am_m 540) 25 = some (.aload_n 0, 0) := by decide +kernel
theorem at_540_26 : am_at (am_m 540) 26 = some (.getfield 315, 3090) := by decide +kernel
theorem at_540_29 : am_at (am_m 540) 29 = some (.invokevirtual 331, 443) := by decide +kernel
theorem at_540_32 : am_at (am_m 540) 32 = some (.iconst 1, 0) := by decide +kernel
theorem at_540_33 : am_at (am_m 540) 33 = some (.ireturn, 0) := by decide +kernel
theorem at_541_0 : am_at (am_m 541) 0 = some (.aload_n 0, 0) := by decide +kernel
theorem at_541_1 : am_at (am_m 541) 1 = some (.getfield 51, 3093) := by decide +kernel
theorem at_541_4 : am_at (am_m 541) 4 = some (.iload_n 1, 0) := by decide +kernel
theorem at_541_5 : am_at (am_m 541) 5 = some (.iaload, 0) := by decide +kernel
theorem at_541_6 : am_at (am_m 541) 6 = some (.istore_n 2, 0) := by decide +kernel
theorem at_541_7 : am_at (am_m 541) 7 = some (.iload_n 2, 0) := by decide +kernel
theorem at_541_8 : am_at (am_m 541) 8 = some (.bipush 10, 0) := by decide +kernel
theorem at_541_10 : am_at (am_m 541) 10 = some (.if_icmp .lt 9, 19) := by decide +kernel
theorem at_541_13 : am_at (am_m 541) 13 = some (.iload_n 2, 0) := by decide +kernel
theorem at_541_14 : am_at (am_m 541) 14 = some (.bipush 13, 0) := by decide +kernel
theorem at_541_16 : am_at (am_m 541) 16 = some (.if_icmp .le 5, 21) := by decide +kernel
theorem at_541_19 : am_at (am_m 541) 19 = some (.iconst 0, 0) := by decide +kernel
theorem at_541_20 : am_at (am_m 541) 20 = some (.ireturn, 0) := by decide +kernel
theorem at_541_21 : am_at (am_m 541) 21 = some (.iload_n 1, 0) := by decide +kernel
theorem at_541_22 : am_at (am_m 541) 22 = some (.iconst 1, 0) := by decide +kernel
theorem at_541_23 : am_at (am_m 541) 23 = some (.iadd, 0) := by decide +kernel
theorem at_541_24 : am_at (am_m 541) 24 = some (.istore_n 3, 0) := by decide +kernel
theorem at_541_25 : am_at (am_m 541) 25 = some (.aload_n 0, 0) := by decide +kernel
theorem at_541_26 : am_at (am_m 541) 26 = some (.iload_n 1, 0) := by decide +kernel
theorem at_541_27 : am_at (am_m 541) 27 = some (.iconst 1, 0) := by decide +kernel
theorem at_541_28 : am_at (am_m 541) 28 = some (.invokevirtual 642, 393) := by decide +kernel
theorem at_541_31 : am_at (am_m 541) 31 = some (.istore 4, 0) := by decide +kernel
theorem at_541_33 : am_at (am_m 541) 33 = some (.iload_n 2, 0) := by decide +kernel
theorem at_541_34 : am_at (am_m 541) 34 = some (.bipush 10, 0) := by decide +kernel
theorem at_541_36 : am_at (am_m 541) 36 = some (.if_icmp .eq 9, 45) := by decide +kernel
theorem at_541_39 : am_at (am_m 541) 39 = some (.iload_n 2, 0) := by decide +kernel
theorem at_541_40 : am_at (am_m 541) 40 = some (.bipush 11, 0) := by decide +kernel
theorem at_541_42 : am_at (am_m 541) 42 = some (.if_icmp .ne 20, 62) := by decide +kernel
theorem at_541_45 : am_at (am_m 541) 45 = some (.aload_n 0, 0) := by decide +kernel
theorem at_541_46 : am_at (am_m 541) 46 = some (.iload 4, 0) := by decide +kernel
theorem at_541_48 : am_at (am_m 541) 48 = some (.iconst 0, 0) := by decide +kernel
theorem at_541_49 : am_at (am_m 541) 49 = some (.invokevirtual 983, 542) := by decide +kernel
theorem at_541_52 : am_at (am_m 541) 52 = some (.ifCond .eq 10, 62) := by decide +kernel
theorem at_541_55 : am_at (am_m 541) 55 = some (.aload_n 0, 0) := by decide +kernel
theorem at_541_56 : am_at (am_m 541) 56 = some (.iload_n 1, 0) := by decide +kernel
theorem at_541_57 : am_at (am_m 541) 57 = some (.iload_n 3, 0) := by decide +kernel
theorem at_541_58 : am_at (am_m 541) 58 = some (.invokevirtual 986, 543) := by decide +kernel
theorem at_541_61 : am_at (am_m 541) 61 = some (.ireturn, 0) := by decide +kernel
theorem at_541_62 : am_at (am_m 541) 62 = some (.iload_n 2, 0) := by decide +kernel
theorem at_541_63 : am_at (am_m 541) 63 = some (.bipush 10, 0) := by decide +kernel
theorem at_541_65 : am_at (am_m 541) 65 = some (.if_icmp .ne 20, 85) := by decide +kernel
theorem at_541_68 : am_at (am_m 541) 68 = some (.aload_n 0, 0) := by decide +kernel
theorem at_541_69 : am_at (am_m 541) 69 = some (.iload_n 3, 0) := by decide +kernel
theorem at_541_70 : am_at (am_m 541) 70 = some (.iconst 0, 0) := by decide +kernel
theorem at_541_71 : am_at (am_m 541) 71 = some (.invokevirtual 983, 542) := by decide +kernel
theorem at_541_74 : am_at (am_m 541) 74 = some (.ifCond .eq 11, 85) := by decide +kernel
theorem at_541_77 : am_at (am_m 541) 77 = some (.aload_n 0, 0) := by decide +kernel
theorem at_541_78 : am_at (am_m 541) 78 = some (.iload_n 1, 0) := by decide +kernel
theorem at_541_79 : am_at (am_m 541) 79 = some (.iload 4, 0) := by decide +kernel
theorem at_541_81 : am_at (am_m 541) 81 = some (.invokevirtual 986, 543) := by decide +kernel
theorem at_541_84 : am_at (am_m 541) 84 = some (.ireturn, 0) := by decide +kernel
theorem at_541_85 : am_at (am_m 541) 85 = some (.iload_n 2, 0) := by decide +kernel
theorem at_541_86 : am_at (am_m 541) 86 = some (.bipush 12, 0) := by decide +kernel
theorem at_541_88 : am_at (am_m 541) 88 = some (.if_icmp .eq 9, 97) := by decide +kernel
theorem at_541_91 : am_at (am_m 541) 91 = some (.iload_n 2, 0) := by decide +kernel
theorem at_541_92 : am_at (am_m 541) 92 = some (.bipush 13, 0) := by decide +kernel
theorem at_541_94 : am_at (am_m 541) 94 = some (.if_icmp .ne 20, 114) := by decide +kernel
theorem at_541_97 : am_at (am_m 541) 97 = some (.aload_n 0, 0) := by decide +kernel
theorem at_541_98 : am_at (am_m 541) 98 = some (.iload 4, 0) := by decide +kernel
theorem at_541_100 : am_at (am_m 541) 100 = some (.iconst 1, 0) := by decide +kernel
theorem at_541_101 : am_at (am_m 541) 101 = some (.invokevirtual 983, 542) := by decide +kernel
theorem at_541_104 : am_at (am_m 541) 104 = some (.ifCond .eq 10, 114) := by decide +kernel
theorem at_541_107 : am_at (am_m 541) 107 = some (.aload_n 0, 0) := by decide +kernel
theorem at_541_108 : am_at (am_m 541) 108 = some (.iload_n 1, 0) := by decide +kernel
theorem at_541_109 : am_at (am_m 541) 109 = some (.iload_n 3, 0) := by decide +kernel
theorem at_541_110 : am_at (am_m 541) 110 = some (.invokevirtual 986, 543) := by decide +kernel
theorem at_541_113 : am_at (am_m 541) 113 = some (.ireturn, 0) := by decide +kernel
theorem at_541_114 : am_at (am_m 541) 114 = some (.iload_n 2, 0) := by decide +kernel
theorem at_541_115 : am_at (am_m 541) 115 = some (.bipush 12, 0) := by decide +kernel
theorem at_541_117 : am_at (am_m 541) 117 = some (.if_icmp .ne 26, 143) := by decide +kernel
theorem at_541_120 : am_at (am_m 541) 120 = some (.aload_n 0, 0) := by decide +kernel
theorem at_541_121 : am_at (am_m 541) 121 = some (.iload_n 3, 0) := by decide +kernel
theorem at_541_122 : am_at (am_m 541) 122 = some (.iconst 1, 0) := by decide +kernel
theorem at_541_123 : am_at (am_m 541) 123 = some (.invokevirtual 983, 542) := by decide +kernel
theorem at_541_126 : am_at (am_m 541) 126 = some (.ifCond .eq 17, 143) := by decide +kernel
theorem at_541_129 : am_at (am_m 541) 129 = some (.aload_n 0, 0) := by decide +kernel
theorem at_541_130 : am_at (am_m 541) 130 = some (.iload_n 1, 0) := by decide +kernel
theorem at_541_131 : am_at (am_m 541) 131 = some (.iload 4, 0) := by decide +kernel
theorem at_541_133 : am_at (am_m 541) 133 = some (.invokevirtual 986, 543) := by decide +kernel
theorem at_541_136 : am_at (am_m 541) 136 = some (.ifCond .eq 7, 143) := by decide +kernel
theorem at_541_139 : am_at (am_m 541) 139 = some (.iconst 1, 0) := by decide +kernel
theorem at_541_140 : am_at (am_m 541) 140 = some (.goto 4, 144) := by decide +kernel
theorem at_541_143 : am_at (am_m 541) 143 = some (.iconst 0, 0) := by decide +kernel
theorem at_541_144 : am_at (am_m 541) 144 = some (.ireturn, 0) := by decide +kernel
theorem at_542_0 : am_at (am_m 542) 0 = some (.aload_n 0, 0) := by decide +kernel
theorem at_542_1 : am_at (am_m 542) 1 = some (.getfield 51, 3093) := by decide +kernel
theorem at_542_4 : am_at (am_m 542) 4 = some (.iload_n 1, 0) := by decide +kernel
theorem at_542_5 : am_at (am_m 542) 5 = some (.iaload, 0) := by decide +kernel
theorem at_542_6 : am_at (am_m 542) 6 = some (.ifCond .ne 17, 23) := by decide +kernel
theorem at_542_9 : am_at (am_m 542) 9 = some (.aload_n 0, 0) := by decide +kernel
theorem at_542_10 : am_at (am_m 542) 10 = some (.getfield 54, 3094) := by decide +kernel
theorem at_542_13 : am_at (am_m 542) 13 = some (.iload_n 1, 0) := by decide +kernel
theorem at_542_14 : am_at (am_m 542) 14 = some (.iaload, 0) := by decide +kernel
theorem at_542_15 : am_at (am_m 542) 15 = some (.iload_n 2, 0) := by decide +kernel
theorem at_542_16 : am_at (am_m 542) 16 = some (.if_icmp .ne 7, 23) := by decide +kernel
theorem at_542_19 : am_at (am_m 542) 19 = some (.iconst 1, 0) := by decide +kernel
theorem at_542_20 : am_at (am_m 542) 20 = some (.goto 4, 24) := by decide +kernel
theorem at_542_23 : am_at (am_m 542) 23 = some (.iconst 0, 0) := by decide +kernel
theorem at_542_24 : am_at (am_m 542) 24 = some (.ireturn, 0) := by decide +kernel
theorem at_543_0 : am_at (am_m 543) 0 = some (.aload_n 0, 0) := by decide +kernel
theorem at_543_1 : am_at (am_m 543) 1 = some (.invokevirtual 753, 451) := by decide +kernel
theorem at_543_4 : am_at (am_m 543) 4 = some (.aload_n 0, 0) := by decide +kernel
theorem at_543_5 : am_at (am_m 543) 5 = some (.iconst 0, 0) := by decide +kernel
theorem at_543_6 : am_at (am_m 543) 6 = some (.iload_n 1, 0) := by decide +kernel
theorem at_543_7 : am_at (am_m 543) 7 = some (.invokevirtual 331, 443) := by decide +kernel
theorem at_543_10 : am_at (am_m 543) 10 = some (.aload_n 0, 0) := by decide +kernel
theorem at_543_11 : am_at (am_m 543) 11 = some (.iload_n 2, 0) := by decide +kernel
theorem at_543_12 : am_at (am_m 543) 12 = some (.iload_n 2, 0) := by decide +kernel
theorem at_543_13 : am_at (am_m 543) 13 = some (.aload_n 0, 0) := by decide +kernel
theorem at_543_14 : am_at (am_m 543) 14 = some (.getfield 63, 3098) := by decide +kernel
theorem at_543_17 : am_at (am_m 543) 17 = some (.iload_n 2, 0) := by decide +kernel
theorem at_543_18 : am_at (am_m 543) 18 = some (.iaload, 0) := by decide +kernel
theorem at_543_19 : am_at (am_m 543) 19 = some (.iadd, 0) := by decide +kernel
theorem at_543_20 : am_at (am_m 543) 20 = some (.invokevirtual 331, 443) := by decide +kernel
theorem at_543_23 : am_at (am_m 543) 23 = some (.aload_n 0, 0) := by decide +kernel
theorem at_543_24 : am_at (am_m 543) 24 = some (.iload_n 1, 0) := by decide +kernel
theorem at_543_25 : am_at (am_m 543) 25 = some (.aload_n 0, 0) := by decide +kernel
theorem at_543_26 : am_at (am_m 543) 26 = some (.getfield 63, 3098) := by decide +kernel
theorem at_543_29 : am_at (am_m 543) 29 = some (.iload_n 1, 0) := by decide +kernel
theorem at_543_30 : am_at (am_m 543) 30 = some (.iaload, 0) := by decide +kernel
theorem at_543_31 : am_at (am_m 543) 31 = some (.iadd, 0) := by decide +kernel
theorem at_543_32 : am_at (am_m 543) 32 = some (.aload_n 0, 0) := by decide +kernel
theorem at_543_33 : am_at (am_m 543) 33 = some (.getfield 315, 3090) := by decide +kernel
theorem at_543_36 : am_at (am_m 543) 36 = some (.invokevirtual 331, 443) := by decide +kernel
theorem at_543_39 : am_at (am_m 543) 39 = some (.iconst 1, 0) := by decide +kernel
theorem at_543_40 : am_at (am_m 543) 40 = some (.ireturn, 0) := by decide +kernel
theorem at_544_0 : am_at (am_m 544) 0 = some (.aload_n 0, 0) := by decide +kernel
theorem at_544_1 : am_at (am_m 544) 1 = some (.getfield 51, 3093) := by decide +kernel
theorem at_544_4 : am_at (am_m 544) 4 = some (.iload_n 1, 0) := by decide +kernel
theorem at_544_5 : am_at (am_m 544) 5 = some (.iaload, 0) := by decide +kernel
theorem at_544_6 : am_at (am_m 544) 6 = some (.istore_n 2, 0) := by decide +kernel
theorem at_544_7 : am_at (am_m 544) 7 = some (.iload_n 2, 0) := by decide +kernel
theorem at_544_8 : am_at (am_m 544) 8 = some (.bipush 7, 0) := by decide +kernel
theorem at_544_10 : am_at (am_m 544) 10 = some (.if_icmp .eq 9, 19) := by decide +kernel
theorem at_544_13 : am_at (am_m 544) 13 = some (.iload_n 2, 0) := by decide +kernel
theorem at_544_14 : am_at (am_m 544) 14 = some (.bipush 9, 0) := by decide +kernel
theorem at_544_16 : am_at (am_m 544) 16 = some (.if_icmp .ne 30, 46) := by decide +kernel
theorem at_544_19 : am_at (am_m 544) 19 = some (.aload_n 0, 0) := by decide +kernel
theorem at_544_20 : am_at (am_m 544) 20 = some (.getfield 51, 3093) := by decide +kernel
theorem at_544_23 : am_at (am_m 544) 23 = some (.iload_n 1, 0) := by decide +kernel
theorem at_544_24 : am_at (am_m 544) 24 = some (.iconst 1, 0) := by decide +kernel
theorem at_544_25 : am_at (am_m 544) 25 = some (.iadd, 0) := by decide +kernel
theorem at_544_26 : am_at (am_m 544) 26 = some (.iaload, 0) := by decide +kernel
theorem at_544_27 : am_at (am_m 544) 27 = some (.iload_n 2, 0) := by decide +kernel
theorem at_544_28 : am_at (am_m 544) 28 = some (.if_icmp .ne 18, 46) := by decide +kernel
theorem at_544_31 : am_at (am_m 544) 31 = some (.aload_n 0, 0) := by decide +kernel
theorem at_544_32 : am_at (am_m 544) 32 = some (.iload_n 1, 0) := by decide +kernel
theorem at_544_33 : am_at (am_m 544) 33 = some (.iload_n 1, 0) := by decide +kernel
theorem at_544_34 : am_at (am_m 544) 34 = some (.iconst 2, 0) := by decide +kernel
theorem at_544_35 : am_at (am_m 544) 35 = some (.iadd, 0) := by decide +kernel
theorem at_544_36 : am_at (am_m 544) 36 = some (.invokevirtual 986, 543) := by decide +kernel
theorem at_544_39 : am_at (am_m 544) 39 = some (.ifCond .eq 7, 46) := by decide +kernel
theorem at_544_42 : am_at (am_m 544) 42 = some (.iconst 1, 0) := by decide +kernel
theorem at_544_43 : am_at (am_m 544) 43 = some (.goto 4, 47) := by decide +kernel
theorem at_544_46 : am_at (am_m 544) 46 = some (.iconst 0, 0) := by decide +kernel
theorem at_544_47 : am_at (am_m 544) 47 = some (.ireturn, 0) := by decide +kernel
theorem at_545_0 : am_at (am_m 545) 0 = some (.iload_n 1, 0) := by decide +kernel
theorem at_545_1 : am_at (am_m 545) 1 = some (.iconst 1, 0) := by decide +kernel
theorem at_545_2 : am_at (am_m 545) 2 = some (.iadd, 0) := by decide +kernel
theorem at_545_3 : am_at (am_m 545) 3 = some (.istore_n 2, 0) := by decide +kernel
theorem at_545_4 : am_at (am_m 545) 4 = some (.aload_n 0, 0) := by decide +kernel
theorem at_545_5 : am_at (am_m 545) 5 = some (.getfield 51, 3093) := by decide +kernel
theorem at_545_8 : am_at (am_m 545) 8 = some (.iload_n 1, 0) := by decide +kernel
theorem at_545_9 : am_at (am_m 545) 9 = some (.iaload, 0) := by decide +kernel
theorem at_545_10 : am_at (am_m 545) 10 = some (.bipush 20, 0) := by decide +kernel
theorem at_545_12 : am_at (am_m 545) 12 = some (.if_icmp .ne 25, 37) := by decide +kernel
theorem at_545_15 : am_at (am_m 545) 15 = some (.aload_n 0, 0) := by decide +kernel
theorem at_545_16 : am_at (am_m 545) 16 = some (.getfield 51, 3093) := by decide +kernel
theorem at_545_19 : am_at (am_m 545) 19 = some (.iload_n 2, 0) := by decide +kernel
theorem at_545_20 : am_at (am_m 545) 20 = some (.iaload, 0) := by decide +kernel
theorem at_545_21 : am_at (am_m 545) 21 = some (.bipush 15, 0) := by decide +kernel
theorem at_545_23 : am_at (am_m 545) 23 = some (.if_icmp .eq 16, 39) := by decide +kernel
theorem at_545_26 : am_at (am_m 545) 26 = some (.aload_n 0, 0) := by decide +kernel
theorem at_545_27 : am_at (am_m 545) 27 = some (.getfield 51, 3093) := by decide +kernel
theorem at_545_30 : am_at (am_m 545) 30 = some (.iload_n 2, 0) := by decide +kernel
theorem at_545_31 : am_at (am_m 545) 31 = some (.iaload, 0) := by decide +kernel
theorem at_545_32 : am_at (am_m 545) 32 = some (.bipush 16, 0) := by decide +kernel
theorem at_545_34 : am_at (am_m 545) 34 = some (.if_icmp .eq 5, 39) := by decide +kernel
theorem at_545_37 : am_at (am_m 545) 37 = some (.iconst 0, 0) := by decide +kernel
theorem at_545_38 : am_at (am_m 545) 38 = some (.ireturn, 0) := by decide +kernel
theorem at_545_39 : am_at (am_m 545) 39 = some (.iload_n 2, 0) := by decide +kernel
theorem at_545_40 : am_at (am_m 545) 40 = some (.iconst 1, 0) := by decide +kernel
theorem at_545_41 : am_at (am_m 545) 41 = some (.iadd, 0) := by decide +kernel
theorem at_545_42 : am_at (am_m 545) 42 = some (.istore_n 3, 0) := by decide +kernel
theorem at_545_43 : am_at (am_m 545) 43 = some (.aload_n 0, 0) := by decide +kernel
theorem at_545_44 : am_at (am_m 545) 44 = some (.iload_n 2, 0) := by decide +kernel
theorem at_545_45 : am_at (am_m 545) 45 = some (.iconst 1, 0) := by decide +kernel
theorem at_545_46 : am_at (am_m 545) 46 = some (.invokevirtual 642, 393) := by decide +kernel
theorem at_545_49 : am_at (am_m 545) 49 = some (.istore 4, 0) := by decide +kernel
theorem at_545_51 : am_at (am_m 545) 51 = some (.aload_n 0, 0) := by decide +kernel
theorem at_545_52 : am_at (am_m 545) 52 = some (.getfield 51, 3093) := by decide +kernel
theorem at_545_55 : am_at (am_m 545) 55 = some (.iload_n 3, 0) := by decide +kernel
theorem at_545_56 : am_at (am_m 545) 56 = some (.iaload, 0) := by decide +kernel
theorem at_545_57 : am_at (am_m 545) 57 = some (.ifCond .ne 13, 70) := by decide +kernel
theorem at_545_60 : am_at (am_m 545) 60 = some (.aload_n 0, 0) := by decide +kernel
theorem at_545_61 : am_at (am_m 545) 61 = some (.getfield 51, 3093) := by decide +kernel
theorem at_545_64 : am_at (am_m 545) 64 = some (.iload 4, 0) := by decide +kernel
theorem at_545_66 : am_at (am_m 545) 66 = some (.iaload, 0) := by decide +kernel
theorem at_545_67 : am_at (am_m 545) 67 = some (.ifCond .eq 5, 72) := by decide +kernel
theorem at_545_70 : am_at (am_m 545) 70 = some (.iconst 0, 0) := by decide +kernel
theorem at_545_71 : am_at (am_m 545) 71 = some (.ireturn, 0) := by decide +kernel
theorem at_545_72 : am_at (am_m 545) 72 = some (.aload_n 0, 0) := by decide +kernel
theorem at_545_73 : am_at (am_m 545) 73 = some (.getfield 51, 3093) := by decide +kernel
theorem at_545_76 : am_at (am_m 545) 76 = some (.iload_n 2, 0) := by decide +kernel
theorem at_545_77 : am_at (am_m 545) 77 = some (.iaload, 0) := by decide +kernel
theorem at_545_78 : am_at (am_m 545) 78 = some (.bipush 15, 0) := by decide +kernel
theorem at_545_80 : am_at (am_m 545) 80 = some (.if_icmp .ne 27, 107) := by decide +kernel
theorem at_545_83 : am_at (am_m 545) 83 = some (.aload_n 0, 0) := by decide +kernel
theorem at_545_84 : am_at (am_m 545) 84 = some (.getfield 54, 3094) := by decide +kernel
theorem at_545_87 : am_at (am_m 545) 87 = some (.iload_n 3, 0) := by decide +kernel
theorem at_545_88 : am_at (am_m 545) 88 = some (.iaload, 0) := by decide +kernel
theorem at_545_89 : am_at (am_m 545) 89 = some (.aload_n 0, 0) := by decide +kernel
theorem at_545_90 : am_at (am_m 545) 90 = some (.getfield 54, 3094) := by decide +kernel
theorem at_545_93 : am_at (am_m 545) 93 = some (.iload 4, 0) := by decide +kernel
theorem at_545_95 : am_at (am_m 545) 95 = some (.iaload, 0) := by decide +kernel
theorem at_545_96 : am_at (am_m 545) 96 = some (.if_icmp .ge 7, 103) := by decide +kernel
theorem at_545_99 : am_at (am_m 545) 99 = some (.iconst 1, 0) := by decide +kernel
theorem at_545_100 : am_at (am_m 545) 100 = some (.goto 28, 128) := by decide +kernel
theorem at_545_103 : am_at (am_m 545) 103 = some (.iconst 0, 0) := by decide +kernel
theorem at_545_104 : am_at (am_m 545) 104 = some (.goto 24, 128) := by decide +kernel
theorem at_545_107 : am_at (am_m 545) 107 = some (.aload_n 0, 0) := by decide +kernel
theorem at_545_108 : am_at (am_m 545) 108 = some (.getfield 54, 3094) := by decide +kernel
theorem at_545_111 : am_at (am_m 545) 111 = some (.iload_n 3, 0) := by decide +kernel
theorem at_545_112 : am_at (am_m 545) 112 = some (.iaload, 0) := by decide +kernel
theorem at_545_113 : am_at (am_m 545) 113 = some (.aload_n 0, 0) := by decide +kernel
theorem at_545_114 : am_at (am_m 545) 114 = some (.getfield 54, 3094) := by decide +kernel
theorem at_545_117 : am_at (am_m 545) 117 = some (.iload 4, 0) := by decide +kernel
theorem at_545_119 : am_at (am_m 545) 119 = some (.iaload, 0) := by decide +kernel
theorem at_545_120 : am_at (am_m 545) 120 = some (.if_icmp .ne 7, 127) := by decide +kernel
theorem at_545_123 : am_at (am_m 545) 123 = some (.iconst 1, 0) := by decide +kernel
theorem at_545_124 : am_at (am_m 545) 124 = some (.goto 4, 128) := by decide +kernel
theorem at_545_127 : am_at (am_m 545) 127 = some (.iconst 0, 0) := by decide +kernel
theorem at_545_128 : am_at (am_m 545) 128 = some (.istore 5, 0) := by decide +kernel
theorem at_545_130 : am_at (am_m 545) 130 = some (.aload_n 0, 0) := by decide +kernel
theorem at_545_131 : am_at (am_m 545) 131 = some (.iload_n 1, 0) := by decide +kernel
theorem at_545_132 : am_at (am_m 545) 132 = some (.aload_n 0, 0) := by decide +kernel
theorem at_545_133 : am_at (am_m 545) 133 = some (.iload_n 1, 0) := by decide +kernel
theorem at_545_134 : am_at (am_m 545) 134 = some (.iload 5, 0) := by decide +kernel
theorem at_545_136 : am_at (am_m 545) 136 = some (.ifCond .eq 7, 143) := by decide +kernel
theorem at_545_139 : am_at (am_m 545) 139 = some (.iconst 1, 0) := by decide +kernel
theorem at_545_140 : am_at (am_m 545) 140 = some (.goto 4, 144) := by decide +kernel
theorem at_545_143 : am_at (am_m 545) 143 = some (.iconst 2, 0) := by decide +kernel
theorem at_545_144 : am_at (am_m 545) 144 = some (.invokevirtual 642, 393) := by decide +kernel
theorem at_545_147 : am_at (am_m 545) 147 = some (.invokevirtual 986, 543) := by decide +kernel
theorem at_545_150 : am_at (am_m 545) 150 = some (.ireturn, 0) := by decide +kernel
theorem at_546_0 : am_at (am_m 546) 0 = some (.aload_n 0, 0) := by decide +kernel
theorem at_546_1 : am_at (am_m 546) 1 = some (.getfield 51, 3093) := by decide +kernel
theorem at_546_4 : am_at (am_m 546) 4 = some (.iload_n 1, 0) := by decide +kernel
theorem at_546_5 : am_at (am_m 546) 5 = some (.iaload, 0) := by decide +kernel
theorem at_546_6 : am_at (am_m 546) 6 = some (.bipush 20, 0) := by decide +kernel
theorem at_546_8 : am_at (am_m 546) 8 = some (.if_icmp .ne 50, 58) := by decide +kernel
theorem at_546_11 : am_at (am_m 546) 11 = some (.aload_n 0, 0) := by decide +kernel
theorem at_546_12 : am_at (am_m 546) 12 = some (.iload_n 1, 0) := by decide +kernel
theorem at_546_13 : am_at (am_m 546) 13 = some (.iconst 1, 0) := by decide +kernel
theorem at_546_14 : am_at (am_m 546) 14 = some (.iadd, 0) := by decide +kernel
theorem at_546_15 : am_at (am_m 546) 15 = some (.invokevirtual 989, 547) := by decide +kernel
theorem at_546_18 : am_at (am_m 546) 18 = some (.ifCond .eq 40, 58) := by decide +kernel
theorem at_546_21 : am_at (am_m 546) 21 = some (.aload_n 0, 0) := by decide +kernel
theorem at_546_22 : am_at (am_m 546) 22 = some (.aload_n 0, 0) := by decide +kernel
theorem at_546_23 : am_at (am_m 546) 23 = some (.iload_n 1, 0) := by decide +kernel
theorem at_546_24 : am_at (am_m 546) 24 = some (.iconst 1, 0) := by decide +kernel
theorem at_546_25 : am_at (am_m 546) 25 = some (.invokevirtual 642, 393) := by decide +kernel
theorem at_546_28 : am_at (am_m 546) 28 = some (.aload_n 0, 0) := by decide +kernel
theorem at_546_29 : am_at (am_m 546) 29 = some (.iload_n 1, 0) := by decide +kernel
theorem at_546_30 : am_at (am_m 546) 30 = some (.iconst 2, 0) := by decide +kernel
theorem at_546_31 : am_at (am_m 546) 31 = some (.invokevirtual 642, 393) := by decide +kernel
theorem at_546_34 : am_at (am_m 546) 34 = some (.invokevirtual 992, 548) := by decide +kernel
theorem at_546_37 : am_at (am_m 546) 37 = some (.ifCond .eq 21, 58) := by decide +kernel
theorem at_546_40 : am_at (am_m 546) 40 = some (.aload_n 0, 0) := by decide +kernel
theorem at_546_41 : am_at (am_m 546) 41 = some (.iload_n 1, 0) := by decide +kernel
theorem at_546_42 : am_at (am_m 546) 42 = some (.aload_n 0, 0) := by decide +kernel
theorem at_546_43 : am_at (am_m 546) 43 = some (.iload_n 1, 0) := by decide +kernel
theorem at_546_44 : am_at (am_m 546) 44 = some (.iconst 1, 0) := by decide +kernel
theorem at_546_45 : am_at (am_m 546) 45 = some (.invokevirtual 642, 393) := by decide +kernel
theorem at_546_48 : am_at (am_m 546) 48 = some (.invokevirtual 986, 543) := by decide +kernel
theorem at_546_51 : am_at (am_m 546) 51 = some (.ifCond .eq 7, 58) := by decide +kernel
theorem at_546_54 : am_at (am_m 546) 54 = some (.iconst 1, 0) := by decide +kernel
theorem at_546_55 : am_at (am_m 546) 55 = some (.goto 4, 59) := by decide +kernel
theorem at_546_58 : am_at (am_m 546) 58 = some (.iconst 0, 0) := by decide +kernel
theorem at_546_59 : am_at (am_m 546) 59 = some (.ireturn, 0) := by decide +kernel
theorem at_547_0 : am_at (am_m 547) 0 = some (.iconst 1, 0) := by decide +kernel
theorem at_547_1 : am_at (am_m 547) 1 = some (.istore_n 2, 0) := by decide +kernel
theorem at_547_2 : am_at (am_m 547) 2 = some (.iload_n 1, 0) := by decide +kernel
theorem at_547_3 : am_at (am_m 547) 3 = some (.istore_n 3, 0) := by decide +kernel
theorem at_547_4 : am_at (am_m 547) 4 = some (.iload_n 3, 0) := by decide +kernel
theorem at_547_5 : am_at (am_m 547) 5 = some (.iload_n 1, 0) := by decide +kernel
theorem at_547_6 : am_at (am_m 547) 6 = some (.aload_n 0, 0) := by decide +kernel
theorem at_547_7 : am_at (am_m 547) 7 = some (.getfield 63, 3098) := by decide +kernel
theorem at_547_10 : am_at (am_m 547) 10 = some (.iload_n 1, 0) := by decide +kernel
theorem at_547_11 : am_at (am_m 547) 11 = some (.iaload, 0) := by decide +kernel
theorem at_547_12 : am_at (am_m 547) 12 = some (.iadd, 0) := by decide +kernel
theorem at_547_13 : am_at (am_m 547) 13 = some (.if_icmp .ge 63, 76) := by decide +kernel
theorem at_547_16 : am_at (am_m 547) 16 = some (.iload_n 2, 0) := by decide +kernel
theorem at_547_17 : am_at (am_m 547) 17 = some (.ifCond .eq 51, 68) := by decide +kernel
theorem at_547_20 : am_at (am_m 547) 20 = some (.aload_n 0, 0) := by decide +kernel
theorem at_547_21 : am_at (am_m 547) 21 = some (.getfield 51, 3093) := by decide +kernel
theorem at_547_24 : am_at (am_m 547) 24 = some (.iload_n 3, 0) := by decide +kernel
theorem at_547_25 : am_at (am_m 547) 25 = some (.iaload, 0) := by decide +kernel
theorem at_547_26 : am_at (am_m 547) 26 = some (.bipush 13, 0) := by decide +kernel
theorem at_547_28 : am_at (am_m 547) 28 = some (.if_icmp .eq 40, 68) := by decide +kernel
theorem at_547_31 : am_at (am_m 547) 31 = some (.aload_n 0, 0) := by decide +kernel
theorem at_547_32 : am_at (am_m 547) 32 = some (.getfield 51, 3093) := by decide +kernel
theorem at_547_35 : am_at (am_m 547) 35 = some (.iload_n 3, 0) := by decide +kernel
theorem at_547_36 : am_at (am_m 547) 36 = some (.iaload, 0) := by decide +kernel
theorem at_547_37 : am_at (am_m 547) 37 = some (.bipush 14, 0) := by decide +kernel
theorem at_547_39 : am_at (am_m 547) 39 = some (.if_icmp .eq 29, 68) := by decide +kernel
theorem at_547_42 : am_at (am_m 547) 42 = some (.aload_n 0, 0) := by decide +kernel
theorem at_547_43 : am_at (am_m 547) 43 = some (.getfield 51, 3093) := by decide +kernel
theorem at_547_46 : am_at (am_m 547) 46 = some (.iload_n 3, 0) := by decide +kernel
theorem at_547_47 : am_at (am_m 547) 47 = some (.iaload, 0) := by decide +kernel
theorem at_547_48 : am_at (am_m 547) 48 = some (.bipush 8, 0) := by decide +kernel
theorem at_547_50 : am_at (am_m 547) 50 = some (.if_icmp .eq 18, 68) := by decide +kernel
theorem at_547_53 : am_at (am_m 547) 53 = some (.aload_n 0, 0) := by decide +kernel
theorem at_547_54 : am_at (am_m 547) 54 = some (.getfield 51, 3093) := by decide +kernel
theorem at_547_57 : am_at (am_m 547) 57 = some (.iload_n 3, 0) := by decide +kernel
theorem at_547_58 : am_at (am_m 547) 58 = some (.iaload, 0) := by decide +kernel
theorem at_547_59 : am_at (am_m 547) 59 = some (.bipush 19, 0) := by decide +kernel
theorem at_547_61 : am_at (am_m 547) 61 = some (.if_icmp .eq 7, 68) := by decide +kernel
theorem at_547_64 : am_at (am_m 547) 64 = some (.iconst 1, 0) := by decide +kernel
theorem at_547_65 : am_at (am_m 547) 65 = some (.goto 4, 69) := by decide +kernel
theorem at_547_68 : am_at (am_m 547) 68 = some (.iconst 0, 0) := by decide +kernel
theorem at_547_69 : am_at (am_m 547) 69 = some (.istore_n 2, 0) := by decide +kernel
theorem at_547_70 : am_at (am_m 547) 70 = some (.iinc 3 1, 0) := by decide +kernel
theorem at_547_73 : am_at (am_m 547) 73 = some (.goto (-69), 4) := by decide +kernel
theorem at_547_76 : am_at (am_m 547) 76 = some (.iload_n 2, 0) := by decide +kernel
theorem at_547_77 : am_at (am_m 547) 77 = some (.ireturn, 0) := by decide +kernel
theorem at_548_0 : am_at (am_m 548) 0 = some (.aload_n 0, 0) := by decide +kernel
theorem at_548_1 : am_at (am_m 548) 1 = some (.getfield 63, 3098) := by decide +kernel
theorem at_548_4 : am_at (am_m 548) 4 = some (.iload_n 1, 0) := by decide +kernel
theorem at_548_5 : am_at (am_m 548) 5 = some (.iaload, 0) := by decide +kernel
theorem at_548_6 : am_at (am_m 548) 6 = some (.aload_n 0, 0) := by decide +kernel
theorem at_548_7 : am_at (am_m 548) 7 = some (.getfield 63, 3098) := by decide +kernel
theorem at_548_10 : am_at (am_m 548) 10 = some (.iload_n 2, 0) := by decide +kernel
theorem at_548_11 : am_at (am_m 548) 11 = some (.iaload, 0) := by decide +kernel
theorem at_548_12 : am_at (am_m 548) 12 = some (.if_icmp .ne 7, 19) := by decide +kernel
theorem at_548_15 : am_at (am_m 548) 15 = some (.iconst 1, 0) := by decide +kernel
theorem at_548_16 : am_at (am_m 548) 16 = some (.goto 4, 20) := by decide +kernel
theorem at_548_19 : am_at (am_m 548) 19 = some (.iconst 0, 0) := by decide +kernel
theorem at_548_20 : am_at (am_m 548) 20 = some (.istore_n 3, 0) := by decide +kernel
theorem at_548_21 : am_at (am_m 548) 21 = some (.iconst 0, 0) := by decide +kernel
theorem at_548_22 : am_at (am_m 548) 22 = some (.istore 4, 0) := by decide +kernel
theorem at_548_24 : am_at (am_m 548) 24 = some (.iload 4, 0) := by decide +kernel
theorem at_548_26 : am_at (am_m 548) 26 = some (.aload_n 0, 0) := by decide +kernel
theorem at_548_27 : am_at (am_m 548) 27 = some (.getfield 63, 3098) := by decide +kernel
theorem at_548_30 : am_at (am_m 548) 30 = some (.iload_n 1, 0) := by decide +kernel
theorem at_548_31 : am_at (am_m 548) 31 = some (.iaload, 0) := by decide +kernel
theorem at_548_32 : am_at (am_m 548) 32 = some (.if_icmp .ge 61, 93) := by decide +kernel
theorem at_548_35 : am_at (am_m 548) 35 = some (.iload_n 3, 0) := by decide +kernel
theorem at_548_36 : am_at (am_m 548) 36 = some (.ifCond .eq 57, 93) := by decide +kernel
theorem at_548_39 : am_at (am_m 548) 39 = some (.aload_n 0, 0) := by decide +kernel
theorem at_548_40 : am_at (am_m 548) 40 = some (.getfield 51, 3093) := by decide +kernel
theorem at_548_43 : am_at (am_m 548) 43 = some (.iload_n 1, 0) := by decide +kernel
theorem at_548_44 : am_at (am_m 548) 44 = some (.iload 4, 0) := by decide +kernel
theorem at_548_46 : am_at (am_m 548) 46 = some (.iadd, 0) := by decide +kernel
theorem at_548_47 : am_at (am_m 548) 47 = some (.iaload, 0) := by decide +kernel
theorem at_548_48 : am_at (am_m 548) 48 = some (.aload_n 0, 0) := by decide +kernel
theorem at_548_49 : am_at (am_m 548) 49 = some (.getfield 51, 3093) := by decide +kernel
theorem at_548_52 : am_at (am_m 548) 52 = some (.iload_n 2, 0) := by decide +kernel
theorem at_548_53 : am_at (am_m 548) 53 = some (.iload 4, 0) := by decide +kernel
theorem at_548_55 : am_at (am_m 548) 55 = some (.iadd, 0) := by decide +kernel
theorem at_548_56 : am_at (am_m 548) 56 = some (.iaload, 0) := by decide +kernel
theorem at_548_57 : am_at (am_m 548) 57 = some (.if_icmp .ne 28, 85) := by decide +kernel
theorem at_548_60 : am_at (am_m 548) 60 = some (.aload_n 0, 0) := by decide +kernel
theorem at_548_61 : am_at (am_m 548) 61 = some (.getfield 54, 3094) := by decide +kernel
theorem at_548_64 : am_at (am_m 548) 64 = some (.iload_n 1, 0) := by decide +kernel
theorem at_548_65 : am_at (am_m 548) 65 = some (.iload 4, 0) := by decide +kernel
theorem at_548_67 : am_at (am_m 548) 67 = some (.iadd, 0) := by decide +kernel
theorem at_548_68 : am_at (am_m 548) 68 = some (.iaload, 0) := by decide +kernel
theorem at_548_69 : am_at (am_m 548) 69 = some (.aload_n 0, 0) := by decide +kernel
theorem at_548_70 : am_at (am_m 548) 70 = some (.getfield 54, 3094) := by decide +kernel
theorem at_548_73 : am_at (am_m 548) 73 = some (.iload_n 2, 0) := by decide +kernel
theorem at_548_74 : am_at (am_m 548) 74 = some (.iload 4, 0) := by decide +kernel
theorem at_548_76 : am_at (am_m 548) 76 = some (.iadd, 0) := by decide +kernel
theorem at_548_77 : am_at (am_m 548) 77 = some (.iaload, 0) := by decide +kernel
theorem at_548_78 : am_at (am_m 548) 78 = some (.if_icmp .ne 7, 85) := by decide +kernel
theorem at_548_81 : am_at (am_m 548) 81 = some (.iconst 1, 0) := by decide +kernel
theorem at_548_82 : am_at (am_m 548) 82 = some (.goto 4, 86) := by decide +kernel
theorem at_548_85 : am_at (am_m 548) 85 = some (.iconst 0, 0) := by decide +kernel
theorem at_548_86 : am_at (am_m 548) 86 = some (.istore_n 3, 0) := by decide +kernel
theorem at_548_87 : am_at (am_m 548) 87 = some (.iinc 4 1, 0) := by decide +kernel
theorem at_548_90 : am_at (am_m 548) 90 = some (.goto (-66), 24) := by decide +kernel
theorem at_548_93 : am_at (am_m 548) 93 = some (.iload_n 3, 0) := by decide +kernel
theorem at_548_94 : am_at (am_m 548) 94 = some (.ireturn, 0) := by decide +kernel
theorem at_549_0 : am_at (am_m 549) 0 = some (.iload_n 1, 0) := by decide +kernel
theorem at_549_1 : am_at (am_m 549) 1 = some (.iconst 1, 0) := by decide +kernel
theorem at_549_2 : am_at (am_m 549) 2 = some (.iadd, 0) := by decide +kernel
theorem at_549_3 : am_at (am_m 549) 3 = some (.istore_n 2, 0) := by decide +kernel
theorem at_549_4 : am_at (am_m 549) 4 = some (.aload_n 0, 0) := by decide +kernel
theorem at_549_5 : am_at (am_m 549) 5 = some (.getfield 51, 3093) := by decide +kernel
theorem at_549_8 : am_at (am_m 549) 8 = some (.iload_n 1, 0) := by decide +kernel
theorem at_549_9 : am_at (am_m 549) 9 = some (.iaload, 0) := by decide +kernel
theorem at_549_10 : am_at (am_m 549) 10 = some (.bipush 11, 0) := by decide +kernel
theorem at_549_12 : am_at (am_m 549) 12 = some (.if_icmp .ne 40, 52) := by decide +kernel
theorem at_549_15 : am_at (am_m 549) 15 = some (.aload_n 0, 0) := by decide +kernel
theorem at_549_16 : am_at (am_m 549) 16 = some (.iload_n 2, 0) := by decide +kernel
theorem at_549_17 : am_at (am_m 549) 17 = some (.invokevirtual 989, 547) := by decide +kernel
theorem at_549_20 : am_at (am_m 549) 20 = some (.ifCond .eq 30, 50) := by decide +kernel
theorem at_549_23 : am_at (am_m 549) 23 = some (.aload_n 0, 0) := by decide +kernel
theorem at_549_24 : am_at (am_m 549) 24 = some (.iload_n 2, 0) := by decide +kernel
theorem at_549_25 : am_at (am_m 549) 25 = some (.aload_n 0, 0) := by decide +kernel
theorem at_549_26 : am_at (am_m 549) 26 = some (.iload_n 1, 0) := by decide +kernel
theorem at_549_27 : am_at (am_m 549) 27 = some (.iconst 1, 0) := by decide +kernel
theorem at_549_28 : am_at (am_m 549) 28 = some (.invokevirtual 642, 393) := by decide +kernel
theorem at_549_31 : am_at (am_m 549) 31 = some (.invokevirtual 992, 548) := by decide +kernel
theorem at_549_34 : am_at (am_m 549) 34 = some (.ifCond .eq 16, 50) := by decide +kernel
theorem at_549_37 : am_at (am_m 549) 37 = some (.aload_n 0, 0) := by decide +kernel
theorem at_549_38 : am_at (am_m 549) 38 = some (.iload_n 1, 0) := by decide +kernel
theorem at_549_39 : am_at (am_m 549) 39 = some (.iconst 0, 0) := by decide +kernel
theorem at_549_40 : am_at (am_m 549) 40 = some (.invokevirtual 980, 540) := by decide +kernel
theorem at_549_43 : am_at (am_m 549) 43 = some (.ifCond .eq 7, 50) := by decide +kernel
theorem at_549_46 : am_at (am_m 549) 46 = some (.iconst 1, 0) := by decide +kernel
theorem at_549_47 : am_at (am_m 549) 47 = some (.goto 4, 51) := by decide +kernel
theorem at_549_50 : am_at (am_m 549) 50 = some (.iconst 0, 0) := by decide +kernel
theorem at_549_51 : am_at (am_m 549) 51 = some (.ireturn, 0) := by decide +kernel
theorem at_549_52 : am_at (am_m 549) 52 = some (.aload_n 0, 0) := by decide +kernel
theorem at_549_53 : am_at (am_m 549) 53 = some (.getfield 51, 3093) := by decide +kernel
theorem at_549_56 : am_at (am_m 549) 56 = some (.iload_n 1, 0) := by decide +kernel
theorem at_549_57 : am_at (am_m 549) 57 = some (.iaload, 0) := by decide +kernel
theorem at_549_58 : am_at (am_m 549) 58 = some (.bipush 20, 0) := by decide +kernel
theorem at_549_60 : am_at (am_m 549) 60 = some (.if_icmp .ne 25, 85) := by decide +kernel
theorem at_549_63 : am_at (am_m 549) 63 = some (.aload_n 0, 0) := by decide +kernel
theorem at_549_64 : am_at (am_m 549) 64 = some (.getfield 51, 3093) := by decide +kernel
theorem at_549_67 : am_at (am_m 549) 67 = some (.iload_n 2, 0) := by decide +kernel
theorem at_549_68 : am_at (am_m 549) 68 = some (.iaload, 0) := by decide +kernel
theorem at_549_69 : am_at (am_m 549) 69 = some (.bipush 15, 0) := by decide +kernel
theorem at_549_71 : am_at (am_m 549) 71 = some (.if_icmp .eq 16, 87) := by decide +kernel
theorem at_549_74 : am_at (am_m 549) 74 = some (.aload_n 0, 0) := by decide +kernel
theorem at_549_75 : am_at (am_m 549) 75 = some (.getfield 51, 3093) := by decide +kernel
theorem at_549_78 : am_at (am_m 549) 78 = some (.iload_n 2, 0) := by decide +kernel
theorem at_549_79 : am_at (am_m 549) 79 = some (.iaload, 0) := by decide +kernel
theorem at_549_80 : am_at (am_m 549) 80 = some (.bipush 16, 0) := by decide +kernel
theorem at_549_82 : am_at (am_m 549) 82 = some (.if_icmp .eq 5, 87) := by decide +kernel
theorem at_549_85 : am_at (am_m 549) 85 = some (.iconst 0, 0) := by decide +kernel
theorem at_549_86 : am_at (am_m 549) 86 = some (.ireturn, 0) := by decide +kernel
theorem at_549_87 : am_at (am_m 549) 87 = some (.aload_n 0, 0) := by decide +kernel
theorem at_549_88 : am_at (am_m 549) 88 = some (.iload_n 2, 0) := by decide +kernel
theorem at_549_89 : am_at (am_m 549) 89 = some (.iconst 1, 0) := by decide +kernel
theorem at_549_90 : am_at (am_m 549) 90 = some (.iadd, 0) := by decide +kernel
theorem at_549_91 : am_at (am_m 549) 91 = some (.invokevirtual 989, 547) := by decide +kernel
theorem at_549_94 : am_at (am_m 549) 94 = some (.ifCond .eq 52, 146) := by decide +kernel
theorem at_549_97 : am_at (am_m 549) 97 = some (.aload_n 0, 0) := by decide +kernel
theorem at_549_98 : am_at (am_m 549) 98 = some (.iload_n 2, 0) := by decide +kernel
theorem at_549_99 : am_at (am_m 549) 99 = some (.iconst 1, 0) := by decide +kernel
theorem at_549_100 : am_at (am_m 549) 100 = some (.iadd, 0) := by decide +kernel
theorem at_549_101 : am_at (am_m 549) 101 = some (.aload_n 0, 0) := by decide +kernel
theorem at_549_102 : am_at (am_m 549) 102 = some (.iload_n 2, 0) := by decide +kernel
theorem at_549_103 : am_at (am_m 549) 103 = some (.iconst 1, 0) := by decide +kernel
theorem at_549_104 : am_at (am_m 549) 104 = some (.invokevirtual 642, 393) := by decide +kernel
theorem at_549_107 : am_at (am_m 549) 107 = some (.invokevirtual 992, 548) := by decide +kernel
theorem at_549_110 : am_at (am_m 549) 110 = some (.ifCond .eq 36, 146) := by decide +kernel
theorem at_549_113 : am_at (am_m 549) 113 = some (.aload_n 0, 0) := by decide +kernel
theorem at_549_114 : am_at (am_m 549) 114 = some (.iload_n 1, 0) := by decide +kernel
theorem at_549_115 : am_at (am_m 549) 115 = some (.aload_n 0, 0) := by decide +kernel
theorem at_549_116 : am_at (am_m 549) 116 = some (.iload_n 1, 0) := by decide +kernel
theorem at_549_117 : am_at (am_m 549) 117 = some (.aload_n 0, 0) := by decide +kernel
theorem at_549_118 : am_at (am_m 549) 118 = some (.getfield 51, 3093) := by decide +kernel
theorem at_549_121 : am_at (am_m 549) 121 = some (.iload_n 2, 0) := by decide +kernel
theorem at_549_122 : am_at (am_m 549) 122 = some (.iaload, 0) := by decide +kernel
theorem at_549_123 : am_at (am_m 549) 123 = some (.bipush 16, 0) := by decide +kernel
theorem at_549_125 : am_at (am_m 549) 125 = some (.if_icmp .ne 7, 132) := by decide +kernel
theorem at_549_128 : am_at (am_m 549) 128 = some (.iconst 1, 0) := by decide +kernel
theorem at_549_129 : am_at (am_m 549) 129 = some (.goto 4, 133) := by decide +kernel
theorem at_549_132 : am_at (am_m 549) 132 = some (.iconst 2, 0) := by decide +kernel
theorem at_549_133 : am_at (am_m 549) 133 = some (.invokevirtual 642, 393) := by decide +kernel
theorem at_549_136 : am_at (am_m 549) 136 = some (.invokevirtual 986, 543) := by decide +kernel
theorem at_549_139 : am_at (am_m 549) 139 = some (.ifCond .eq 7, 146) := by decide +kernel
theorem at_549_142 : am_at (am_m 549) 142 = some (.iconst 1, 0) := by decide +kernel
theorem at_549_143 : am_at (am_m 549) 143 = some (.goto 4, 147) := by decide +kernel
theorem at_549_146 : am_at (am_m 549) 146 = some (.iconst 0, 0) := by decide +kernel
theorem at_549_147 : am_at (am_m 549) 147 = some (.ireturn, 0) := by decide +kernel
theorem at_550_0 : am_at (am_m 550) 0 = some (.iload_n 1, 0) := by decide +kernel
theorem at_550_1 : am_at (am_m 550) 1 = some (.iconst 1, 0) := by decide +kernel
theorem at_550_2 : am_at (am_m 550) 2 = some (.iadd, 0) := by decide +kernel
theorem at_550_3 : am_at (am_m 550) 3 = some (.istore_n 2, 0) := by decide +kernel
theorem at_550_4 : am_at (am_m 550) 4 = some (.aload_n 0, 0) := by decide +kernel
theorem at_550_5 : am_at (am_m 550) 5 = some (.getfield 51, 3093) := by decide +kernel
theorem at_550_8 : am_at (am_m 550) 8 = some (.iload_n 1, 0) := by decide +kernel
theorem at_550_9 : am_at (am_m 550) 9 = some (.iaload, 0) := by decide +kernel
theorem at_550_10 : am_at (am_m 550) 10 = some (.bipush 20, 0) := by decide +kernel
theorem at_550_12 : am_at (am_m 550) 12 = some (.if_icmp .ne 14, 26) := by decide +kernel
theorem at_550_15 : am_at (am_m 550) 15 = some (.aload_n 0, 0) := by decide +kernel
theorem at_550_16 : am_at (am_m 550) 16 = some (.getfield 51, 3093) := by decide +kernel
theorem at_550_19 : am_at (am_m 550) 19 = some (.iload_n 2, 0) := by decide +kernel
theorem at_550_20 : am_at (am_m 550) 20 = some (.iaload, 0) := by decide +kernel
theorem at_550_21 : am_at (am_m 550) 21 = some (.bipush 9, 0) := by decide +kernel
theorem at_550_23 : am_at (am_m 550) 23 = some (.if_icmp .eq 5, 28) := by decide +kernel
theorem at_550_26 : am_at (am_m 550) 26 = some (.iconst 0, 0) := by decide +kernel
theorem at_550_27 : am_at (am_m 550) 27 = some (.ireturn, 0) := by decide +kernel
theorem at_550_28 : am_at (am_m 550) 28 = some (.aload_n 0, 0) := by decide +kernel
theorem at_550_29 : am_at (am_m 550) 29 = some (.iload_n 1, 0) := by decide +kernel
theorem at_550_30 : am_at (am_m 550) 30 = some (.iconst 1, 0) := by decide +kernel
theorem at_550_31 : am_at (am_m 550) 31 = some (.invokevirtual 642, 393) := by decide +kernel
theorem at_550_34 : am_at (am_m 550) 34 = some (.istore_n 3, 0) := by decide +kernel
theorem at_550_35 : am_at (am_m 550) 35 = some (.aload_n 0, 0) := by decide +kernel
theorem at_550_36 : am_at (am_m 550) 36 = some (.iload_n 1, 0) := by decide +kernel
theorem at_550_37 : am_at (am_m 550) 37 = some (.iconst 2, 0) := by decide +kernel
theorem at_550_38 : am_at (am_m 550) 38 = some (.invokevirtual 642, 393) := by decide +kernel
theorem at_550_41 : am_at (am_m 550) 41 = some (.istore 4, 0) := by decide +kernel
theorem at_550_43 : am_at (am_m 550) 43 = some (.aload_n 0, 0) := by decide +kernel
theorem at_550_44 : am_at (am_m 550) 44 = some (.invokevirtual 753, 451) := by decide +kernel
theorem at_550_47 : am_at (am_m 550) 47 = some (.aload_n 0, 0) := by decide +kernel
theorem at_550_48 : am_at (am_m 550) 48 = some (.iconst 0, 0) := by decide +kernel
theorem at_550_49 : am_at (am_m 550) 49 = some (.iload_n 1, 0) := by decide +kernel
theorem at_550_50 : am_at (am_m 550) 50 = some (.iconst 1, 0) := by decide +kernel
theorem at_550_51 : am_at (am_m 550) 51 = some (.iadd, 0) := by decide +kernel
theorem at_550_52 : am_at (am_m 550) 52 = some (.invokevirtual 331, 443) := by decide +kernel
theorem at_550_55 : am_at (am_m 550) 55 = some (.aload_n 0, 0) := by decide +kernel
theorem at_550_56 : am_at (am_m 550) 56 = some (.iload_n 2, 0) := by decide +kernel
theorem at_550_57 : am_at (am_m 550) 57 = some (.iconst 1, 0) := by decide +kernel
theorem at_550_58 : am_at (am_m 550) 58 = some (.iadd, 0) := by decide +kernel
theorem at_550_59 : am_at (am_m 550) 59 = some (.iload_n 2, 0) := by decide +kernel
theorem at_550_60 : am_at (am_m 550) 60 = some (.iconst 1, 0) := by decide +kernel
theorem at_550_61 : am_at (am_m 550) 61 = some (.iadd, 0) := by decide +kernel
theorem at_550_62 : am_at (am_m 550) 62 = some (.aload_n 0, 0) := by decide +kernel
theorem at_550_63 : am_at (am_m 550) 63 = some (.getfield 63, 3098) := by decide +kernel
theorem at_550_66 : am_at (am_m 550) 66 = some (.iload_n 2, 0) := by decide +kernel
theorem at_550_67 : am_at (am_m 550) 67 = some (.iconst 1, 0) := by decide +kernel
theorem at_550_68 : am_at (am_m 550) 68 = some (.iadd, 0) := by decide +kernel
theorem at_550_69 : am_at (am_m 550) 69 = some (.iaload, 0) := by decide +kernel
theorem at_550_70 : am_at (am_m 550) 70 = some (.iadd, 0) := by decide +kernel
theorem at_550_71 : am_at (am_m 550) 71 = some (.invokevirtual 331, 443) := by decide +kernel
theorem at_550_74 : am_at (am_m 550) 74 = some (.aload_n 0, 0) := by decide +kernel
theorem at_550_75 : am_at (am_m 550) 75 = some (.iload 4, 0) := by decide +kernel
theorem at_550_77 : am_at (am_m 550) 77 = some (.iload 4, 0) := by decide +kernel
theorem at_550_79 : am_at (am_m 550) 79 = some (.aload_n 0, 0) := by decide +kernel
theorem at_550_80 : am_at (am_m 550) 80 = some (.getfield 63, 3098) := by decide +kernel
theorem at_550_83 : am_at (am_m 550) 83 = some (.iload 4, 0) := by decide +kernel
theorem at_550_85 : am_at (am_m 550) 85 = some (.iaload, 0) := by decide +kernel
theorem at_550_86 : am_at (am_m 550) 86 = some (.iadd, 0) := by decide +kernel
theorem at_550_87 : am_at (am_m 550) 87 = some (.invokevirtual 331, 443) := by decide +kernel
theorem at_550_90 : am_at (am_m 550) 90 = some (.aload_n 0, 0) := by decide +kernel
theorem at_550_91 : am_at (am_m 550) 91 = some (.iload_n 3, 0) := by decide +kernel
theorem at_550_92 : am_at (am_m 550) 92 = some (.iload_n 3, 0) := by decide +kernel
theorem at_550_93 : am_at (am_m 550) 93 = some (.aload_n 0, 0) := by decide +kernel
theorem at_550_94 : am_at (am_m 550) 94 = some (.getfield 63, 3098) := by decide +kernel
theorem at_550_97 : am_at (am_m 550) 97 = some (.iload_n 3, 0) := by decide +kernel
theorem at_550_98 : am_at (am_m 550) 98 = some (.iaload, 0) := by decide +kernel
theorem at_550_99 : am_at (am_m 550) 99 = some (.iadd, 0) := by decide +kernel
theorem at_550_100 : am_at (am_m 550) 100 = some (.invokevirtual 331, 443) := by decide +kernel
theorem at_550_103 : am_at (am_m 550) 103 = some (.aload_n 0, 0) := by decide +kernel
theorem at_550_104 : am_at (am_m 550) 104 = some (.iload_n 1, 0) := by decide +kernel
theorem at_550_105 : am_at (am_m 550) 105 = some (.aload_n 0, 0) := by decide +kernel
theorem at_550_106 : am_at (am_m 550) 106 = some (.getfield 63, 3098) := by decide +kernel
theorem at_550_109 : am_at (am_m 550) 109 = some (.iload_n 1, 0) := by decide +kernel
theorem at_550_110 : am_at (am_m 550) 110 = some (.iaload, 0) := by decide +kernel
theorem at_550_111 : am_at (am_m 550) 111 = some (.iadd, 0) := by decide +kernel
theorem at_550_112 : am_at (am_m 550) 112 = some (.aload_n 0, 0) := by decide +kernel
theorem at_550_113 : am_at (am_m 550) 113 = some (.getfield 315, 3090) := by decide +kernel
theorem at_550_116 : am_at (am_m 550) 116 = some (.invokevirtual 331, 443) := by decide +kernel
theorem at_550_119 : am_at (am_m 550) 119 = some (.iconst 1, 0) := by decide +kernel
theorem at_550_120 : am_at (am_m 550) 120 = some (.ireturn, 0) := by decide +kernel
theorem at_551_0 : am_at (am_m 551) 0 = some (.aload_n 0, 0) := by decide +kernel
theorem at_551_1 : am_at (am_m 551) 1 = some (.getfield 51, 3093) := by decide +kernel
theorem at_551_4 : am_at (am_m 551) 4 = some (.iload_n 1, 0) := by decide +kernel
theorem at_551_5 : am_at (am_m 551) 5 = some (.iaload, 0) := by decide +kernel
theorem at_551_6 : am_at (am_m 551) 6 = some (.bipush 12, 0) := by decide +kernel
theorem at_551_8 : am_at (am_m 551) 8 = some (.if_icmp .eq 5, 13) := by decide +kernel
theorem at_551_11 : am_at (am_m 551) 11 = some (.iconst 0, 0) := by decide +kernel
theorem at_551_12 : am_at (am_m 551) 12 = some (.ireturn, 0) := by decide +kernel
theorem at_551_13 : am_at (am_m 551) 13 = some (.iload_n 1, 0) := by decide +kernel
theorem at_551_14 : am_at (am_m 551) 14 = some (.iconst 1, 0) := by decide +kernel
theorem at_551_15 : am_at (am_m 551) 15 = some (.iadd, 0) := by decide +kernel
theorem at_551_16 : am_at (am_m 551) 16 = some (.istore_n 2, 0) := by decide +kernel
theorem at_551_17 : am_at (am_m 551) 17 = some (.aload_n 0, 0) := by decide +kernel
theorem at_551_18 : am_at (am_m 551) 18 = some (.iload_n 1, 0) := by decide +kernel
theorem at_551_19 : am_at (am_m 551) 19 = some (.iconst 1, 0) := by decide +kernel
theorem at_551_20 : am_at (am_m 551) 20 = some (.invokevirtual 642, 393) := by decide +kernel
theorem at_551_23 : am_at (am_m 551) 23 = some (.istore_n 3, 0) := by decide +kernel
theorem at_551_24 : am_at (am_m 551) 24 = some (.aload_n 0, 0) := by decide +kernel
theorem at_551_25 : am_at (am_m 551) 25 = some (.iload_n 2, 0) := by decide +kernel
theorem at_551_26 : am_at (am_m 551) 26 = some (.iconst 0, 0) := by decide +kernel
theorem at_551_27 : am_at (am_m 551) 27 = some (.invokevirtual 983, 542) := by decide +kernel
theorem at_551_30 : am_at (am_m 551) 30 = some (.ifCond .eq 11, 41) := by decide +kernel
theorem at_551_33 : am_at (am_m 551) 33 = some (.aload_n 0, 0) := by decide +kernel
theorem at_551_34 : am_at (am_m 551) 34 = some (.iload_n 3, 0) := by decide +kernel
theorem at_551_35 : am_at (am_m 551) 35 = some (.invokevirtual 989, 547) := by decide +kernel
theorem at_551_38 : am_at (am_m 551) 38 = some (.ifCond .ne 20, 58) := by decide +kernel
theorem at_551_41 : am_at (am_m 551) 41 = some (.aload_n 0, 0) := by decide +kernel
theorem at_551_42 : am_at (am_m 551) 42 = some (.iload_n 3, 0) := by decide +kernel
theorem at_551_43 : am_at (am_m 551) 43 = some (.iconst 0, 0) := by decide +kernel
theorem at_551_44 : am_at (am_m 551) 44 = some (.invokevirtual 983, 542) := by decide +kernel
theorem at_551_47 : am_at (am_m 551) 47 = some (.ifCond .eq 24, 71) := by decide +kernel
theorem at_551_50 : am_at (am_m 551) 50 = some (.aload_n 0, 0) := by decide +kernel
theorem at_551_51 : am_at (am_m 551) 51 = some (.iload_n 2, 0) := by decide +kernel
theorem at_551_52 : am_at (am_m 551) 52 = some (.invokevirtual 989, 547) := by decide +kernel
theorem at_551_55 : am_at (am_m 551) 55 = some (.ifCond .eq 16, 71) := by decide +kernel
theorem at_551_58 : am_at (am_m 551) 58 = some (.aload_n 0, 0) := by decide +kernel
theorem at_551_59 : am_at (am_m 551) 59 = some (.iload_n 1, 0) := by decide +kernel
theorem at_551_60 : am_at (am_m 551) 60 = some (.iconst 0, 0) := by decide +kernel
theorem at_551_61 : am_at (am_m 551) 61 = some (.invokevirtual 980, 540) := by decide +kernel
theorem at_551_64 : am_at (am_m 551) 64 = some (.ifCond .eq 7, 71) := by decide +kernel
theorem at_551_67 : am_at (am_m 551) 67 = some (.iconst 1, 0) := by decide +kernel
theorem at_551_68 : am_at (am_m 551) 68 = some (.goto 4, 72) := by decide +kernel
theorem at_551_71 : am_at (am_m 551) 71 = some (.iconst 0, 0) := by decide +kernel
theorem at_551_72 : am_at (am_m 551) 72 = some (.ireturn, 0) := by decide +kernel
theorem at_552_0 : am_at (am_m 552) 0 = some (.aload_n 0, 0) := by decide +kernel
theorem at_552_1 : am_at (am_m 552) 1 = some (.getfield 51, 3093) := by decide +kernel
theorem at_552_4 : am_at (am_m 552) 4 = some (.iload_n 1, 0) := by decide +kernel
theorem at_552_5 : am_at (am_m 552) 5 = some (.iaload, 0) := by decide +kernel
theorem at_552_6 : am_at (am_m 552) 6 = some (.bipush 14, 0) := by decide +kernel
theorem at_552_8 : am_at (am_m 552) 8 = some (.if_icmp .ne 40, 48) := by decide +kernel
theorem at_552_11 : am_at (am_m 552) 11 = some (.aload_n 0, 0) := by decide +kernel
theorem at_552_12 : am_at (am_m 552) 12 = some (.aload_n 0, 0) := by decide +kernel
theorem at_552_13 : am_at (am_m 552) 13 = some (.iload_n 1, 0) := by decide +kernel
theorem at_552_14 : am_at (am_m 552) 14 = some (.iconst 1, 0) := by decide +kernel
theorem at_552_15 : am_at (am_m 552) 15 = some (.invokevirtual 642, 393) := by decide +kernel
theorem at_552_18 : am_at (am_m 552) 18 = some (.iconst 1, 0) := by decide +kernel
theorem at_552_19 : am_at (am_m 552) 19 = some (.invokevirtual 983, 542) := by decide +kernel
theorem at_552_22 : am_at (am_m 552) 22 = some (.ifCond .eq 26, 48) := by decide +kernel
theorem at_552_25 : am_at (am_m 552) 25 = some (.aload_n 0, 0) := by decide +kernel
theorem at_552_26 : am_at (am_m 552) 26 = some (.iload_n 1, 0) := by decide +kernel
theorem at_552_27 : am_at (am_m 552) 27 = some (.iconst 1, 0) := by decide +kernel
theorem at_552_28 : am_at (am_m 552) 28 = some (.iadd, 0) := by decide +kernel
theorem at_552_29 : am_at (am_m 552) 29 = some (.invokevirtual 989, 547) := by decide +kernel
theorem at_552_32 : am_at (am_m 552) 32 = some (.ifCond .eq 16, 48) := by decide +kernel
theorem at_552_35 : am_at (am_m 552) 35 = some (.aload_n 0, 0) := by decide +kernel
theorem at_552_36 : am_at (am_m 552) 36 = some (.iload_n 1, 0) := by decide +kernel
theorem at_552_37 : am_at (am_m 552) 37 = some (.iconst 0, 0) := by decide +kernel
theorem at_552_38 : am_at (am_m 552) 38 = some (.invokevirtual 980, 540) := by decide +kernel
theorem at_552_41 : am_at (am_m 552) 41 = some (.ifCond .eq 7, 48) := by decide +kernel
theorem at_552_44 : am_at (am_m 552) 44 = some (.iconst 1, 0) := by decide +kernel
theorem at_552_45 : am_at (am_m 552) 45 = some (.goto 4, 49) := by decide +kernel
theorem at_552_48 : am_at (am_m 552) 48 = some (.iconst 0, 0) := by decide +kernel
theorem at_552_49 : am_at (am_m 552) 49 = some (.ireturn, 0) := by decide +kernel
theorem at_553_0 : am_at (am_m 553) 0 = some (.aload_n 0, 0) := by decide +kernel
theorem at_553_1 : am_at (am_m 553) 1 = some (.iconst 0, 0) := by decide +kernel
theorem at_553_2 : am_at (am_m 553) 2 = some (.putfield 292, 3072) := by decide +kernel
theorem at_553_5 : am_at (am_m 553) 5 = some (.aload_n 0, 0) := by decide +kernel
theorem at_553_6 : am_at (am_m 553) 6 = some (.getfield 1025, 3187) := by decide +kernel
theorem at_553_9 : am_at (am_m 553) 9 = some (.ireturn, 0) := by decide +kernel
theorem at_554_0 : am_at (am_m 554) 0 = some (.aload_n 0, 0) := by decide +kernel
theorem at_554_1 : am_at (am_m 554) 1 = some (.iconst 0, 0) := by decide +kernel
theorem at_554_2 : am_at (am_m 554) 2 = some (.putfield 292, 3072) := by decide +kernel
theorem at_554_5 : am_at (am_m 554) 5 = some (.iload_n 1, 0) := by decide +kernel
theorem at_554_6 : am_at (am_m 554) 6 = some (.i2l, 0) := by decide +kernel
theorem at_554_7 : am_at (am_m 554) 7 = some (.lconst 0, 0) := by decide +kernel
theorem at_554_8 : am_at (am_m 554) 8 = some (.aload_n 0, 0) := by decide +kernel
theorem at_554_9 : am_at (am_m 554) 9 = some (.getfield 1025, 3187) := by decide +kernel
theorem at_554_12 : am_at (am_m 554) 12 = some (.i2l, 0) := by decide +kernel
theorem at_554_13 : am_at (am_m 554) 13 = some (.lconst 1, 0) := by decide +kernel
theorem at_554_14 : am_at (am_m 554) 14 = some (.lsub, 0) := by decide +kernel
theorem at_554_15 : am_at (am_m 554) 15 = some (.invokestatic 299, 327) := by decide +kernel
theorem at_554_18 : am_at (am_m 554) 18 = some (.ifCond .ne 5, 23) := by decide +kernel
theorem at_554_21 : am_at (am_m 554) 21 = some (.iconst (-1), 0) := by decide +kernel
theorem at_554_22 : am_at (am_m 554) 22 = some (.ireturn, 0) := by decide +kernel
theorem at_554_23 : am_at (am_m 554) 23 = some (.iload_n 2, 0) := by decide +kernel
theorem at_554_24 : am_at (am_m 554) 24 = some (.ifCond .ne 12, 36) := by decide +kernel
theorem at_554_27 : am_at (am_m 554) 27 = some (.aload_n 0, 0) := by decide +kernel
theorem at_554_28 : am_at (am_m 554) 28 = some (.getfield 232, 3188) := by decide +kernel
theorem at_554_31 : am_at (am_m 554) 31 = some (.iload_n 1, 0) := by decide +kernel
theorem at_554_32 : am_at (am_m 554) 32 = some (.iaload, 0) := by decide +kernel
theorem at_554_33 : am_at (am_m 554) 33 = some (.goto 18, 51) := by decide +kernel
theorem at_554_36 : am_at (am_m 554) 36 = some (.iload_n 2, 0) := by decide +kernel
theorem at_554_37 : am_at (am_m 554) 37 = some (.iconst 1, 0) := by decide +kernel
theorem at_554_38 : am_at (am_m 554) 38 = some (.if_icmp .ne 12, 50) := by decide +kernel
theorem at_554_41 : am_at (am_m 554) 41 = some (.aload_n 0, 0) := by decide +kernel
theorem at_554_42 : am_at (am_m 554) 42 = some (.getfield 235, 3189) := by decide +kernel
theorem at_554_45 : am_at (am_m 554) 45 = some (.iload_n 1, 0) := by decide +kernel
theorem at_554_46 : am_at (am_m 554) 46 = some (.iaload, 0) := by decide +kernel
theorem at_554_47 : am_at (am_m 554) 47 = some (.goto 4, 51) := by decide +kernel
theorem at_554_50 : am_at (am_m 554) 50 = some (.iconst (-1), 0) := by decide +kernel
theorem at_554_51 : am_at (am_m 554) 51 = some (.ireturn, 0) := by decide +kernel
theorem at_555_0 : am_at (am_m 555) 0 = some (.aload_n 0, 0) := by decide +kernel
theorem at_555_1 : am_at (am_m 555) 1 = some (.aload_n 0, 0) := by decide +kernel
theorem at_555_2 : am_at (am_m 555) 2 = some (.iload_n 1, 0) := by decide +kernel
theorem at_555_3 : am_at (am_m 555) 3 = some (.invokevirtual 568, 358) := by decide +kernel
theorem at_555_6 : am_at (am_m 555) 6 = some (.ifCond .eq 15, 21) := by decide +kernel
theorem at_555_9 : am_at (am_m 555) 9 = some (.aload_n 0, 0) := by decide +kernel
theorem at_555_10 : am_at (am_m 555) 10 = some (.iload_n 2, 0) := by decide +kernel
theorem at_555_11 : am_at (am_m 555) 11 = some (.invokevirtual 568, 358) := by decide +kernel
theorem at_555_14 : am_at (am_m 555) 14 = some (.ifCond .eq 7, 21) := by decide +kernel
theorem at_555_17 : am_at (am_m 555) 17 = some (.iconst 0, 0) := by decide +kernel
theorem at_555_18 : am_at (am_m 555) 18 = some (.goto 4, 22) := by decide +kernel
theorem at_555_21 : am_at (am_m 555) 21 = some (.iconst 1, 0) := by decide +kernel
theorem at_555_22 : am_at (am_m 555) 22 = some (.putfield 292, 3072) := by decide +kernel
theorem at_555_25 : am_at (am_m 555) 25 = some (.aload_n 0, 0) := by decide +kernel
theorem at_555_26 : am_at (am_m 555) 26 = some (.getfield 292, 3072) := by decide +kernel
theorem at_555_29 : am_at (am_m 555) 29 = some (.ifCond .gt 21, 50) := by decide +kernel
theorem at_555_32 : am_at (am_m 555) 32 = some (.aload_n 0, 0) := by decide +kernel
theorem at_555_33 : am_at (am_m 555) 33 = some (.getfield 7, 3074) := by decide +kernel
theorem at_555_36 : am_at (am_m 555) 36 = some (.iload_n 1, 0) := by decide +kernel
theorem at_555_37 : am_at (am_m 555) 37 = some (.iaload, 0) := by decide +kernel
theorem at_555_38 : am_at (am_m 555) 38 = some (.ifCond .ne 12, 50) := by decide +kernel
theorem at_555_41 : am_at (am_m 555) 41 = some (.aload_n 0, 0) := by decide +kernel
theorem at_555_42 : am_at (am_m 555) 42 = some (.getfield 7, 3074) := by decide +kernel
theorem at_555_45 : am_at (am_m 555) 45 = some (.iload_n 2, 0) := by decide +kernel
theorem at_555_46 : am_at (am_m 555) 46 = some (.iaload, 0) := by decide +kernel
theorem at_555_47 : am_at (am_m 555) 47 = some (.ifCond .eq 5, 52) := by decide +kernel
theorem at_555_50 : am_at (am_m 555) 50 = some (.iconst 0, 0) := by decide +kernel
theorem at_555_51 : am_at (am_m 555) 51 = some (.ireturn, 0) := by decide +kernel
theorem at_555_52 : am_at (am_m 555) 52 = some (.aload_n 0, 0) := by decide +kernel
theorem at_555_53 : am_at (am_m 555) 53 = some (.iload_n 1, 0) := by decide +kernel
theorem at_555_54 : am_at (am_m 555) 54 = some (.invokevirtual 635, 391) := by decide +kernel
theorem at_555_57 : am_at (am_m 555) 57 = some (.iconst 1, 0) := by decide +kernel
theorem at_555_58 : am_at (am_m 555) 58 = some (.istore_n 3, 0) := by decide +kernel
theorem at_555_59 : am_at (am_m 555) 59 = some (.iconst 0, 0) := by decide +kernel
theorem at_555_60 : am_at (am_m 555) 60 = some (.istore 4, 0) := by decide +kernel
theorem at_555_62 : am_at (am_m 555) 62 = some (.iload 4, 0) := by decide +kernel
theorem at_555_64 : am_at (am_m 555) 64 = some (.aload_n 0, 0) := by decide +kernel
theorem at_555_65 : am_at (am_m 555) 65 = some (.getfield 1025, 3187) := by decide +kernel
theorem at_555_68 : am_at (am_m 555) 68 = some (.if_icmp .ge 62, 130) := by decide +kernel
theorem at_555_71 : am_at (am_m 555) 71 = some (.iload_n 3, 0) := by decide +kernel
theorem at_555_72 : am_at (am_m 555) 72 = some (.ifCond .eq 58, 130) := by decide +kernel
theorem at_555_75 : am_at (am_m 555) 75 = some (.aload_n 0, 0) := by decide +kernel
theorem at_555_76 : am_at (am_m 555) 76 = some (.getfield 232, 3188) := by decide +kernel
theorem at_555_79 : am_at (am_m 555) 79 = some (.iload 4, 0) := by decide +kernel
theorem at_555_81 : am_at (am_m 555) 81 = some (.iaload, 0) := by decide +kernel
theorem at_555_82 : am_at (am_m 555) 82 = some (.aload_n 0, 0) := by decide +kernel
theorem at_555_83 : am_at (am_m 555) 83 = some (.getfield 315, 3090) := by decide +kernel
theorem at_555_86 : am_at (am_m 555) 86 = some (.if_icmp .ge 28, 114) := by decide +kernel
theorem at_555_89 : am_at (am_m 555) 89 = some (.aload_n 0, 0) := by decide +kernel
theorem at_555_90 : am_at (am_m 555) 90 = some (.aload_n 0, 0) := by decide +kernel
theorem at_555_91 : am_at (am_m 555) 91 = some (.getfield 232, 3188) := by decide +kernel
theorem at_555_94 : am_at (am_m 555) 94 = some (.iload 4, 0) := by decide +kernel
theorem at_555_96 : am_at (am_m 555) 96 = some (.iaload, 0) := by decide +kernel
theorem at_555_97 : am_at (am_m 555) 97 = some (.aload_n 0, 0) := by decide +kernel
theorem at_555_98 : am_at (am_m 555) 98 = some (.getfield 235, 3189) := by decide +kernel
theorem at_555_101 : am_at (am_m 555) 101 = some (.iload 4, 0) := by decide +kernel
theorem at_555_103 : am_at (am_m 555) 103 = some (.iaload, 0) := by decide +kernel
theorem at_555_104 : am_at (am_m 555) 104 = some (.invokevirtual 1022, 538) := by decide +kernel
theorem at_555_107 : am_at (am_m 555) 107 = some (.ifCond .eq 7, 114) := by decide +kernel
theorem at_555_110 : am_at (am_m 555) 110 = some (.iconst 1, 0) := by decide +kernel
theorem at_555_111 : am_at (am_m 555) 111 = some (.goto 4, 115) := by decide +kernel
theorem at_555_114 : am_at (am_m 555) 114 = some (.iconst 0, 0) := by decide +kernel
theorem at_555_115 : am_at (am_m 555) 115 = some (.istore_n 3, 0) := by decide +kernel
theorem at_555_116 : am_at (am_m 555) 116 = some (.iload_n 3, 0) := by decide +kernel
theorem at_555_117 : am_at (am_m 555) 117 = some (.ifCond .eq 7, 124) := by decide +kernel
theorem at_555_120 : am_at (am_m 555) 120 = some (.aload_n 0, 0) := by decide +kernel
theorem at_555_121 : am_at (am_m 555) 121 = some (.invokevirtual 1032, 495) := by decide +kernel
theorem at_555_124 : am_at (am_m 555) 124 = some (.iinc 4 1, 0) := by decide +kernel
theorem at_555_127 : am_at (am_m 555) 127 = some (.goto (-65), 62) := by decide +kernel
theorem at_555_130 : am_at (am_m 555) 130 = some (.aload_n 0, 0) := by decide +kernel
theorem at_555_131 : am_at (am_m 555) 131 = some (.invokevirtual 739, 442) := by decide +kernel
theorem at_555_134 : am_at (am_m 555) 134 = some (.iload_n 3, 0) := by decide +kernel
theorem at_555_135 : am_at (am_m 555) 135 = some (.ifCond .eq 15, 150) := by decide +kernel
theorem at_555_138 : am_at (am_m 555) 138 = some (.aload_n 0, 0) := by decide +kernel
theorem at_555_139 : am_at (am_m 555) 139 = some (.iload_n 2, 0) := by decide +kernel
theorem at_555_140 : am_at (am_m 555) 140 = some (.invokevirtual 582, 375) := by decide +kernel
theorem at_555_143 : am_at (am_m 555) 143 = some (.ifCond .eq 7, 150) := by decide +kernel
theorem at_555_146 : am_at (am_m 555) 146 = some (.iconst 1, 0) := by decide +kernel
theorem at_555_147 : am_at (am_m 555) 147 = some (.goto 4, 151) := by decide +kernel
theorem at_555_150 : am_at (am_m 555) 150 = some (.iconst 0, 0) := by decide +kernel
theorem at_555_151 : am_at (am_m 555) 151 = some (.ireturn, 0) := by decide +kernel
theorem at_556_0 : am_at (am_m 556) 0 = some (.aload_n 0, 0) := by decide +kernel
theorem at_556_1 : am_at (am_m 556) 1 = some (.iload_n 1, 0) := by decide +kernel
theorem at_556_2 : am_at (am_m 556) 2 = some (.invokevirtual 568, 358) := by decide +kernel
theorem at_556_5 : am_at (am_m 556) 5 = some (.ifCond .eq 12, 17) := by decide +kernel
theorem at_556_8 : am_at (am_m 556) 8 = some (.aload_n 0, 0) := by decide +kernel
theorem at_556_9 : am_at (am_m 556) 9 = some (.getfield 7, 3074) := by decide +kernel
theorem at_556_12 : am_at (am_m 556) 12 = some (.iload_n 1, 0) := by decide +kernel
theorem at_556_13 : am_at (am_m 556) 13 = some (.iaload, 0) := by decide +kernel
theorem at_556_14 : am_at (am_m 556) 14 = some (.goto 4, 18) := by decide +kernel
theorem at_556_17 : am_at (am_m 556) 17 = some (.iconst 0, 0) := by decide +kernel
theorem at_556_18 : am_at (am_m 556) 18 = some (.istore_n 3, 0) := by decide +kernel
theorem at_556_19 : am_at (am_m 556) 19 = some (.aload_n 0, 0) := by decide +kernel
theorem at_556_20 : am_at (am_m 556) 20 = some (.aload_n 0, 0) := by decide +kernel
theorem at_556_21 : am_at (am_m 556) 21 = some (.iload_n 1, 0) := by decide +kernel
theorem at_556_22 : am_at (am_m 556) 22 = some (.invokevirtual 568, 358) := by decide +kernel
theorem at_556_25 : am_at (am_m 556) 25 = some (.ifCond .ne 7, 32) := by decide +kernel
theorem at_556_28 : am_at (am_m 556) 28 = some (.iconst 1, 0) := by decide +kernel
theorem at_556_29 : am_at (am_m 556) 29 = some (.goto 34, 63) := by decide +kernel
theorem at_556_32 : am_at (am_m 556) 32 = some (.iload_n 3, 0) := by decide +kernel
theorem at_556_33 : am_at (am_m 556) 33 = some (.iconst 1, 0) := by decide +kernel
theorem at_556_34 : am_at (am_m 556) 34 = some (.if_icmp .gt 10, 44) := by decide +kernel
theorem at_556_37 : am_at (am_m 556) 37 = some (.iload_n 2, 0) := by decide +kernel
theorem at_556_38 : am_at (am_m 556) 38 = some (.iconst 1, 0) := by decide +kernel
theorem at_556_39 : am_at (am_m 556) 39 = some (.iload_n 3, 0) := by decide +kernel
theorem at_556_40 : am_at (am_m 556) 40 = some (.isub, 0) := by decide +kernel
theorem at_556_41 : am_at (am_m 556) 41 = some (.if_icmp .eq 7, 48) := by decide +kernel
theorem at_556_44 : am_at (am_m 556) 44 = some (.iconst 2, 0) := by decide +kernel
theorem at_556_45 : am_at (am_m 556) 45 = some (.goto 18, 63) := by decide +kernel
theorem at_556_48 : am_at (am_m 556) 48 = some (.aload_n 0, 0) := by decide +kernel
theorem at_556_49 : am_at (am_m 556) 49 = some (.getfield 296, 3073) := by decide +kernel
theorem at_556_52 : am_at (am_m 556) 52 = some (.sipush 600, 0) := by decide +kernel
theorem at_556_55 : am_at (am_m 556) 55 = some (.if_icmp .ne 7, 62) := by decide +kernel
theorem at_556_58 : am_at (am_m 556) 58 = some (.iconst 3, 0) := by decide +kernel
theorem at_556_59 : am_at (am_m 556) 59 = some (.goto 4, 63) := by decide +kernel
theorem at_556_62 : am_at (am_m 556) 62 = some (.iconst 0, 0) := by decide +kernel
theorem at_556_63 : am_at (am_m 556) 63 = some (.putfield 292, 3072) := by decide +kernel
theorem at_556_66 : am_at (am_m 556) 66 = some (.aload_n 0, 0) := by decide +kernel
theorem at_556_67 : am_at (am_m 556) 67 = some (.getfield 292, 3072) := by decide +kernel
theorem at_556_70 : am_at (am_m 556) 70 = some (.ifCond .le 5, 75) := by decide +kernel
theorem at_556_73 : am_at (am_m 556) 73 = some (.iconst 0, 0) := by decide +kernel
theorem at_556_74 : am_at (am_m 556) 74 = some (.ireturn, 0) := by decide +kernel
theorem at_556_75 : am_at (am_m 556) 75 = some (.aload_n 0, 0) := by decide +kernel
theorem at_556_76 : am_at (am_m 556) 76 = some (.iload_n 1, 0) := by decide +kernel
theorem at_556_77 : am_at (am_m 556) 77 = some (.invokevirtual 571, 359) := by decide +kernel
theorem at_556_80 : am_at (am_m 556) 80 = some (.aload_n 0, 0) := by decide +kernel
theorem at_556_81 : am_at (am_m 556) 81 = some (.iload_n 1, 0) := by decide +kernel
theorem at_556_82 : am_at (am_m 556) 82 = some (.invokevirtual 635, 391) := by decide +kernel
theorem at_556_85 : am_at (am_m 556) 85 = some (.iload_n 2, 0) := by decide +kernel
theorem at_556_86 : am_at (am_m 556) 86 = some (.iconst 1, 0) := by decide +kernel
theorem at_556_87 : am_at (am_m 556) 87 = some (.if_icmp .ne 10, 97) := by decide +kernel
theorem at_556_90 : am_at (am_m 556) 90 = some (.aload_n 0, 0) := by decide +kernel
theorem at_556_91 : am_at (am_m 556) 91 = some (.invokevirtual 890, 494) := by decide +kernel
theorem at_556_94 : am_at (am_m 556) 94 = some (.goto 7, 101) := by decide +kernel
theorem at_556_97 : am_at (am_m 556) 97 = some (.aload_n 0, 0) := by decide +kernel
theorem at_556_98 : am_at (am_m 556) 98 = some (.invokevirtual 1074, 557) := by decide +kernel
theorem at_556_101 : am_at (am_m 556) 101 = some (.istore 4, 0) := by decide +kernel
theorem at_556_103 : am_at (am_m 556) 103 = some (.iload 4, 0) := by decide +kernel
theorem at_556_105 : am_at (am_m 556) 105 = some (.ifCond .ne 5, 110) := by decide +kernel
theorem at_556_108 : am_at (am_m 556) 108 = some (.iconst (-1), 0) := by decide +kernel
theorem at_556_109 : am_at (am_m 556) 109 = some (.ireturn, 0) := by decide +kernel
theorem at_556_110 : am_at (am_m 556) 110 = some (.iload_n 2, 0) := by decide +kernel
theorem at_556_111 : am_at (am_m 556) 111 = some (.ifCond .ne 7, 118) := by decide +kernel
theorem at_556_114 : am_at (am_m 556) 114 = some (.aload_n 0, 0) := by decide +kernel
theorem at_556_115 : am_at (am_m 556) 115 = some (.invokevirtual 739, 442) := by decide +kernel
theorem at_556_118 : am_at (am_m 556) 118 = some (.aload_n 0, 0) := by decide +kernel
theorem at_556_119 : am_at (am_m 556) 119 = some (.bipush 7, 0) := by decide +kernel
theorem at_556_121 : am_at (am_m 556) 121 = some (.iload_n 1, 0) := by decide +kernel
theorem at_556_122 : am_at (am_m 556) 122 = some (.iconst (-1), 0) := by decide +kernel
theorem at_556_123 : am_at (am_m 556) 123 = some (.iconst (-1), 0) := by decide +kernel
theorem at_556_124 : am_at (am_m 556) 124 = some (.iconst (-1), 0) := by decide +kernel
theorem at_556_125 : am_at (am_m 556) 125 = some (.lconst 0, 0) := by decide +kernel
theorem at_556_126 : am_at (am_m 556) 126 = some (.invokevirtual 543, 356) := by decide +kernel
theorem at_556_129 : am_at (am_m 556) 129 = some (.ireturn, 0) := by decide +kernel
theorem at_557_0 : am_at (am_m 557) 0 = some (.aload_n 0, 0) := by decide +kernel
theorem at_557_1 : am_at (am_m 557) 1 = some (.getfield 312, 3092) := by decide +kernel
theorem at_557_4 : am_at (am_m 557) 4 = some (.ifCond .ne 5, 9) := by decide +kernel
theorem at_557_7 : am_at (am_m 557) 7 = some (.iconst 1, 0) := by decide +kernel
theorem at_557_8 : am_at (am_m 557) 8 = some (.ireturn, 0) := by decide +kernel
theorem at_557_9 : am_at (am_m 557) 9 = some (.aload_n 0, 0) := by decide +kernel
theorem at_557_10 : am_at (am_m 557) 10 = some (.getfield 312, 3092) := by decide +kernel
theorem at_557_13 : am_at (am_m 557) 13 = some (.iconst 1, 0) := by decide +kernel
theorem at_557_14 : am_at (am_m 557) 14 = some (.if_icmp .eq 5, 19) := by decide +kernel
theorem at_557_17 : am_at (am_m 557) 17 = some (.iconst 0, 0) := by decide +kernel
theorem at_557_18 : am_at (am_m 557) 18 = some (.ireturn, 0) := by decide +kernel
theorem at_557_19 : am_at (am_m 557) 19 = some (.aload_n 0, 0) := by decide +kernel
theorem at_557_20 : am_at (am_m 557) 20 = some (.iconst 0, 0) := by decide +kernel
theorem at_557_21 : am_at (am_m 557) 21 = some (.putfield 1044, 3193) := by decide +kernel
theorem at_557_24 : am_at (am_m 557) 24 = some (.iconst 1, 0) := by decide +kernel
theorem at_557_25 : am_at (am_m 557) 25 = some (.istore_n 1, 0) := by decide +kernel
theorem at_557_26 : am_at (am_m 557) 26 = some (.iconst 0, 0) := by decide +kernel
theorem at_557_27 : am_at (am_m 557) 27 = some (.istore_n 2, 0) := by decide +kernel
theorem at_557_28 : am_at (am_m 557) 28 = some (.iload_n 2, 0) := by decide +kernel
theorem at_557_29 : am_at (am_m 557) 29 = some (.aload_n 0, 0) := by decide +kernel
theorem at_557_30 : am_at (am_m 557) 30 = some (.getfield 315, 3090) := by decide +kernel
theorem at_557_33 : am_at (am_m 557) 33 = some (.if_icmp .ge 49, 82) := by decide +kernel
theorem at_557_36 : am_at (am_m 557) 36 = some (.iload_n 1, 0) := by decide +kernel
theorem at_557_37 : am_at (am_m 557) 37 = some (.ifCond .eq 45, 82) := by decide +kernel
theorem at_557_40 : am_at (am_m 557) 40 = some (.aload_n 0, 0) := by decide +kernel
theorem at_557_41 : am_at (am_m 557) 41 = some (.getfield 51, 3093) := by decide +kernel
theorem at_557_44 : am_at (am_m 557) 44 = some (.iload_n 2, 0) := by decide +kernel
theorem at_557_45 : am_at (am_m 557) 45 = some (.iaload, 0) := by decide +kernel
theorem at_557_46 : am_at (am_m 557) 46 = some (.bipush 17, 0) := by decide +kernel
theorem at_557_48 : am_at (am_m 557) 48 = some (.if_icmp .ge 26, 74) := by decide +kernel
theorem at_557_51 : am_at (am_m 557) 51 = some (.aload_n 0, 0) := by decide +kernel
theorem at_557_52 : am_at (am_m 557) 52 = some (.aload_n 0, 0) := by decide +kernel
theorem at_557_53 : am_at (am_m 557) 53 = some (.getfield 51, 3093) := by decide +kernel
theorem at_557_56 : am_at (am_m 557) 56 = some (.iload_n 2, 0) := by decide +kernel
theorem at_557_57 : am_at (am_m 557) 57 = some (.iaload, 0) := by decide +kernel
theorem at_557_58 : am_at (am_m 557) 58 = some (.aload_n 0, 0) := by decide +kernel
theorem at_557_59 : am_at (am_m 557) 59 = some (.getfield 54, 3094) := by decide +kernel
theorem at_557_62 : am_at (am_m 557) 62 = some (.iload_n 2, 0) := by decide +kernel
theorem at_557_63 : am_at (am_m 557) 63 = some (.iaload, 0) := by decide +kernel
theorem at_557_64 : am_at (am_m 557) 64 = some (.invokevirtual 1062, 558) := by decide +kernel
theorem at_557_67 : am_at (am_m 557) 67 = some (.ifCond .eq 7, 74) := by decide +kernel
theorem at_557_70 : am_at (am_m 557) 70 = some (.iconst 1, 0) := by decide +kernel
theorem at_557_71 : am_at (am_m 557) 71 = some (.goto 4, 75) := by decide +kernel
theorem at_557_74 : am_at (am_m 557) 74 = some (.iconst 0, 0) := by decide +kernel
theorem at_557_75 : am_at (am_m 557) 75 = some (.istore_n 1, 0) := by decide +kernel
theorem at_557_76 : am_at (am_m 557) 76 = some (.iinc 2 1, 0) := by decide +kernel
theorem at_557_79 : am_at (am_m 557) 79 = some (.goto (-51), 28) := by decide +kernel
theorem at_557_82 : am_at (am_m 557) 82 = some (.iload_n 1, 0) := by decide +kernel
theorem at_557_83 : am_at (am_m 557) 83 = some (.ifCond .ne 5, 88) := by decide +kernel
theorem at_557_86 : am_at (am_m 557) 86 = some (.iconst 0, 0) := by decide +kernel
theorem at_557_87 : am_at (am_m 557) 87 = some (.ireturn, 0) := by decide +kernel
theorem at_557_88 : am_at (am_m 557) 88 = some (.aload_n 0, 0) := by decide +kernel
theorem at_557_89 : am_at (am_m 557) 89 = some (.iconst 0, 0) := by decide +kernel
theorem at_557_90 : am_at (am_m 557) 90 = some (.invokevirtual 1047, 561) := by decide +kernel
theorem at_557_93 : am_at (am_m 557) 93 = some (.aload_n 0, 0) := by decide +kernel
theorem at_557_94 : am_at (am_m 557) 94 = some (.iconst 0, 0) := by decide +kernel
theorem at_557_95 : am_at (am_m 557) 95 = some (.invokevirtual 1050, 563) := by decide +kernel
theorem at_557_98 : am_at (am_m 557) 98 = some (.ifCond .ne 5, 103) := by decide +kernel
theorem at_557_101 : am_at (am_m 557) 101 = some (.iconst 0, 0) := by decide +kernel
theorem at_557_102 : am_at (am_m 557) 102 = some (.ireturn, 0) := by decide +kernel
theorem at_557_103 : am_at (am_m 557) 103 = some (.aload_n 0, 0) := by decide +kernel
theorem at_557_104 : am_at (am_m 557) 104 = some (.iconst 0, 0) := by decide +kernel
theorem at_557_105 : am_at (am_m 557) 105 = some (.putfield 309, 3087) := by decide +kernel
theorem at_557_108 : am_at (am_m 557) 108 = some (.aload_n 0, 0) := by decide +kernel
theorem at_557_109 : am_at (am_m 557) 109 = some (.invokevirtual 1032, 495) := by decide +kernel
theorem at_557_112 : am_at (am_m 557) 112 = some (.iconst 1, 0) := by decide +kernel
theorem at_557_113 : am_at (am_m 557) 113 = some (.ireturn, 0) := by decide +kernel
theorem at_558_0 : am_at (am_m 558) 0 = some (.iload_n 1, 0) := by decide +kernel
theorem at_558_1 : am_at (am_m 558) 1 = some (.iconst 5, 0) := by decide +kernel
theorem at_558_2 : am_at (am_m 558) 2 = some (.if_icmp .ge 35, 37) := by decide +kernel
theorem at_558_5 : am_at (am_m 558) 5 = some (.aload_n 0, 0) := by decide +kernel
theorem at_558_6 : am_at (am_m 558) 6 = some (.getfield 244, 3192) := by decide +kernel
theorem at_558_9 : am_at (am_m 558) 9 = some (.aload_n 0, 0) := by decide +kernel
theorem at_558_10 : am_at (am_m 558) 10 = some (.getfield 1044, 3193) := by decide +kernel
theorem at_558_13 : am_at (am_m 558) 13 = some (.iconst 0, 0) := by decide +kernel
theorem at_558_14 : am_at (am_m 558) 14 = some (.iastore, 0) := by decide +kernel
theorem at_558_15 : am_at (am_m 558) 15 = some (.aload_n 0, 0) := by decide +kernel
theorem at_558_16 : am_at (am_m 558) 16 = some (.aload_n 0, 0) := by decide +kernel
theorem at_558_17 : am_at (am_m 558) 17 = some (.getfield 1044, 3193) := by decide +kernel
theorem at_558_20 : am_at (am_m 558) 20 = some (.iload_n 1, 0) := by decide +kernel
theorem at_558_21 : am_at (am_m 558) 21 = some (.iload_n 2, 0) := by decide +kernel
theorem at_558_22 : am_at (am_m 558) 22 = some (.invokevirtual 1041, 559) := by decide +kernel
theorem at_558_25 : am_at (am_m 558) 25 = some (.aload_n 0, 0) := by decide +kernel
theorem at_558_26 : am_at (am_m 558) 26 = some (.dup, 0) := by decide +kernel
theorem at_558_27 : am_at (am_m 558) 27 = some (.getfield 1044, 3193) := by decide +kernel
theorem at_558_30 : am_at (am_m 558) 30 = some (.iconst 1, 0) := by decide +kernel
theorem at_558_31 : am_at (am_m 558) 31 = some (.iadd, 0) := by decide +kernel
theorem at_558_32 : am_at (am_m 558) 32 = some (.putfield 1044, 3193) := by decide +kernel
theorem at_558_35 : am_at (am_m 558) 35 = some (.iconst 1, 0) := by decide +kernel
theorem at_558_36 : am_at (am_m 558) 36 = some (.ireturn, 0) := by decide +kernel
theorem at_558_37 : am_at (am_m 558) 37 = some (.iload_n 1, 0) := by decide +kernel
theorem at_558_38 : am_at (am_m 558) 38 = some (.bipush 14, 0) := by decide +kernel
theorem at_558_40 : am_at (am_m 558) 40 = some (.if_icmp .ge 23, 63) := by decide +kernel
theorem at_558_43 : am_at (am_m 558) 43 = some (.aload_n 0, 0) := by decide +kernel
theorem at_558_44 : am_at (am_m 558) 44 = some (.iload_n 1, 0) := by decide +kernel
theorem at_558_45 : am_at (am_m 558) 45 = some (.bipush 7, 0) := by decide +kernel
theorem at_558_47 : am_at (am_m 558) 47 = some (.if_icmp .ge 9, 56) := by decide +kernel
theorem at_558_50 : am_at (am_m 558) 50 = some (.iload_n 1, 0) := by decide +kernel
theorem at_558_51 : am_at (am_m 558) 51 = some (.iconst 2, 0) := by decide +kernel
theorem at_558_52 : am_at (am_m 558) 52 = some (.iadd, 0) := by decide +kernel
theorem at_558_53 : am_at (am_m 558) 53 = some (.goto 6, 59) := by decide +kernel
theorem at_558_56 : am_at (am_m 558) 56 = some (.iload_n 1, 0) := by decide +kernel
theorem at_558_57 : am_at (am_m 558) 57 = some (.iconst 3, 0) := by decide +kernel
theorem at_558_58 : am_at (am_m 558) 58 = some (.iadd, 0) := by decide +kernel
theorem at_558_59 : am_at (am_m 558) 59 = some (.invokevirtual 1053, 560) := by decide +kernel
theorem at_558_62 : am_at (am_m 558) 62 = some (.ireturn, 0) := by decide +kernel
theorem at_558_63 : am_at (am_m 558) 63 = some (.iload_n 1, 0) := by decide +kernel
theorem at_558_64 : am_at (am_m 558) 64 = some (.bipush 14, 0) := by decide +kernel
theorem at_558_66 : am_at (am_m 558) 66 = some (.if_icmp .ne 29, 95) := by decide +kernel
theorem at_558_69 : am_at (am_m 558) 69 = some (.aload_n 0, 0) := by decide +kernel
theorem at_558_70 : am_at (am_m 558) 70 = some (.aload_n 0, 0) := by decide +kernel
theorem at_558_71 : am_at (am_m 558) 71 = some (.getfield 1044, 3193) := by decide +kernel
theorem at_558_74 : am_at (am_m 558) 74 = some (.iconst 1, 0) := by decide +kernel
theorem at_558_75 : am_at (am_m 558) 75 = some (.isub, 0) := by decide +kernel
theorem at_558_76 : am_at (am_m 558) 76 = some (.aload_n 0, 0) := by decide +kernel
theorem at_558_77 : am_at (am_m 558) 77 = some (.getfield 1044, 3193) := by decide +kernel
theorem at_558_80 : am_at (am_m 558) 80 = some (.invokevirtual 1056, 564) := by decide +kernel
theorem at_558_83 : am_at (am_m 558) 83 = some (.aload_n 0, 0) := by decide +kernel
theorem at_558_84 : am_at (am_m 558) 84 = some (.dup, 0) := by decide +kernel
theorem at_558_85 : am_at (am_m 558) 85 = some (.getfield 1044, 3193) := by decide +kernel
theorem at_558_88 : am_at (am_m 558) 88 = some (.iconst 1, 0) := by decide +kernel
theorem at_558_89 : am_at (am_m 558) 89 = some (.iadd, 0) := by decide +kernel
theorem at_558_90 : am_at (am_m 558) 90 = some (.putfield 1044, 3193) := by decide +kernel
theorem at_558_93 : am_at (am_m 558) 93 = some (.iconst 1, 0) := by decide +kernel
theorem at_558_94 : am_at (am_m 558) 94 = some (.ireturn, 0) := by decide +kernel
theorem at_558_95 : am_at (am_m 558) 95 = some (.iload_n 1, 0) := by decide +kernel
theorem at_558_96 : am_at (am_m 558) 96 = some (.bipush 15, 0) := by decide +kernel
theorem at_558_98 : am_at (am_m 558) 98 = some (.if_icmp .ne 77, 175) := by decide +kernel
theorem at_558_101 : am_at (am_m 558) 101 = some (.aload_n 0, 0) := by decide +kernel
theorem at_558_102 : am_at (am_m 558) 102 = some (.aload_n 0, 0) := by decide +kernel
theorem at_558_103 : am_at (am_m 558) 103 = some (.getfield 1044, 3193) := by decide +kernel
theorem at_558_106 : am_at (am_m 558) 106 = some (.iconst 1, 0) := by decide +kernel
theorem at_558_107 : am_at (am_m 558) 107 = some (.isub, 0) := by decide +kernel
theorem at_558_108 : am_at (am_m 558) 108 = some (.invokevirtual 1059, 565) := by decide +kernel
theorem at_558_111 : am_at (am_m 558) 111 = some (.ifCond .ne 18, 129) := by decide +kernel
theorem at_558_114 : am_at (am_m 558) 114 = some (.aload_n 0, 0) := by decide +kernel
theorem at_558_115 : am_at (am_m 558) 115 = some (.aload_n 0, 0) := by decide +kernel
theorem at_558_116 : am_at (am_m 558) 116 = some (.getfield 1044, 3193) := by decide +kernel
theorem at_558_119 : am_at (am_m 558) 119 = some (.iconst 2, 0) := by decide +kernel
theorem at_558_120 : am_at (am_m 558) 120 = some (.isub, 0) := by decide +kernel
theorem at_558_121 : am_at (am_m 558) 121 = some (.invokevirtual 1059, 565) := by decide +kernel
theorem at_558_124 : am_at (am_m 558) 124 = some (.ifCond .ne 5, 129) := by decide +kernel
theorem at_558_127 : am_at (am_m 558) 127 = some (.iconst 0, 0) := by decide +kernel
theorem at_558_128 : am_at (am_m 558) 128 = some (.ireturn, 0) := by decide +kernel
theorem at_558_129 : am_at (am_m 558) 129 = some (.aload_n 0, 0) := by decide +kernel
theorem at_558_130 : am_at (am_m 558) 130 = some (.aload_n 0, 0) := by decide +kernel
theorem at_558_131 : am_at (am_m 558) 131 = some (.getfield 1044, 3193) := by decide +kernel
theorem at_558_134 : am_at (am_m 558) 134 = some (.iconst 1, 0) := by decide +kernel
theorem at_558_135 : am_at (am_m 558) 135 = some (.isub, 0) := by decide +kernel
theorem at_558_136 : am_at (am_m 558) 136 = some (.aload_n 0, 0) := by decide +kernel
theorem at_558_137 : am_at (am_m 558) 137 = some (.getfield 1044, 3193) := by decide +kernel
theorem at_558_140 : am_at (am_m 558) 140 = some (.invokevirtual 1056, 564) := by decide +kernel
theorem at_558_143 : am_at (am_m 558) 143 = some (.aload_n 0, 0) := by decide +kernel
theorem at_558_144 : am_at (am_m 558) 144 = some (.aload_n 0, 0) := by decide +kernel
theorem at_558_145 : am_at (am_m 558) 145 = some (.getfield 1044, 3193) := by decide +kernel
theorem at_558_148 : am_at (am_m 558) 148 = some (.iconst 2, 0) := by decide +kernel
theorem at_558_149 : am_at (am_m 558) 149 = some (.isub, 0) := by decide +kernel
theorem at_558_150 : am_at (am_m 558) 150 = some (.aload_n 0, 0) := by decide +kernel
theorem at_558_151 : am_at (am_m 558) 151 = some (.getfield 1044, 3193) := by decide +kernel
theorem at_558_154 : am_at (am_m 558) 154 = some (.iconst 1, 0) := by decide +kernel
theorem at_558_155 : am_at (am_m 558) 155 = some (.isub, 0) := by decide +kernel
theorem at_558_156 : am_at (am_m 558) 156 = some (.invokevirtual 1056, 564) := by decide +kernel
theorem at_558_159 : am_at (am_m 558) 159 = some (.aload_n 0, 0) := by decide +kernel
theorem at_558_160 : am_at (am_m 558) 160 = some (.aload_n 0, 0) := by decide +kernel
theorem at_558_161 : am_at (am_m 558) 161 = some (.getfield 1044, 3193) := by decide +kernel
theorem at_558_164 : am_at (am_m 558) 164 = some (.aload_n 0, 0) := by decide +kernel
theorem at_558_165 : am_at (am_m 558) 165 = some (.getfield 1044, 3193) := by decide +kernel
theorem at_558_168 : am_at (am_m 558) 168 = some (.iconst 2, 0) := by decide +kernel
theorem at_558_169 : am_at (am_m 558) 169 = some (.isub, 0) := by decide +kernel
theorem at_558_170 : am_at (am_m 558) 170 = some (.invokevirtual 1056, 564) := by decide +kernel
theorem at_558_173 : am_at (am_m 558) 173 = some (.iconst 1, 0) := by decide +kernel
theorem at_558_174 : am_at (am_m 558) 174 = some (.ireturn, 0) := by decide +kernel
theorem at_558_175 : am_at (am_m 558) 175 = some (.iload_n 1, 0) := by decide +kernel
theorem at_558_176 : am_at (am_m 558) 176 = some (.bipush 16, 0) := by decide +kernel
theorem at_558_178 : am_at (am_m 558) 178 = some (.if_icmp .ne 16, 194) := by decide +kernel
theorem at_558_181 : am_at (am_m 558) 181 = some (.aload_n 0, 0) := by decide +kernel
theorem at_558_182 : am_at (am_m 558) 182 = some (.aload_n 0, 0) := by decide +kernel
theorem at_558_183 : am_at (am_m 558) 183 = some (.getfield 1044, 3193) := by decide +kernel
theorem at_558_186 : am_at (am_m 558) 186 = some (.iconst 1, 0) := by decide +kernel
theorem at_558_187 : am_at (am_m 558) 187 = some (.isub, 0) := by decide +kernel
theorem at_558_188 : am_at (am_m 558) 188 = some (.invokevirtual 1059, 565) := by decide +kernel
theorem at_558_191 : am_at (am_m 558) 191 = some (.ifCond .ne 5, 196) := by decide +kernel
theorem at_558_194 : am_at (am_m 558) 194 = some (.iconst 0, 0) := by decide +kernel
theorem at_558_195 : am_at (am_m 558) 195 = some (.ireturn, 0) := by decide +kernel
theorem at_558_196 : am_at (am_m 558) 196 = some (.aload_n 0, 0) := by decide +kernel
theorem at_558_197 : am_at (am_m 558) 197 = some (.dup, 0) := by decide +kernel
theorem at_558_198 : am_at (am_m 558) 198 = some (.getfield 1044, 3193) := by decide +kernel
theorem at_558_201 : am_at (am_m 558) 201 = some (.iconst 1, 0) := by decide +kernel
theorem at_558_202 : am_at (am_m 558) 202 = some (.isub, 0) := by decide +kernel
theorem at_558_203 : am_at (am_m 558) 203 = some (.putfield 1044, 3193) := by decide +kernel
theorem at_558_206 : am_at (am_m 558) 206 = some (.iconst 1, 0) := by decide +kernel
theorem at_558_207 : am_at (am_m 558) 207 = some (.ireturn, 0) := by decide +kernel
theorem at_559_0 : am_at (am_m 559) 0 = some (.aload_n 0, 0) := by decide +kernel
theorem at_559_1 : am_at (am_m 559) 1 = some (.getfield 238, 3190) := by decide +kernel
theorem at_559_4 : am_at (am_m 559) 4 = some (.sipush 128, 0) := by decide +kernel
theorem at_559_7 : am_at (am_m 559) 7 = some (.iload_n 1, 0) := by decide +kernel
theorem at_559_8 : am_at (am_m 559) 8 = some (.imul, 0) := by decide +kernel
theorem at_559_9 : am_at (am_m 559) 9 = some (.aload_n 0, 0) := by decide +kernel
theorem at_559_10 : am_at (am_m 559) 10 = some (.getfield 244, 3192) := by decide +kernel
theorem at_559_13 : am_at (am_m 559) 13 = some (.iload_n 1, 0) := by decide +kernel
theorem at_559_14 : am_at (am_m 559) 14 = some (.iaload, 0) := by decide +kernel
theorem at_559_15 : am_at (am_m 559) 15 = some (.iadd, 0) := by decide +kernel
theorem at_559_16 : am_at (am_m 559) 16 = some (.iload_n 2, 0) := by decide +kernel
theorem at_559_17 : am_at (am_m 559) 17 = some (.iastore, 0) := by decide +kernel
theorem at_559_18 : am_at (am_m 559) 18 = some (.aload_n 0, 0) := by decide +kernel
theorem at_559_19 : am_at (am_m 559) 19 = some (.getfield 241, 3191) := by decide +kernel
theorem at_559_22 : am_at (am_m 559) 22 = some (.sipush 128, 0) := by decide +kernel
theorem at_559_25 : am_at (am_m 559) 25 = some (.iload_n 1, 0) := by decide +kernel
theorem at_559_26 : am_at (am_m 559) 26 = some (.imul, 0) := by decide +kernel
theorem at_559_27 : am_at (am_m 559) 27 = some (.aload_n 0, 0) := by decide +kernel
theorem at_559_28 : am_at (am_m 559) 28 = some (.getfield 244, 3192) := by decide +kernel
theorem at_559_31 : am_at (am_m 559) 31 = some (.iload_n 1, 0) := by decide +kernel
theorem at_559_32 : am_at (am_m 559) 32 = some (.iaload, 0) := by decide +kernel
theorem at_559_33 : am_at (am_m 559) 33 = some (.iadd, 0) := by decide +kernel
theorem at_559_34 : am_at (am_m 559) 34 = some (.iload_n 3, 0) := by decide +kernel
theorem at_559_35 : am_at (am_m 559) 35 = some (.iastore, 0) := by decide +kernel
theorem at_559_36 : am_at (am_m 559) 36 = some (.aload_n 0, 0) := by decide +kernel
theorem at_559_37 : am_at (am_m 559) 37 = some (.getfield 244, 3192) := by decide +kernel
theorem at_559_40 : am_at (am_m 559) 40 = some (.iload_n 1, 0) := by decide +kernel
theorem at_559_41 : am_at (am_m 559) 41 = some (.dup2, 0) := by decide +kernel
theorem at_559_42 : am_at (am_m 559) 42 = some (.iaload, 0) := by decide +kernel
theorem at_559_43 : am_at (am_m 559) 43 = some (.iconst 1, 0) := by decide +kernel
theorem at_559_44 : am_at (am_m 559) 44 = some (.iadd, 0) := by decide +kernel
theorem at_559_45 : am_at (am_m 559) 45 = some (.iastore, 0) := by decide +kernel
theorem at_559_46 : am_at (am_m 559) 46 = some (.return_, 0) := by decide +kernel
theorem at_560_0 : am_at (am_m 560) 0 = some (.iload_n 1, 0) := by decide +kernel
theorem at_560_1 : am_at (am_m 560) 1 = some (.invokestatic 327, 343) := by decide +kernel
theorem at_560_4 : am_at (am_m 560) 4 = some (.istore_n 2, 0) := by decide +kernel
theorem at_560_5 : am_at (am_m 560) 5 = some (.aload_n 0, 0) := by decide +kernel
theorem at_560_6 : am_at (am_m 560) 6 = some (.getfield 1044, 3193) := by decide +kernel
theorem at_560_9 : am_at (am_m 560) 9 = some (.iload_n 2, 0) := by decide +kernel
theorem at_560_10 : am_at (am_m 560) 10 = some (.isub, 0) := by decide +kernel
theorem at_560_11 : am_at (am_m 560) 11 = some (.istore_n 3, 0) := by decide +kernel
theorem at_560_12 : am_at (am_m 560) 12 = some (.iload_n 3, 0) := by decide +kernel
theorem at_560_13 : am_at (am_m 560) 13 = some (.istore 4, 0) := by decide +kernel
theorem at_560_15 : am_at (am_m 560) 15 = some (.iload 4, 0) := by decide +kernel
theorem at_560_17 : am_at (am_m 560) 17 = some (.aload_n 0, 0) := by decide +kernel
theorem at_560_18 : am_at (am_m 560) 18 = some (.getfield 1044, 3193) := by decide +kernel
theorem at_560_21 : am_at (am_m 560) 21 = some (.if_icmp .ge 26, 47) := by decide +kernel
theorem at_560_24 : am_at (am_m 560) 24 = some (.aload_n 0, 0) := by decide +kernel
theorem at_560_25 : am_at (am_m 560) 25 = some (.iload 4, 0) := by decide +kernel
theorem at_560_27 : am_at (am_m 560) 27 = some (.invokevirtual 1047, 561) := by decide +kernel
theorem at_560_30 : am_at (am_m 560) 30 = some (.aload_n 0, 0) := by decide +kernel
theorem at_560_31 : am_at (am_m 560) 31 = some (.iload 4, 0) := by decide +kernel
theorem at_560_33 : am_at (am_m 560) 33 = some (.invokevirtual 1050, 563) := by decide +kernel
theorem at_560_36 : am_at (am_m 560) 36 = some (.ifCond .ne 5, 41) := by decide +kernel
theorem at_560_39 : am_at (am_m 560) 39 = some (.iconst 0, 0) := by decide +kernel
theorem at_560_40 : am_at (am_m 560) 40 = some (.ireturn, 0) := by decide +kernel
theorem at_560_41 : am_at (am_m 560) 41 = some (.iinc 4 1, 0) := by decide +kernel
theorem at_560_44 : am_at (am_m 560) 44 = some (.goto (-29), 15) := by decide +kernel
theorem at_560_47 : am_at (am_m 560) 47 = some (.iload_n 2, 0) := by decide +kernel
theorem at_560_48 : am_at (am_m 560) 48 = some (.iconst 1, 0) := by decide +kernel
theorem at_560_49 : am_at (am_m 560) 49 = some (.if_icmp .le 25, 74) := by decide +kernel
theorem at_560_52 : am_at (am_m 560) 52 = some (.aload_n 0, 0) := by decide +kernel
theorem at_560_53 : am_at (am_m 560) 53 = some (.getfield 244, 3192) := by decide +kernel
theorem at_560_56 : am_at (am_m 560) 56 = some (.iload_n 3, 0) := by decide +kernel
theorem at_560_57 : am_at (am_m 560) 57 = some (.iaload, 0) := by decide +kernel
theorem at_560_58 : am_at (am_m 560) 58 = some (.aload_n 0, 0) := by decide +kernel
theorem at_560_59 : am_at (am_m 560) 59 = some (.getfield 244, 3192) := by decide +kernel
theorem at_560_62 : am_at (am_m 560) 62 = some (.iload_n 3, 0) := by decide +kernel
theorem at_560_63 : am_at (am_m 560) 63 = some (.iconst 1, 0) := by decide +kernel
theorem at_560_64 : am_at (am_m 560) 64 = some (.iadd, 0) := by decide +kernel
theorem at_560_65 : am_at (am_m 560) 65 = some (.iaload, 0) := by decide +kernel
theorem at_560_66 : am_at (am_m 560) 66 = some (.iadd, 0) := by decide +kernel
theorem at_560_67 : am_at (am_m 560) 67 = some (.bipush 100, 0) := by decide +kernel
theorem at_560_69 : am_at (am_m 560) 69 = some (.if_icmp .le 5, 74) := by decide +kernel
theorem at_560_72 : am_at (am_m 560) 72 = some (.iconst 0, 0) := by decide +kernel
theorem at_560_73 : am_at (am_m 560) 73 = some (.ireturn, 0) := by decide +kernel
theorem at_560_74 : am_at (am_m 560) 74 = some (.aload_n 0, 0) := by decide +kernel
theorem at_560_75 : am_at (am_m 560) 75 = some (.getfield 244, 3192) := by decide +kernel
theorem at_560_78 : am_at (am_m 560) 78 = some (.iload_n 3, 0) := by decide +kernel
theorem at_560_79 : am_at (am_m 560) 79 = some (.iaload, 0) := by decide +kernel
theorem at_560_80 : am_at (am_m 560) 80 = some (.istore 4, 0) := by decide +kernel
theorem at_560_82 : am_at (am_m 560) 82 = some (.iload 4, 0) := by decide +kernel
theorem at_560_84 : am_at (am_m 560) 84 = some (.ifCond .le 65, 149) := by decide +kernel
theorem at_560_87 : am_at (am_m 560) 87 = some (.aload_n 0, 0) := by decide +kernel
theorem at_560_88 : am_at (am_m 560) 88 = some (.getfield 238, 3190) := by decide +kernel
theorem at_560_91 : am_at (am_m 560) 91 = some (.sipush 128, 0) := by decide +kernel
theorem at_560_94 : am_at (am_m 560) 94 = some (.iload_n 3, 0) := by decide +kernel
theorem at_560_95 : am_at (am_m 560) 95 = some (.imul, 0) := by decide +kernel
theorem at_560_96 : am_at (am_m 560) 96 = some (.iload 4, 0) := by decide +kernel
theorem at_560_98 : am_at (am_m 560) 98 = some (.iadd, 0) := by decide +kernel
theorem at_560_99 : am_at (am_m 560) 99 = some (.aload_n 0, 0) := by decide +kernel
theorem at_560_100 : am_at (am_m 560) 100 = some (.getfield 238, 3190) := by decide +kernel
theorem at_560_103 : am_at (am_m 560) 103 = some (.sipush 128, 0) := by decide +kernel
theorem at_560_106 : am_at (am_m 560) 106 = some (.iload_n 3, 0) := by decide +kernel
theorem at_560_107 : am_at (am_m 560) 107 = some (.imul, 0) := by decide +kernel
theorem at_560_108 : am_at (am_m 560) 108 = some (.iload 4, 0) := by decide +kernel
theorem at_560_110 : am_at (am_m 560) 110 = some (.iadd, 0) := by decide +kernel
theorem at_560_111 : am_at (am_m 560) 111 = some (.iconst 1, 0) := by decide +kernel
theorem at_560_112 : am_at (am_m 560) 112 = some (.isub, 0) := by decide +kernel
theorem at_560_113 : am_at (am_m 560) 113 = some (.iaload, 0) := by decide +kernel
theorem at_560_114 : am_at (am_m 560) 114 = some (.iastore, 0) := by decide +kernel
theorem at_560_115 : am_at (am_m 560) 115 = some (.aload_n 0, 0) := by decide +kernel
theorem at_560_116 : am_at (am_m 560) 116 = some (.getfield 241, 3191) := by decide +kernel
theorem at_560_119 : am_at (am_m 560) 119 = some (.sipush 128, 0) := by decide +kernel
theorem at_560_122 : am_at (am_m 560) 122 = some (.iload_n 3, 0) := by decide +kernel
theorem at_560_123 : am_at (am_m 560) 123 = some (.imul, 0) := by decide +kernel
theorem at_560_124 : am_at (am_m 560) 124 = some (.iload 4, 0) := by decide +kernel
theorem at_560_126 : am_at (am_m 560) 126 = some (.iadd, 0) := by decide +kernel
theorem at_560_127 : am_at (am_m 560) 127 = some (.aload_n 0, 0) := by decide +kernel
theorem at_560_128 : am_at (am_m 560) 128 = some (.getfield 241, 3191) := by decide +kernel
theorem at_560_131 : am_at (am_m 560) 131 = some (.sipush 128, 0) := by decide +kernel
theorem at_560_134 : am_at (am_m 560) 134 = some (.iload_n 3, 0) := by decide +kernel
theorem at_560_135 : am_at (am_m 560) 135 = some (.imul, 0) := by decide +kernel
theorem at_560_136 : am_at (am_m 560) 136 = some (.iload 4, 0) := by decide +kernel
theorem at_560_138 : am_at (am_m 560) 138 = some (.iadd, 0) := by decide +kernel
theorem at_560_139 : am_at (am_m 560) 139 = some (.iconst 1, 0) := by decide +kernel
theorem at_560_140 : am_at (am_m 560) 140 = some (.isub, 0) := by decide +kernel
theorem at_560_141 : am_at (am_m 560) 141 = some (.iaload, 0) := by decide +kernel
theorem at_560_142 : am_at (am_m 560) 142 = some (.iastore, 0) := by decide +kernel
theorem at_560_143 : am_at (am_m 560) 143 = some (.iinc 4 (-1), 0) := by decide +kernel
theorem at_560_146 : am_at (am_m 560) 146 = some (.goto (-64), 82) := by decide +kernel
theorem at_560_149 : am_at (am_m 560) 149 = some (.aload_n 0, 0) := by decide +kernel
theorem at_560_150 : am_at (am_m 560) 150 = some (.getfield 238, 3190) := by decide +kernel
theorem at_560_153 : am_at (am_m 560) 153 = some (.sipush 128, 0) := by decide +kernel
theorem at_560_156 : am_at (am_m 560) 156 = some (.iload_n 3, 0) := by decide +kernel
theorem at_560_157 : am_at (am_m 560) 157 = some (.imul, 0) := by decide +kernel
theorem at_560_158 : am_at (am_m 560) 158 = some (.iload_n 1, 0) := by decide +kernel
theorem at_560_159 : am_at (am_m 560) 159 = some (.iastore, 0) := by decide +kernel
theorem at_560_160 : am_at (am_m 560) 160 = some (.aload_n 0, 0) := by decide +kernel
theorem at_560_161 : am_at (am_m 560) 161 = some (.getfield 241, 3191) := by decide +kernel
theorem at_560_164 : am_at (am_m 560) 164 = some (.sipush 128, 0) := by decide +kernel
theorem at_560_167 : am_at (am_m 560) 167 = some (.iload_n 3, 0) := by decide +kernel
theorem at_560_168 : am_at (am_m 560) 168 = some (.imul, 0) := by decide +kernel
theorem at_560_169 : am_at (am_m 560) 169 = some (.iconst 0, 0) := by decide +kernel
theorem at_560_170 : am_at (am_m 560) 170 = some (.iastore, 0) := by decide +kernel
theorem at_560_171 : am_at (am_m 560) 171 = some (.aload_n 0, 0) := by decide +kernel
theorem at_560_172 : am_at (am_m 560) 172 = some (.getfield 244, 3192) := by decide +kernel
theorem at_560_175 : am_at (am_m 560) 175 = some (.iload_n 3, 0) := by decide +kernel
theorem at_560_176 : am_at (am_m 560) 176 = some (.dup2, 0) := by decide +kernel
theorem at_560_177 : am_at (am_m 560) 177 = some (.iaload, 0) := by decide +kernel
theorem at_560_178 : am_at (am_m 560) 178 = some (.iconst 1, 0) := by decide +kernel
theorem at_560_179 : am_at (am_m 560) 179 = some (.iadd, 0) := by decide +kernel
theorem at_560_180 : am_at (am_m 560) 180 = some (.iastore, 0) := by decide +kernel
theorem at_560_181 : am_at (am_m 560) 181 = some (.iconst 0, 0) := by decide +kernel
theorem at_560_182 : am_at (am_m 560) 182 = some (.istore 4, 0) := by decide +kernel
theorem at_560_184 : am_at (am_m 560) 184 = some (.iload_n 2, 0) := by decide +kernel
theorem at_560_185 : am_at (am_m 560) 185 = some (.iconst 1, 0) := by decide +kernel
theorem at_560_186 : am_at (am_m 560) 186 = some (.if_icmp .le 57, 243) := by decide +kernel
theorem at_560_189 : am_at (am_m 560) 189 = some (.iload 4, 0) := by decide +kernel
theorem at_560_191 : am_at (am_m 560) 191 = some (.aload_n 0, 0) := by decide +kernel
theorem at_560_192 : am_at (am_m 560) 192 = some (.getfield 244, 3192) := by decide +kernel
theorem at_560_195 : am_at (am_m 560) 195 = some (.iload_n 3, 0) := by decide +kernel
theorem at_560_196 : am_at (am_m 560) 196 = some (.iconst 1, 0) := by decide +kernel
theorem at_560_197 : am_at (am_m 560) 197 = some (.iadd, 0) := by decide +kernel
theorem at_560_198 : am_at (am_m 560) 198 = some (.iaload, 0) := by decide +kernel
theorem at_560_199 : am_at (am_m 560) 199 = some (.if_icmp .ge 44, 243) := by decide +kernel
theorem at_560_202 : am_at (am_m 560) 202 = some (.aload_n 0, 0) := by decide +kernel
theorem at_560_203 : am_at (am_m 560) 203 = some (.iload_n 3, 0) := by decide +kernel
theorem at_560_204 : am_at (am_m 560) 204 = some (.aload_n 0, 0) := by decide +kernel
theorem at_560_205 : am_at (am_m 560) 205 = some (.getfield 238, 3190) := by decide +kernel
theorem at_560_208 : am_at (am_m 560) 208 = some (.sipush 128, 0) := by decide +kernel
theorem at_560_211 : am_at (am_m 560) 211 = some (.iload_n 3, 0) := by decide +kernel
theorem at_560_212 : am_at (am_m 560) 212 = some (.iconst 1, 0) := by decide +kernel
theorem at_560_213 : am_at (am_m 560) 213 = some (.iadd, 0) := by decide +kernel
theorem at_560_214 : am_at (am_m 560) 214 = some (.imul, 0) := by decide +kernel
theorem at_560_215 : am_at (am_m 560) 215 = some (.iload 4, 0) := by decide +kernel
theorem at_560_217 : am_at (am_m 560) 217 = some (.iadd, 0) := by decide +kernel
theorem at_560_218 : am_at (am_m 560) 218 = some (.iaload, 0) := by decide +kernel
theorem at_560_219 : am_at (am_m 560) 219 = some (.aload_n 0, 0) := by decide +kernel
theorem at_560_220 : am_at (am_m 560) 220 = some (.getfield 241, 3191) := by decide +kernel
theorem at_560_223 : am_at (am_m 560) 223 = some (.sipush 128, 0) := by decide +kernel
theorem at_560_226 : am_at (am_m 560) 226 = some (.iload_n 3, 0) := by decide +kernel
theorem at_560_227 : am_at (am_m 560) 227 = some (.iconst 1, 0) := by decide +kernel
theorem at_560_228 : am_at (am_m 560) 228 = some (.iadd, 0) := by decide +kernel
theorem at_560_229 : am_at (am_m 560) 229 = some (.imul, 0) := by decide +kernel
theorem at_560_230 : am_at (am_m 560) 230 = some (.iload 4, 0) := by decide +kernel
theorem at_560_232 : am_at (am_m 560) 232 = some (.iadd, 0) := by decide +kernel
theorem at_560_233 : am_at (am_m 560) 233 = some (.iaload, 0) := by decide +kernel
theorem at_560_234 : am_at (am_m 560) 234 = some (.invokevirtual 1041, 559) := by decide +kernel
theorem at_560_237 : am_at (am_m 560) 237 = some (.iinc 4 1, 0) := by decide +kernel
theorem at_560_240 : am_at (am_m 560) 240 = some (.goto (-56), 184) := by decide +kernel
theorem at_560_243 : am_at (am_m 560) 243 = some (.aload_n 0, 0) := by decide +kernel
theorem at_560_244 : am_at (am_m 560) 244 = some (.iload_n 3, 0) := by decide +kernel
theorem at_560_245 : am_at (am_m 560) 245 = some (.iconst 1, 0) := by decide +kernel
theorem at_560_246 : am_at (am_m 560) 246 = some (.iadd, 0) := by decide +kernel
theorem at_560_247 : am_at (am_m 560) 247 = some (.putfield 1044, 3193) := by decide +kernel
theorem at_560_250 : am_at (am_m 560) 250 = some (.aload_n 0, 0) := by decide +kernel
theorem at_560_251 : am_at (am_m 560) 251 = some (.iload_n 3, 0) := by decide +kernel
theorem at_560_252 : am_at (am_m 560) 252 = some (.invokevirtual 1050, 563) := by decide +kernel
theorem at_560_255 : am_at (am_m 560) 255 = some (.ireturn, 0) := by decide +kernel
theorem at_561_0 : am_at (am_m 561) 0 = some (.aload_n 0, 0) := by decide +kernel
theorem at_561_1 : am_at (am_m 561) 1 = some (.iload_n 1, 0) := by decide +kernel
theorem at_561_2 : am_at (am_m 561) 2 = some (.invokevirtual 1038, 562) := by decide +kernel
theorem at_561_5 : am_at (am_m 561) 5 = some (.ifCond .eq 14, 19) := by decide +kernel
theorem at_561_8 : am_at (am_m 561) 8 = some (.aload_n 0, 0) := by decide +kernel
theorem at_561_9 : am_at (am_m 561) 9 = some (.getfield 244, 3192) := by decide +kernel
theorem at_561_12 : am_at (am_m 561) 12 = some (.iload_n 1, 0) := by decide +kernel
theorem at_561_13 : am_at (am_m 561) 13 = some (.iaload, 0) := by decide +kernel
theorem at_561_14 : am_at (am_m 561) 14 = some (.bipush 124, 0) := by decide +kernel
theorem at_561_16 : am_at (am_m 561) 16 = some (.if_icmp .le 4, 20) := by decide +kernel
theorem at_561_19 : am_at (am_m 561) 19 = some (.return_, 0) := by decide +kernel
theorem at_561_20 : am_at (am_m 561) 20 = some (.aload_n 0, 0) := by decide +kernel
theorem at_561_21 : am_at (am_m 561) 21 = some (.getfield 244, 3192) := by decide +kernel
theorem at_561_24 : am_at (am_m 561) 24 = some (.iload_n 1, 0) := by decide +kernel
theorem at_561_25 : am_at (am_m 561) 25 = some (.iaload, 0) := by decide +kernel
theorem at_561_26 : am_at (am_m 561) 26 = some (.istore_n 2, 0) := by decide +kernel
theorem at_561_27 : am_at (am_m 561) 27 = some (.iload_n 2, 0) := by decide +kernel
theorem at_561_28 : am_at (am_m 561) 28 = some (.ifCond .le 61, 89) := by decide +kernel
theorem at_561_31 : am_at (am_m 561) 31 = some (.aload_n 0, 0) := by decide +kernel
theorem at_561_32 : am_at (am_m 561) 32 = some (.getfield 238, 3190) := by decide +kernel
theorem at_561_35 : am_at (am_m 561) 35 = some (.sipush 128, 0) := by decide +kernel
theorem at_561_38 : am_at (am_m 561) 38 = some (.iload_n 1, 0) := by decide +kernel
theorem at_561_39 : am_at (am_m 561) 39 = some (.imul, 0) := by decide +kernel
theorem at_561_40 : am_at (am_m 561) 40 = some (.iload_n 2, 0) := by decide +kernel
theorem at_561_41 : am_at (am_m 561) 41 = some (.iadd, 0) := by decide +kernel
theorem at_561_42 : am_at (am_m 561) 42 = some (.aload_n 0, 0) := by decide +kernel
theorem at_561_43 : am_at (am_m 561) 43 = some (.getfield 238, 3190) := by decide +kernel
theorem at_561_46 : am_at (am_m 561) 46 = some (.sipush 128, 0) := by decide +kernel
theorem at_561_49 : am_at (am_m 561) 49 = some (.iload_n 1, 0) := by decide +kernel
theorem at_561_50 : am_at (am_m 561) 50 = some (.imul, 0) := by decide +kernel
theorem at_561_51 : am_at (am_m 561) 51 = some (.iload_n 2, 0) := by decide +kernel
theorem at_561_52 : am_at (am_m 561) 52 = some (.iadd, 0) := by decide +kernel
theorem at_561_53 : am_at (am_m 561) 53 = some (.iconst 1, 0) := by decide +kernel
theorem at_561_54 : am_at (am_m 561) 54 = some (.isub, 0) := by decide +kernel
theorem at_561_55 : am_at (am_m 561) 55 = some (.iaload, 0) := by decide +kernel
theorem at_561_56 : am_at (am_m 561) 56 = some (.iastore, 0) := by decide +kernel
theorem at_561_57 : am_at (am_m 561) 57 = some (.aload_n 0, 0) := by decide +kernel
theorem at_561_58 : am_at (am_m 561) 58 = some (.getfield 241, 3191) := by decide +kernel
theorem at_561_61 : am_at (am_m 561) 61 = some (.sipush 128, 0) := by decide +kernel
theorem at_561_64 : am_at (am_m 561) 64 = some (.iload_n 1, 0) := by decide +kernel
theorem at_561_65 : am_at (am_m 561) 65 = some (.imul, 0) := by decide +kernel
theorem at_561_66 : am_at (am_m 561) 66 = some (.iload_n 2, 0) := by decide +kernel
theorem at_561_67 : am_at (am_m 561) 67 = some (.iadd, 0) := by decide +kernel
theorem at_561_68 : am_at (am_m 561) 68 = some (.aload_n 0, 0) := by decide +kernel
theorem at_561_69 : am_at (am_m 561) 69 = some (.getfield 241, 3191) := by decide +kernel
theorem at_561_72 : am_at (am_m 561) 72 = some (.sipush 128, 0) := by decide +kernel
theorem at_561_75 : am_at (am_m 561) 75 = some (.iload_n 1, 0) := by decide +kernel
theorem at_561_76 : am_at (am_m 561) 76 = some (.imul, 0) := by decide +kernel
theorem at_561_77 : am_at (am_m 561) 77 = some (.iload_n 2, 0) := by decide +kernel
theorem at_561_78 : am_at (am_m 561) 78 = some (.iadd, 0) := by decide +kernel
theorem at_561_79 : am_at (am_m 561) 79 = some (.iconst 1, 0) := by decide +kernel
theorem at_561_80 : am_at (am_m 561) 80 = some (.isub, 0) := by decide +kernel
theorem at_561_81 : am_at (am_m 561) 81 = some (.iaload, 0) := by decide +kernel
theorem at_561_82 : am_at (am_m 561) 82 = some (.iastore, 0) := by decide +kernel
theorem at_561_83 : am_at (am_m 561) 83 = some (.iinc 2 (-1), 0) := by decide +kernel
theorem at_561_86 : am_at (am_m 561) 86 = some (.goto (-59), 27) := by decide +kernel
theorem at_561_89 : am_at (am_m 561) 89 = some (.aload_n 0, 0) := by decide +kernel
theorem at_561_90 : am_at (am_m 561) 90 = some (.getfield 238, 3190) := by decide +kernel
theorem at_561_93 : am_at (am_m 561) 93 = some (.sipush 128, 0) := by decide +kernel
theorem at_561_96 : am_at (am_m 561) 96 = some (.iload_n 1, 0) := by decide +kernel
theorem at_561_97 : am_at (am_m 561) 97 = some (.imul, 0) := by decide +kernel
theorem at_561_98 : am_at (am_m 561) 98 = some (.bipush 20, 0) := by decide +kernel
theorem at_561_100 : am_at (am_m 561) 100 = some (.iastore, 0) := by decide +kernel
theorem at_561_101 : am_at (am_m 561) 101 = some (.aload_n 0, 0) := by decide +kernel
theorem at_561_102 : am_at (am_m 561) 102 = some (.getfield 241, 3191) := by decide +kernel
theorem at_561_105 : am_at (am_m 561) 105 = some (.sipush 128, 0) := by decide +kernel
theorem at_561_108 : am_at (am_m 561) 108 = some (.iload_n 1, 0) := by decide +kernel
theorem at_561_109 : am_at (am_m 561) 109 = some (.imul, 0) := by decide +kernel
theorem at_561_110 : am_at (am_m 561) 110 = some (.iconst 0, 0) := by decide +kernel
theorem at_561_111 : am_at (am_m 561) 111 = some (.iastore, 0) := by decide +kernel
theorem at_561_112 : am_at (am_m 561) 112 = some (.aload_n 0, 0) := by decide +kernel
theorem at_561_113 : am_at (am_m 561) 113 = some (.getfield 244, 3192) := by decide +kernel
theorem at_561_116 : am_at (am_m 561) 116 = some (.iload_n 1, 0) := by decide +kernel
theorem at_561_117 : am_at (am_m 561) 117 = some (.dup2, 0) := by decide +kernel
theorem at_561_118 : am_at (am_m 561) 118 = some (.iaload, 0) := by decide +kernel
theorem at_561_119 : am_at (am_m 561) 119 = some (.iconst 1, 0) := by decide +kernel
theorem at_561_120 : am_at (am_m 561) 120 = some (.iadd, 0) := by decide +kernel
theorem at_561_121 : am_at (am_m 561) 121 = some (.iastore, 0) := by decide +kernel
theorem at_561_122 : am_at (am_m 561) 122 = some (.aload_n 0, 0) := by decide +kernel
theorem at_561_123 : am_at (am_m 561) 123 = some (.iload_n 1, 0) := by decide +kernel
theorem at_561_124 : am_at (am_m 561) 124 = some (.iconst 0, 0) := by decide +kernel
theorem at_561_125 : am_at (am_m 561) 125 = some (.iconst 1, 0) := by decide +kernel
theorem at_561_126 : am_at (am_m 561) 126 = some (.invokevirtual 1041, 559) := by decide +kernel
theorem at_561_129 : am_at (am_m 561) 129 = some (.aload_n 0, 0) := by decide +kernel
theorem at_561_130 : am_at (am_m 561) 130 = some (.iload_n 1, 0) := by decide +kernel
theorem at_561_131 : am_at (am_m 561) 131 = some (.iconst 0, 0) := by decide +kernel
theorem at_561_132 : am_at (am_m 561) 132 = some (.iconst 0, 0) := by decide +kernel
theorem at_561_133 : am_at (am_m 561) 133 = some (.invokevirtual 1041, 559) := by decide +kernel
theorem at_561_136 : am_at (am_m 561) 136 = some (.return_, 0) := by decide +kernel
theorem at_562_0 : am_at (am_m 562) 0 = some (.aload_n 0, 0) := by decide +kernel
theorem at_562_1 : am_at (am_m 562) 1 = some (.getfield 238, 3190) := by decide +kernel
theorem at_562_4 : am_at (am_m 562) 4 = some (.sipush 128, 0) := by decide +kernel
theorem at_562_7 : am_at (am_m 562) 7 = some (.iload_n 1, 0) := by decide +kernel
theorem at_562_8 : am_at (am_m 562) 8 = some (.imul, 0) := by decide +kernel
theorem at_562_9 : am_at (am_m 562) 9 = some (.iaload, 0) := by decide +kernel
theorem at_562_10 : am_at (am_m 562) 10 = some (.invokestatic 338, 334) := by decide +kernel
theorem at_562_13 : am_at (am_m 562) 13 = some (.ireturn, 0) := by decide +kernel
theorem at_563_0 : am_at (am_m 563) 0 = some (.aload_n 0, 0) := by decide +kernel
theorem at_563_1 : am_at (am_m 563) 1 = some (.iconst 0, 0) := by decide +kernel
theorem at_563_2 : am_at (am_m 563) 2 = some (.putfield 303, 3085) := by decide +kernel
theorem at_563_5 : am_at (am_m 563) 5 = some (.aload_n 0, 0) := by decide +kernel
theorem at_563_6 : am_at (am_m 563) 6 = some (.iconst 0, 0) := by decide +kernel
theorem at_563_7 : am_at (am_m 563) 7 = some (.putfield 306, 3086) := by decide +kernel
theorem at_563_10 : am_at (am_m 563) 10 = some (.iconst 0, 0) := by decide +kernel
theorem at_563_11 : am_at (am_m 563) 11 = some (.istore_n 2, 0) := by decide +kernel
theorem at_563_12 : am_at (am_m 563) 12 = some (.iload_n 2, 0) := by decide +kernel
theorem at_563_13 : am_at (am_m 563) 13 = some (.aload_n 0, 0) := by decide +kernel
theorem at_563_14 : am_at (am_m 563) 14 = some (.getfield 244, 3192) := by decide +kernel
theorem at_563_17 : am_at (am_m 563) 17 = some (.iload_n 1, 0) := by decide +kernel
theorem at_563_18 : am_at (am_m 563) 18 = some (.iaload, 0) := by decide +kernel
theorem at_563_19 : am_at (am_m 563) 19 = some (.if_icmp .ge 37, 56) := by decide +kernel
theorem at_563_22 : am_at (am_m 563) 22 = some (.aload_n 0, 0) := by decide +kernel
theorem at_563_23 : am_at (am_m 563) 23 = some (.aload_n 0, 0) := by decide +kernel
theorem at_563_24 : am_at (am_m 563) 24 = some (.getfield 238, 3190) := by decide +kernel
theorem at_563_27 : am_at (am_m 563) 27 = some (.sipush 128, 0) := by decide +kernel
theorem at_563_30 : am_at (am_m 563) 30 = some (.iload_n 1, 0) := by decide +kernel
theorem at_563_31 : am_at (am_m 563) 31 = some (.imul, 0) := by decide +kernel
theorem at_563_32 : am_at (am_m 563) 32 = some (.iload_n 2, 0) := by decide +kernel
theorem at_563_33 : am_at (am_m 563) 33 = some (.iadd, 0) := by decide +kernel
theorem at_563_34 : am_at (am_m 563) 34 = some (.iaload, 0) := by decide +kernel
theorem at_563_35 : am_at (am_m 563) 35 = some (.aload_n 0, 0) := by decide +kernel
theorem at_563_36 : am_at (am_m 563) 36 = some (.getfield 241, 3191) := by decide +kernel
theorem at_563_39 : am_at (am_m 563) 39 = some (.sipush 128, 0) := by decide +kernel
theorem at_563_42 : am_at (am_m 563) 42 = some (.iload_n 1, 0) := by decide +kernel
theorem at_563_43 : am_at (am_m 563) 43 = some (.imul, 0) := by decide +kernel
theorem at_563_44 : am_at (am_m 563) 44 = some (.iload_n 2, 0) := by decide +kernel
theorem at_563_45 : am_at (am_m 563) 45 = some (.iadd, 0) := by decide +kernel
theorem at_563_46 : am_at (am_m 563) 46 = some (.iaload, 0) := by decide +kernel
theorem at_563_47 : am_at (am_m 563) 47 = some (.invokevirtual 335, 335) := by decide +kernel
theorem at_563_50 : am_at (am_m 563) 50 = some (.iinc 2 1, 0) := by decide +kernel
theorem at_563_53 : am_at (am_m 563) 53 = some (.goto (-41), 12) := by decide +kernel
theorem at_563_56 : am_at (am_m 563) 56 = some (.aload_n 0, 0) := by decide +kernel
theorem at_563_57 : am_at (am_m 563) 57 = some (.aload_n 0, 0) := by decide +kernel
theorem at_563_58 : am_at (am_m 563) 58 = some (.iload_n 1, 0) := by decide +kernel
theorem at_563_59 : am_at (am_m 563) 59 = some (.invokevirtual 1038, 562) := by decide +kernel
theorem at_563_62 : am_at (am_m 563) 62 = some (.iconst 0, 0) := by decide +kernel
theorem at_563_63 : am_at (am_m 563) 63 = some (.invokevirtual 355, 446) := by decide +kernel
theorem at_563_66 : am_at (am_m 563) 66 = some (.ireturn, 0) := by decide +kernel
theorem at_564_0 : am_at (am_m 564) 0 = some (.aload_n 0, 0) := by decide +kernel
theorem at_564_1 : am_at (am_m 564) 1 = some (.getfield 244, 3192) := by decide +kernel
theorem at_564_4 : am_at (am_m 564) 4 = some (.iload_n 2, 0) := by decide +kernel
theorem at_564_5 : am_at (am_m 564) 5 = some (.iconst 0, 0) := by decide +kernel
theorem at_564_6 : am_at (am_m 564) 6 = some (.iastore, 0) := by decide +kernel
theorem at_564_7 : am_at (am_m 564) 7 = some (.iconst 0, 0) := by decide +kernel
theorem at_564_8 : am_at (am_m 564) 8 = some (.istore_n 3, 0) := by decide +kernel
theorem at_564_9 : am_at (am_m 564) 9 = some (.iload_n 3, 0) := by decide +kernel
theorem at_564_10 : am_at (am_m 564) 10 = some (.aload_n 0, 0) := by decide +kernel
theorem at_564_11 : am_at (am_m 564) 11 = some (.getfield 244, 3192) := by decide +kernel
theorem at_564_14 : am_at (am_m 564) 14 = some (.iload_n 1, 0) := by decide +kernel
theorem at_564_15 : am_at (am_m 564) 15 = some (.iaload, 0) := by decide +kernel
theorem at_564_16 : am_at (am_m 564) 16 = some (.if_icmp .ge 38, 54) := by decide +kernel
theorem at_564_19 : am_at (am_m 564) 19 = some (.aload_n 0, 0) := by decide +kernel
theorem at_564_20 : am_at (am_m 564) 20 = some (.iload_n 2, 0) := by decide +kernel
theorem at_564_21 : am_at (am_m 564) 21 = some (.aload_n 0, 0) := by decide +kernel
theorem at_564_22 : am_at (am_m 564) 22 = some (.getfield 238, 3190) := by decide +kernel
theorem at_564_25 : am_at (am_m 564) 25 = some (.sipush 128, 0) := by decide +kernel
theorem at_564_28 : am_at (am_m 564) 28 = some (.iload_n 1, 0) := by decide +kernel
theorem at_564_29 : am_at (am_m 564) 29 = some (.imul, 0) := by decide +kernel
theorem at_564_30 : am_at (am_m 564) 30 = some (.iload_n 3, 0) := by decide +kernel
theorem at_564_31 : am_at (am_m 564) 31 = some (.iadd, 0) := by decide +kernel
theorem at_564_32 : am_at (am_m 564) 32 = some (.iaload, 0) := by decide +kernel
theorem at_564_33 : am_at (am_m 564) 33 = some (.aload_n 0, 0) := by decide +kernel
theorem at_564_34 : am_at (am_m 564) 34 = some (.getfield 241, 3191) := by decide +kernel
theorem at_564_37 : am_at (am_m 564) 37 = some (.sipush 128, 0) := by decide +kernel
theorem at_564_40 : am_at (am_m 564) 40 = some (.iload_n 1, 0) := by decide +kernel
theorem at_564_41 : am_at (am_m 564) 41 = some (.imul, 0) := by decide +kernel
theorem at_564_42 : am_at (am_m 564) 42 = some (.iload_n 3, 0) := by decide +kernel
theorem at_564_43 : am_at (am_m 564) 43 = some (.iadd, 0) := by decide +kernel
theorem at_564_44 : am_at (am_m 564) 44 = some (.iaload, 0) := by decide +kernel
theorem at_564_45 : am_at (am_m 564) 45 = some (.invokevirtual 1041, 559) := by decide +kernel
theorem at_564_48 : am_at (am_m 564) 48 = some (.iinc 3 1, 0) := by decide +kernel
theorem at_564_51 : am_at (am_m 564) 51 = some (.goto (-42), 9) := by decide +kernel
theorem at_564_54 : am_at (am_m 564) 54 = some (.return_, 0) := by decide +kernel
theorem at_565_0 : am_at (am_m 565) 0 = some (.iconst 1, 0) := by decide +kernel
theorem at_565_1 : am_at (am_m 565) 1 = some (.istore_n 2, 0) := by decide +kernel
theorem at_565_2 : am_at (am_m 565) 2 = some (.iconst 0, 0) := by decide +kernel
theorem at_565_3 : am_at (am_m 565) 3 = some (.istore_n 3, 0) := by decide +kernel
theorem at_565_4 : am_at (am_m 565) 4 = some (.iload_n 3, 0) := by decide +kernel
theorem at_565_5 : am_at (am_m 565) 5 = some (.aload_n 0, 0) := by decide +kernel
theorem at_565_6 : am_at (am_m 565) 6 = some (.getfield 244, 3192) := by decide +kernel
theorem at_565_9 : am_at (am_m 565) 9 = some (.iload_n 1, 0) := by decide +kernel
theorem at_565_10 : am_at (am_m 565) 10 = some (.iaload, 0) := by decide +kernel
theorem at_565_11 : am_at (am_m 565) 11 = some (.if_icmp .ge 61, 72) := by decide +kernel
theorem at_565_14 : am_at (am_m 565) 14 = some (.aload_n 0, 0) := by decide +kernel
theorem at_565_15 : am_at (am_m 565) 15 = some (.getfield 238, 3190) := by decide +kernel
theorem at_565_18 : am_at (am_m 565) 18 = some (.sipush 128, 0) := by decide +kernel
theorem at_565_21 : am_at (am_m 565) 21 = some (.iload_n 1, 0) := by decide +kernel
theorem at_565_22 : am_at (am_m 565) 22 = some (.imul, 0) := by decide +kernel
theorem at_565_23 : am_at (am_m 565) 23 = some (.iload_n 3, 0) := by decide +kernel
theorem at_565_24 : am_at (am_m 565) 24 = some (.iadd, 0) := by decide +kernel
theorem at_565_25 : am_at (am_m 565) 25 = some (.iaload, 0) := by decide +kernel
theorem at_565_26 : am_at (am_m 565) 26 = some (.istore 4, 0) := by decide +kernel
theorem at_565_28 : am_at (am_m 565) 28 = some (.iload_n 2, 0) := by decide +kernel
theorem at_565_29 : am_at (am_m 565) 29 = some (.ifCond .eq 35, 64) := by decide +kernel
theorem at_565_32 : am_at (am_m 565) 32 = some (.iload 4, 0) := by decide +kernel
theorem at_565_34 : am_at (am_m 565) 34 = some (.bipush 13, 0) := by decide +kernel
theorem at_565_36 : am_at (am_m 565) 36 = some (.if_icmp .eq 28, 64) := by decide +kernel
theorem at_565_39 : am_at (am_m 565) 39 = some (.iload 4, 0) := by decide +kernel
theorem at_565_41 : am_at (am_m 565) 41 = some (.bipush 14, 0) := by decide +kernel
theorem at_565_43 : am_at (am_m 565) 43 = some (.if_icmp .eq 21, 64) := by decide +kernel
theorem at_565_46 : am_at (am_m 565) 46 = some (.iload 4, 0) := by decide +kernel
theorem at_565_48 : am_at (am_m 565) 48 = some (.bipush 8, 0) := by decide +kernel
theorem at_565_50 : am_at (am_m 565) 50 = some (.if_icmp .eq 14, 64) := by decide +kernel
theorem at_565_53 : am_at (am_m 565) 53 = some (.iload 4, 0) := by decide +kernel
theorem at_565_55 : am_at (am_m 565) 55 = some (.bipush 19, 0) := by decide +kernel
theorem at_565_57 : am_at (am_m 565) 57 = some (.if_icmp .eq 7, 64) := by decide +kernel
theorem at_565_60 : am_at (am_m 565) 60 = some (.iconst 1, 0) := by decide +kernel
theorem at_565_61 : am_at (am_m 565) 61 = some (.goto 4, 65) := by decide +kernel
theorem at_565_64 : am_at (am_m 565) 64 = some (.iconst 0, 0) := by decide +kernel
theorem at_565_65 : am_at (am_m 565) 65 = some (.istore_n 2, 0) := by decide +kernel
theorem at_565_66 : am_at (am_m 565) 66 = some (.iinc 3 1, 0) := by decide +kernel
theorem at_565_69 : am_at (am_m 565) 69 = some (.goto (-65), 4) := by decide +kernel
theorem at_565_72 : am_at (am_m 565) 72 = some (.iload_n 2, 0) := by decide +kernel
theorem at_565_73 : am_at (am_m 565) 73 = some (.ireturn, 0) := by decide +kernel
theorem at_566_0 : am_at (am_m 566) 0 = some (.aload_n 0, 0) := by decide +kernel
theorem at_566_1 : am_at (am_m 566) 1 = some (.aload_n 0, 0) := by decide +kernel
theorem at_566_2 : am_at (am_m 566) 2 = some (.iload_n 1, 0) := by decide +kernel
theorem at_566_3 : am_at (am_m 566) 3 = some (.invokevirtual 568, 358) := by decide +kernel
theorem at_566_6 : am_at (am_m 566) 6 = some (.ifCond .eq 15, 21) := by decide +kernel
theorem at_566_9 : am_at (am_m 566) 9 = some (.aload_n 0, 0) := by decide +kernel
theorem at_566_10 : am_at (am_m 566) 10 = some (.iload_n 2, 0) := by decide +kernel
theorem at_566_11 : am_at (am_m 566) 11 = some (.invokevirtual 568, 358) := by decide +kernel
theorem at_566_14 : am_at (am_m 566) 14 = some (.ifCond .eq 7, 21) := by decide +kernel
theorem at_566_17 : am_at (am_m 566) 17 = some (.iconst 0, 0) := by decide +kernel
theorem at_566_18 : am_at (am_m 566) 18 = some (.goto 4, 22) := by decide +kernel
theorem at_566_21 : am_at (am_m 566) 21 = some (.iconst 1, 0) := by decide +kernel
theorem at_566_22 : am_at (am_m 566) 22 = some (.putfield 292, 3072) := by decide +kernel
theorem at_566_25 : am_at (am_m 566) 25 = some (.aload_n 0, 0) := by decide +kernel
theorem at_566_26 : am_at (am_m 566) 26 = some (.getfield 292, 3072) := by decide +kernel
theorem at_566_29 : am_at (am_m 566) 29 = some (.ifCond .le 5, 34) := by decide +kernel
theorem at_566_32 : am_at (am_m 566) 32 = some (.iconst 0, 0) := by decide +kernel
theorem at_566_33 : am_at (am_m 566) 33 = some (.ireturn, 0) := by decide +kernel
theorem at_566_34 : am_at (am_m 566) 34 = some (.aload_n 0, 0) := by decide +kernel
theorem at_566_35 : am_at (am_m 566) 35 = some (.getfield 7, 3074) := by decide +kernel
theorem at_566_38 : am_at (am_m 566) 38 = some (.iload_n 1, 0) := by decide +kernel
theorem at_566_39 : am_at (am_m 566) 39 = some (.iaload, 0) := by decide +kernel
theorem at_566_40 : am_at (am_m 566) 40 = some (.iconst 2, 0) := by decide +kernel
theorem at_566_41 : am_at (am_m 566) 41 = some (.if_icmp .ne 28, 69) := by decide +kernel
theorem at_566_44 : am_at (am_m 566) 44 = some (.aload_n 0, 0) := by decide +kernel
theorem at_566_45 : am_at (am_m 566) 45 = some (.getfield 7, 3074) := by decide +kernel
theorem at_566_48 : am_at (am_m 566) 48 = some (.iload_n 2, 0) := by decide +kernel
theorem at_566_49 : am_at (am_m 566) 49 = some (.iaload, 0) := by decide +kernel
theorem at_566_50 : am_at (am_m 566) 50 = some (.iconst 2, 0) := by decide +kernel
theorem at_566_51 : am_at (am_m 566) 51 = some (.if_icmp .ne 18, 69) := by decide +kernel
theorem at_566_54 : am_at (am_m 566) 54 = some (.aload_n 0, 0) := by decide +kernel
theorem at_566_55 : am_at (am_m 566) 55 = some (.iload_n 1, 0) := by decide +kernel
theorem at_566_56 : am_at (am_m 566) 56 = some (.invokevirtual 635, 391) := by decide +kernel
theorem at_566_59 : am_at (am_m 566) 59 = some (.aload_n 0, 0) := by decide +kernel
theorem at_566_60 : am_at (am_m 566) 60 = some (.iload_n 2, 0) := by decide +kernel
theorem at_566_61 : am_at (am_m 566) 61 = some (.invokevirtual 871, 480) := by decide +kernel
theorem at_566_64 : am_at (am_m 566) 64 = some (.aload_n 0, 0) := by decide +kernel
theorem at_566_65 : am_at (am_m 566) 65 = some (.invokevirtual 1095, 567) := by decide +kernel
theorem at_566_68 : am_at (am_m 566) 68 = some (.ireturn, 0) := by decide +kernel
theorem at_566_69 : am_at (am_m 566) 69 = some (.aload_n 0, 0) := by decide +kernel
theorem at_566_70 : am_at (am_m 566) 70 = some (.getfield 7, 3074) := by decide +kernel
theorem at_566_73 : am_at (am_m 566) 73 = some (.iload_n 1, 0) := by decide +kernel
theorem at_566_74 : am_at (am_m 566) 74 = some (.iaload, 0) := by decide +kernel
theorem at_566_75 : am_at (am_m 566) 75 = some (.iconst 3, 0) := by decide +kernel
theorem at_566_76 : am_at (am_m 566) 76 = some (.if_icmp .ne 35, 111) := by decide +kernel
theorem at_566_79 : am_at (am_m 566) 79 = some (.aload_n 0, 0) := by decide +kernel
theorem at_566_80 : am_at (am_m 566) 80 = some (.getfield 7, 3074) := by decide +kernel
theorem at_566_83 : am_at (am_m 566) 83 = some (.iload_n 2, 0) := by decide +kernel
theorem at_566_84 : am_at (am_m 566) 84 = some (.iaload, 0) := by decide +kernel
theorem at_566_85 : am_at (am_m 566) 85 = some (.iconst 3, 0) := by decide +kernel
theorem at_566_86 : am_at (am_m 566) 86 = some (.if_icmp .ne 25, 111) := by decide +kernel
theorem at_566_89 : am_at (am_m 566) 89 = some (.aload_n 0, 0) := by decide +kernel
theorem at_566_90 : am_at (am_m 566) 90 = some (.getfield 16, 3076) := by decide +kernel
theorem at_566_93 : am_at (am_m 566) 93 = some (.iload_n 1, 0) := by decide +kernel
theorem at_566_94 : am_at (am_m 566) 94 = some (.iaload, 0) := by decide +kernel
theorem at_566_95 : am_at (am_m 566) 95 = some (.aload_n 0, 0) := by decide +kernel
theorem at_566_96 : am_at (am_m 566) 96 = some (.getfield 16, 3076) := by decide +kernel
theorem at_566_99 : am_at (am_m 566) 99 = some (.iload_n 2, 0) := by decide +kernel
theorem at_566_100 : am_at (am_m 566) 100 = some (.iaload, 0) := by decide +kernel
theorem at_566_101 : am_at (am_m 566) 101 = some (.if_icmp .ne 10, 111) := by decide +kernel
theorem at_566_104 : am_at (am_m 566) 104 = some (.aload_n 0, 0) := by decide +kernel
theorem at_566_105 : am_at (am_m 566) 105 = some (.iload_n 1, 0) := by decide +kernel
theorem at_566_106 : am_at (am_m 566) 106 = some (.iload_n 2, 0) := by decide +kernel
theorem at_566_107 : am_at (am_m 566) 107 = some (.invokevirtual 1098, 570) := by decide +kernel
theorem at_566_110 : am_at (am_m 566) 110 = some (.ireturn, 0) := by decide +kernel
theorem at_566_111 : am_at (am_m 566) 111 = some (.aload_n 0, 0) := by decide +kernel
theorem at_566_112 : am_at (am_m 566) 112 = some (.iload_n 1, 0) := by decide +kernel
theorem at_566_113 : am_at (am_m 566) 113 = some (.iload_n 2, 0) := by decide +kernel
theorem at_566_114 : am_at (am_m 566) 114 = some (.invokevirtual 1101, 572) := by decide +kernel
theorem at_566_117 : am_at (am_m 566) 117 = some (.ifCond .eq 7, 124) := by decide +kernel
theorem at_566_120 : am_at (am_m 566) 120 = some (.iconst 1, 0) := by decide +kernel
theorem at_566_121 : am_at (am_m 566) 121 = some (.goto 9, 130) := by decide +kernel
theorem at_566_124 : am_at (am_m 566) 124 = some (.aload_n 0, 0) := by decide +kernel
theorem at_566_125 : am_at (am_m 566) 125 = some (.iload_n 1, 0) := by decide +kernel
theorem at_566_126 : am_at (am_m 566) 126 = some (.iload_n 2, 0) := by decide +kernel
theorem at_566_127 : am_at (am_m 566) 127 = some (.invokevirtual 1104, 573) := by decide +kernel
theorem at_566_130 : am_at (am_m 566) 130 = some (.ireturn, 0) := by decide +kernel
theorem at_567_0 : am_at (am_m 567) 0 = some (.iconst 0, 0) := by decide +kernel
theorem at_567_1 : am_at (am_m 567) 1 = some (.istore_n 1, 0) := by decide +kernel
theorem at_567_2 : am_at (am_m 567) 2 = some (.iload_n 1, 0) := by decide +kernel
theorem at_567_3 : am_at (am_m 567) 3 = some (.bipush 36, 0) := by decide +kernel
theorem at_567_5 : am_at (am_m 567) 5 = some (.if_icmp .ge 16, 21) := by decide +kernel
theorem at_567_8 : am_at (am_m 567) 8 = some (.aload_n 0, 0) := by decide +kernel
theorem at_567_9 : am_at (am_m 567) 9 = some (.getfield 259, 3198) := by decide +kernel
theorem at_567_12 : am_at (am_m 567) 12 = some (.iload_n 1, 0) := by decide +kernel
theorem at_567_13 : am_at (am_m 567) 13 = some (.iconst 0, 0) := by decide +kernel
theorem at_567_14 : am_at (am_m 567) 14 = some (.bastore, 0) := by decide +kernel
theorem at_567_15 : am_at (am_m 567) 15 = some (.iinc 1 1, 0) := by decide +kernel
theorem at_567_18 : am_at (am_m 567) 18 = some (.goto (-16), 2) := by decide +kernel
theorem at_567_21 : am_at (am_m 567) 21 = some (.iconst 0, 0) := by decide +kernel
theorem at_567_22 : am_at (am_m 567) 22 = some (.istore_n 1, 0) := by decide +kernel
theorem at_567_23 : am_at (am_m 567) 23 = some (.iconst 1, 0) := by decide +kernel
theorem at_567_24 : am_at (am_m 567) 24 = some (.istore_n 2, 0) := by decide +kernel
theorem at_567_25 : am_at (am_m 567) 25 = some (.aload_n 0, 0) := by decide +kernel
theorem at_567_26 : am_at (am_m 567) 26 = some (.getfield 262, 3199) := by decide +kernel
theorem at_567_29 : am_at (am_m 567) 29 = some (.iconst 0, 0) := by decide +kernel
theorem at_567_30 : am_at (am_m 567) 30 = some (.iconst 0, 0) := by decide +kernel
theorem at_567_31 : am_at (am_m 567) 31 = some (.iastore, 0) := by decide +kernel
theorem at_567_32 : am_at (am_m 567) 32 = some (.aload_n 0, 0) := by decide +kernel
theorem at_567_33 : am_at (am_m 567) 33 = some (.getfield 259, 3198) := by decide +kernel
theorem at_567_36 : am_at (am_m 567) 36 = some (.iconst 0, 0) := by decide +kernel
theorem at_567_37 : am_at (am_m 567) 37 = some (.iconst 1, 0) := by decide +kernel
theorem at_567_38 : am_at (am_m 567) 38 = some (.bastore, 0) := by decide +kernel
theorem at_567_39 : am_at (am_m 567) 39 = some (.aload_n 0, 0) := by decide +kernel
theorem at_567_40 : am_at (am_m 567) 40 = some (.getfield 253, 3196) := by decide +kernel
theorem at_567_43 : am_at (am_m 567) 43 = some (.iconst 0, 0) := by decide +kernel
theorem at_567_44 : am_at (am_m 567) 44 = some (.iconst (-1), 0) := by decide +kernel
theorem at_567_45 : am_at (am_m 567) 45 = some (.iastore, 0) := by decide +kernel
theorem at_567_46 : am_at (am_m 567) 46 = some (.iload_n 1, 0) := by decide +kernel
theorem at_567_47 : am_at (am_m 567) 47 = some (.iload_n 2, 0) := by decide +kernel
theorem at_567_48 : am_at (am_m 567) 48 = some (.if_icmp .ge 142, 190) := by decide +kernel
theorem at_567_51 : am_at (am_m 567) 51 = some (.aload_n 0, 0) := by decide +kernel
theorem at_567_52 : am_at (am_m 567) 52 = some (.getfield 262, 3199) := by decide +kernel
theorem at_567_55 : am_at (am_m 567) 55 = some (.iload_n 1, 0) := by decide +kernel
theorem at_567_56 : am_at (am_m 567) 56 = some (.iaload, 0) := by decide +kernel
theorem at_567_57 : am_at (am_m 567) 57 = some (.istore_n 3, 0) := by decide +kernel
theorem at_567_58 : am_at (am_m 567) 58 = some (.iinc 1 1, 0) := by decide +kernel
theorem at_567_61 : am_at (am_m 567) 61 = some (.aload_n 0, 0) := by decide +kernel
theorem at_567_62 : am_at (am_m 567) 62 = some (.getfield 51, 3093) := by decide +kernel
theorem at_567_65 : am_at (am_m 567) 65 = some (.iload_n 3, 0) := by decide +kernel
theorem at_567_66 : am_at (am_m 567) 66 = some (.bipush 6, 0) := by decide +kernel
theorem at_567_68 : am_at (am_m 567) 68 = some (.idiv, 0) := by decide +kernel
theorem at_567_69 : am_at (am_m 567) 69 = some (.iaload, 0) := by decide +kernel
theorem at_567_70 : am_at (am_m 567) 70 = some (.aload_n 0, 0) := by decide +kernel
theorem at_567_71 : am_at (am_m 567) 71 = some (.getfield 57, 3096) := by decide +kernel
theorem at_567_74 : am_at (am_m 567) 74 = some (.iload_n 3, 0) := by decide +kernel
theorem at_567_75 : am_at (am_m 567) 75 = some (.bipush 6, 0) := by decide +kernel
theorem at_567_77 : am_at (am_m 567) 77 = some (.irem, 0) := by decide +kernel
theorem at_567_78 : am_at (am_m 567) 78 = some (.iaload, 0) := by decide +kernel
theorem at_567_79 : am_at (am_m 567) 79 = some (.if_icmp .eq 10, 89) := by decide +kernel
theorem at_567_82 : am_at (am_m 567) 82 = some (.aload_n 0, 0) := by decide +kernel
theorem at_567_83 : am_at (am_m 567) 83 = some (.iload_n 3, 0) := by decide +kernel
theorem at_567_84 : am_at (am_m 567) 84 = some (.invokevirtual 1077, 568) := by decide +kernel
theorem at_567_87 : am_at (am_m 567) 87 = some (.iconst 0, 0) := by decide +kernel
theorem at_567_88 : am_at (am_m 567) 88 = some (.ireturn, 0) := by decide +kernel
theorem at_567_89 : am_at (am_m 567) 89 = some (.iconst 0, 0) := by decide +kernel
theorem at_567_90 : am_at (am_m 567) 90 = some (.istore 4, 0) := by decide +kernel
theorem at_567_92 : am_at (am_m 567) 92 = some (.iload 4, 0) := by decide +kernel
theorem at_567_94 : am_at (am_m 567) 94 = some (.iconst 4, 0) := by decide +kernel
theorem at_567_95 : am_at (am_m 567) 95 = some (.if_icmp .ge 92, 187) := by decide +kernel
theorem at_567_98 : am_at (am_m 567) 98 = some (.bipush 6, 0) := by decide +kernel
theorem at_567_100 : am_at (am_m 567) 100 = some (.aload_n 0, 0) := by decide +kernel
theorem at_567_101 : am_at (am_m 567) 101 = some (.getfield 54, 3094) := by decide +kernel
theorem at_567_104 : am_at (am_m 567) 104 = some (.iload_n 3, 0) := by decide +kernel
theorem at_567_105 : am_at (am_m 567) 105 = some (.bipush 6, 0) := by decide +kernel
theorem at_567_107 : am_at (am_m 567) 107 = some (.idiv, 0) := by decide +kernel
theorem at_567_108 : am_at (am_m 567) 108 = some (.iaload, 0) := by decide +kernel
theorem at_567_109 : am_at (am_m 567) 109 = some (.iload 4, 0) := by decide +kernel
theorem at_567_111 : am_at (am_m 567) 111 = some (.invokestatic 447, 367) := by decide +kernel
theorem at_567_114 : am_at (am_m 567) 114 = some (.imul, 0) := by decide +kernel
theorem at_567_115 : am_at (am_m 567) 115 = some (.aload_n 0, 0) := by decide +kernel
theorem at_567_116 : am_at (am_m 567) 116 = some (.getfield 60, 3097) := by decide +kernel
theorem at_567_119 : am_at (am_m 567) 119 = some (.iload_n 3, 0) := by decide +kernel
theorem at_567_120 : am_at (am_m 567) 120 = some (.bipush 6, 0) := by decide +kernel
theorem at_567_122 : am_at (am_m 567) 122 = some (.irem, 0) := by decide +kernel
theorem at_567_123 : am_at (am_m 567) 123 = some (.iaload, 0) := by decide +kernel
theorem at_567_124 : am_at (am_m 567) 124 = some (.iload 4, 0) := by decide +kernel
theorem at_567_126 : am_at (am_m 567) 126 = some (.invokestatic 447, 367) := by decide +kernel
theorem at_567_129 : am_at (am_m 567) 129 = some (.iadd, 0) := by decide +kernel
theorem at_567_130 : am_at (am_m 567) 130 = some (.istore 5, 0) := by decide +kernel
theorem at_567_132 : am_at (am_m 567) 132 = some (.aload_n 0, 0) := by decide +kernel
theorem at_567_133 : am_at (am_m 567) 133 = some (.getfield 259, 3198) := by decide +kernel
theorem at_567_136 : am_at (am_m 567) 136 = some (.iload 5, 0) := by decide +kernel
theorem at_567_138 : am_at (am_m 567) 138 = some (.baload, 0) := by decide +kernel
theorem at_567_139 : am_at (am_m 567) 139 = some (.ifCond .eq 6, 145) := by decide +kernel
theorem at_567_142 : am_at (am_m 567) 142 = some (.goto 39, 181) := by decide +kernel
theorem at_567_145 : am_at (am_m 567) 145 = some (.aload_n 0, 0) := by decide +kernel
theorem at_567_146 : am_at (am_m 567) 146 = some (.getfield 259, 3198) := by decide +kernel
theorem at_567_149 : am_at (am_m 567) 149 = some (.iload 5, 0) := by decide +kernel
theorem at_567_151 : am_at (am_m 567) 151 = some (.iconst 1, 0) := by decide +kernel
theorem at_567_152 : am_at (am_m 567) 152 = some (.bastore, 0) := by decide +kernel
theorem at_567_153 : am_at (am_m 567) 153 = some (.aload_n 0, 0) := by decide +kernel
theorem at_567_154 : am_at (am_m 567) 154 = some (.getfield 253, 3196) := by decide +kernel
theorem at_567_157 : am_at (am_m 567) 157 = some (.iload 5, 0) := by decide +kernel
theorem at_567_159 : am_at (am_m 567) 159 = some (.iload_n 3, 0) := by decide +kernel
theorem at_567_160 : am_at (am_m 567) 160 = some (.iastore, 0) := by decide +kernel
theorem at_567_161 : am_at (am_m 567) 161 = some (.aload_n 0, 0) := by decide +kernel
theorem at_567_162 : am_at (am_m 567) 162 = some (.getfield 256, 3197) := by decide +kernel
theorem at_567_165 : am_at (am_m 567) 165 = some (.iload 5, 0) := by decide +kernel
theorem at_567_167 : am_at (am_m 567) 167 = some (.iload 4, 0) := by decide +kernel
theorem at_567_169 : am_at (am_m 567) 169 = some (.iastore, 0) := by decide +kernel
theorem at_567_170 : am_at (am_m 567) 170 = some (.aload_n 0, 0) := by decide +kernel
theorem at_567_171 : am_at (am_m 567) 171 = some (.getfield 262, 3199) := by decide +kernel
theorem at_567_174 : am_at (am_m 567) 174 = some (.iload_n 2, 0) := by decide +kernel
theorem at_567_175 : am_at (am_m 567) 175 = some (.iload 5, 0) := by decide +kernel
theorem at_567_177 : am_at (am_m 567) 177 = some (.iastore, 0) := by decide +kernel
theorem at_567_178 : am_at (am_m 567) 178 = some (.iinc 2 1, 0) := by decide +kernel
theorem at_567_181 : am_at (am_m 567) 181 = some (.iinc 4 1, 0) := by decide +kernel
theorem at_567_184 : am_at (am_m 567) 184 = some (.goto (-92), 92) := by decide +kernel
theorem at_567_187 : am_at (am_m 567) 187 = some (.goto (-141), 46) := by decide +kernel
theorem at_567_190 : am_at (am_m 567) 190 = some (.iconst 1, 0) := by decide +kernel
theorem at_567_191 : am_at (am_m 567) 191 = some (.ireturn, 0) := by decide +kernel
theorem at_568_0 : am_at (am_m 568) 0 = some (.aload_n 0, 0) := by decide +kernel
theorem at_568_1 : am_at (am_m 568) 1 = some (.invokevirtual 1080, 569) := by decide +kernel
theorem at_568_4 : am_at (am_m 568) 4 = some (.iconst 0, 0) := by decide +kernel
theorem at_568_5 : am_at (am_m 568) 5 = some (.istore_n 2, 0) := by decide +kernel
theorem at_568_6 : am_at (am_m 568) 6 = some (.iload_n 1, 0) := by decide +kernel
theorem at_568_7 : am_at (am_m 568) 7 = some (.istore_n 3, 0) := by decide +kernel
theorem at_568_8 : am_at (am_m 568) 8 = some (.aload_n 0, 0) := by decide +kernel
theorem at_568_9 : am_at (am_m 568) 9 = some (.getfield 253, 3196) := by decide +kernel
theorem at_568_12 : am_at (am_m 568) 12 = some (.iload_n 3, 0) := by decide +kernel
theorem at_568_13 : am_at (am_m 568) 13 = some (.iaload, 0) := by decide +kernel
theorem at_568_14 : am_at (am_m 568) 14 = some (.ifCond .lt 28, 42) := by decide +kernel
theorem at_568_17 : am_at (am_m 568) 17 = some (.aload_n 0, 0) := by decide +kernel
theorem at_568_18 : am_at (am_m 568) 18 = some (.getfield 265, 3200) := by decide +kernel
theorem at_568_21 : am_at (am_m 568) 21 = some (.iload_n 2, 0) := by decide +kernel
theorem at_568_22 : am_at (am_m 568) 22 = some (.aload_n 0, 0) := by decide +kernel
theorem at_568_23 : am_at (am_m 568) 23 = some (.getfield 256, 3197) := by decide +kernel
theorem at_568_26 : am_at (am_m 568) 26 = some (.iload_n 3, 0) := by decide +kernel
theorem at_568_27 : am_at (am_m 568) 27 = some (.iaload, 0) := by decide +kernel
theorem at_568_28 : am_at (am_m 568) 28 = some (.iastore, 0) := by decide +kernel
theorem at_568_29 : am_at (am_m 568) 29 = some (.iinc 2 1, 0) := by decide +kernel
theorem at_568_32 : am_at (am_m 568) 32 = some (.aload_n 0, 0) := by decide +kernel
theorem at_568_33 : am_at (am_m 568) 33 = some (.getfield 253, 3196) := by decide +kernel
theorem at_568_36 : am_at (am_m 568) 36 = some (.iload_n 3, 0) := by decide +kernel
theorem at_568_37 : am_at (am_m 568) 37 = some (.iaload, 0) := by decide +kernel
theorem at_568_38 : am_at (am_m 568) 38 = some (.istore_n 3, 0) := by decide +kernel
theorem at_568_39 : am_at (am_m 568) 39 = some (.goto (-31), 8) := by decide +kernel
theorem at_568_42 : am_at (am_m 568) 42 = some (.aload_n 0, 0) := by decide +kernel
theorem at_568_43 : am_at (am_m 568) 43 = some (.getfield 250, 3195) := by decide +kernel
theorem at_568_46 : am_at (am_m 568) 46 = some (.iconst 3, 0) := by decide +kernel
theorem at_568_47 : am_at (am_m 568) 47 = some (.iload_n 2, 0) := by decide +kernel
theorem at_568_48 : am_at (am_m 568) 48 = some (.iastore, 0) := by decide +kernel
theorem at_568_49 : am_at (am_m 568) 49 = some (.iconst 0, 0) := by decide +kernel
theorem at_568_50 : am_at (am_m 568) 50 = some (.istore_n 3, 0) := by decide +kernel
theorem at_568_51 : am_at (am_m 568) 51 = some (.iload_n 3, 0) := by decide +kernel
theorem at_568_52 : am_at (am_m 568) 52 = some (.iload_n 2, 0) := by decide +kernel
theorem at_568_53 : am_at (am_m 568) 53 = some (.if_icmp .ge 33, 86) := by decide +kernel
theorem at_568_56 : am_at (am_m 568) 56 = some (.iload_n 3, 0) := by decide +kernel
theorem at_568_57 : am_at (am_m 568) 57 = some (.bipush 11, 0) := by decide +kernel
theorem at_568_59 : am_at (am_m 568) 59 = some (.if_icmp .ge 27, 86) := by decide +kernel
theorem at_568_62 : am_at (am_m 568) 62 = some (.aload_n 0, 0) := by decide +kernel
theorem at_568_63 : am_at (am_m 568) 63 = some (.getfield 250, 3195) := by decide +kernel
theorem at_568_66 : am_at (am_m 568) 66 = some (.iconst 4, 0) := by decide +kernel
theorem at_568_67 : am_at (am_m 568) 67 = some (.iload_n 3, 0) := by decide +kernel
theorem at_568_68 : am_at (am_m 568) 68 = some (.iadd, 0) := by decide +kernel
theorem at_568_69 : am_at (am_m 568) 69 = some (.aload_n 0, 0) := by decide +kernel
theorem at_568_70 : am_at (am_m 568) 70 = some (.getfield 265, 3200) := by decide +kernel
theorem at_568_73 : am_at (am_m 568) 73 = some (.iload_n 2, 0) := by decide +kernel
theorem at_568_74 : am_at (am_m 568) 74 = some (.iconst 1, 0) := by decide +kernel
theorem at_568_75 : am_at (am_m 568) 75 = some (.isub, 0) := by decide +kernel
theorem at_568_76 : am_at (am_m 568) 76 = some (.iload_n 3, 0) := by decide +kernel
theorem at_568_77 : am_at (am_m 568) 77 = some (.isub, 0) := by decide +kernel
theorem at_568_78 : am_at (am_m 568) 78 = some (.iaload, 0) := by decide +kernel
theorem at_568_79 : am_at (am_m 568) 79 = some (.iastore, 0) := by decide +kernel
theorem at_568_80 : am_at (am_m 568) 80 = some (.iinc 3 1, 0) := by decide +kernel
theorem at_568_83 : am_at (am_m 568) 83 = some (.goto (-32), 51) := by decide +kernel
theorem at_568_86 : am_at (am_m 568) 86 = some (.return_, 0) := by decide +kernel
theorem at_569_0 : am_at (am_m 569) 0 = some (.iconst 0, 0) := by decide +kernel
theorem at_569_1 : am_at (am_m 569) 1 = some (.istore_n 1, 0) := by decide +kernel
theorem at_569_2 : am_at (am_m 569) 2 = some (.iload_n 1, 0) := by decide +kernel
theorem at_569_3 : am_at (am_m 569) 3 = some (.bipush 15, 0) := by decide +kernel
theorem at_569_5 : am_at (am_m 569) 5 = some (.if_icmp .ge 16, 21) := by decide +kernel
theorem at_569_8 : am_at (am_m 569) 8 = some (.aload_n 0, 0) := by decide +kernel
theorem at_569_9 : am_at (am_m 569) 9 = some (.getfield 250, 3195) := by decide +kernel
theorem at_569_12 : am_at (am_m 569) 12 = some (.iload_n 1, 0) := by decide +kernel
theorem at_569_13 : am_at (am_m 569) 13 = some (.iconst 0, 0) := by decide +kernel
theorem at_569_14 : am_at (am_m 569) 14 = some (.iastore, 0) := by decide +kernel
theorem at_569_15 : am_at (am_m 569) 15 = some (.iinc 1 1, 0) := by decide +kernel
theorem at_569_18 : am_at (am_m 569) 18 = some (.goto (-16), 2) := by decide +kernel
theorem at_569_21 : am_at (am_m 569) 21 = some (.return_, 0) := by decide +kernel
theorem at_570_0 : am_at (am_m 570) 0 = some (.iconst 0, 0) := by decide +kernel
theorem at_570_1 : am_at (am_m 570) 1 = some (.istore_n 3, 0) := by decide +kernel
theorem at_570_2 : am_at (am_m 570) 2 = some (.iload_n 3, 0) := by decide +kernel
theorem at_570_3 : am_at (am_m 570) 3 = some (.iconst 1, 0) := by decide +kernel
theorem at_570_4 : am_at (am_m 570) 4 = some (.aload_n 0, 0) := by decide +kernel
theorem at_570_5 : am_at (am_m 570) 5 = some (.getfield 16, 3076) := by decide +kernel
theorem at_570_8 : am_at (am_m 570) 8 = some (.iload_n 1, 0) := by decide +kernel
theorem at_570_9 : am_at (am_m 570) 9 = some (.iaload, 0) := by decide +kernel
theorem at_570_10 : am_at (am_m 570) 10 = some (.ishl, 0) := by decide +kernel
theorem at_570_11 : am_at (am_m 570) 11 = some (.if_icmp .ge 114, 125) := by decide +kernel
theorem at_570_14 : am_at (am_m 570) 14 = some (.aload_n 0, 0) := by decide +kernel
theorem at_570_15 : am_at (am_m 570) 15 = some (.iload_n 1, 0) := by decide +kernel
theorem at_570_16 : am_at (am_m 570) 16 = some (.invokevirtual 571, 359) := by decide +kernel
theorem at_570_19 : am_at (am_m 570) 19 = some (.aload_n 0, 0) := by decide +kernel
theorem at_570_20 : am_at (am_m 570) 20 = some (.iload_n 3, 0) := by decide +kernel
theorem at_570_21 : am_at (am_m 570) 21 = some (.invokevirtual 1083, 571) := by decide +kernel
theorem at_570_24 : am_at (am_m 570) 24 = some (.aload_n 0, 0) := by decide +kernel
theorem at_570_25 : am_at (am_m 570) 25 = some (.getfield 309, 3087) := by decide +kernel
theorem at_570_28 : am_at (am_m 570) 28 = some (.iconst 1, 0) := by decide +kernel
theorem at_570_29 : am_at (am_m 570) 29 = some (.isub, 0) := by decide +kernel
theorem at_570_30 : am_at (am_m 570) 30 = some (.iconst 2, 0) := by decide +kernel
theorem at_570_31 : am_at (am_m 570) 31 = some (.idiv, 0) := by decide +kernel
theorem at_570_32 : am_at (am_m 570) 32 = some (.ishr, 0) := by decide +kernel
theorem at_570_33 : am_at (am_m 570) 33 = some (.iconst 1, 0) := by decide +kernel
theorem at_570_34 : am_at (am_m 570) 34 = some (.iand, 0) := by decide +kernel
theorem at_570_35 : am_at (am_m 570) 35 = some (.istore 4, 0) := by decide +kernel
theorem at_570_37 : am_at (am_m 570) 37 = some (.aload_n 0, 0) := by decide +kernel
theorem at_570_38 : am_at (am_m 570) 38 = some (.iload_n 2, 0) := by decide +kernel
theorem at_570_39 : am_at (am_m 570) 39 = some (.invokevirtual 571, 359) := by decide +kernel
theorem at_570_42 : am_at (am_m 570) 42 = some (.aload_n 0, 0) := by decide +kernel
theorem at_570_43 : am_at (am_m 570) 43 = some (.iload_n 3, 0) := by decide +kernel
theorem at_570_44 : am_at (am_m 570) 44 = some (.invokevirtual 1083, 571) := by decide +kernel
theorem at_570_47 : am_at (am_m 570) 47 = some (.aload_n 0, 0) := by decide +kernel
theorem at_570_48 : am_at (am_m 570) 48 = some (.getfield 309, 3087) := by decide +kernel
theorem at_570_51 : am_at (am_m 570) 51 = some (.iconst 1, 0) := by decide +kernel
theorem at_570_52 : am_at (am_m 570) 52 = some (.isub, 0) := by decide +kernel
theorem at_570_53 : am_at (am_m 570) 53 = some (.iconst 2, 0) := by decide +kernel
theorem at_570_54 : am_at (am_m 570) 54 = some (.idiv, 0) := by decide +kernel
theorem at_570_55 : am_at (am_m 570) 55 = some (.ishr, 0) := by decide +kernel
theorem at_570_56 : am_at (am_m 570) 56 = some (.iconst 1, 0) := by decide +kernel
theorem at_570_57 : am_at (am_m 570) 57 = some (.iand, 0) := by decide +kernel
theorem at_570_58 : am_at (am_m 570) 58 = some (.istore 5, 0) := by decide +kernel
theorem at_570_60 : am_at (am_m 570) 60 = some (.iload 4, 0) := by decide +kernel
theorem at_570_62 : am_at (am_m 570) 62 = some (.iload 5, 0) := by decide +kernel
theorem at_570_64 : am_at (am_m 570) 64 = some (.if_icmp .ne 6, 70) := by decide +kernel
theorem at_570_67 : am_at (am_m 570) 67 = some (.goto 52, 119) := by decide +kernel
theorem at_570_70 : am_at (am_m 570) 70 = some (.aload_n 0, 0) := by decide +kernel
theorem at_570_71 : am_at (am_m 570) 71 = some (.invokevirtual 1080, 569) := by decide +kernel
theorem at_570_74 : am_at (am_m 570) 74 = some (.aload_n 0, 0) := by decide +kernel
theorem at_570_75 : am_at (am_m 570) 75 = some (.getfield 250, 3195) := by decide +kernel
theorem at_570_78 : am_at (am_m 570) 78 = some (.iconst 3, 0) := by decide +kernel
theorem at_570_79 : am_at (am_m 570) 79 = some (.aload_n 0, 0) := by decide +kernel
theorem at_570_80 : am_at (am_m 570) 80 = some (.getfield 309, 3087) := by decide +kernel
theorem at_570_83 : am_at (am_m 570) 83 = some (.iastore, 0) := by decide +kernel
theorem at_570_84 : am_at (am_m 570) 84 = some (.iconst 0, 0) := by decide +kernel
theorem at_570_85 : am_at (am_m 570) 85 = some (.istore 6, 0) := by decide +kernel
theorem at_570_87 : am_at (am_m 570) 87 = some (.iload 6, 0) := by decide +kernel
theorem at_570_89 : am_at (am_m 570) 89 = some (.aload_n 0, 0) := by decide +kernel
theorem at_570_90 : am_at (am_m 570) 90 = some (.getfield 309, 3087) := by decide +kernel
theorem at_570_93 : am_at (am_m 570) 93 = some (.if_icmp .ge 24, 117) := by decide +kernel
theorem at_570_96 : am_at (am_m 570) 96 = some (.aload_n 0, 0) := by decide +kernel
theorem at_570_97 : am_at (am_m 570) 97 = some (.getfield 250, 3195) := by decide +kernel
theorem at_570_100 : am_at (am_m 570) 100 = some (.iconst 4, 0) := by decide +kernel
theorem at_570_101 : am_at (am_m 570) 101 = some (.iload 6, 0) := by decide +kernel
theorem at_570_103 : am_at (am_m 570) 103 = some (.iadd, 0) := by decide +kernel
theorem at_570_104 : am_at (am_m 570) 104 = some (.iload_n 3, 0) := by decide +kernel
theorem at_570_105 : am_at (am_m 570) 105 = some (.iload 6, 0) := by decide +kernel
theorem at_570_107 : am_at (am_m 570) 107 = some (.ishr, 0) := by decide +kernel
theorem at_570_108 : am_at (am_m 570) 108 = some (.iconst 1, 0) := by decide +kernel
theorem at_570_109 : am_at (am_m 570) 109 = some (.iand, 0) := by decide +kernel
theorem at_570_110 : am_at (am_m 570) 110 = some (.iastore, 0) := by decide +kernel
theorem at_570_111 : am_at (am_m 570) 111 = some (.iinc 6 1, 0) := by decide +kernel
theorem at_570_114 : am_at (am_m 570) 114 = some (.goto (-27), 87) := by decide +kernel
theorem at_570_117 : am_at (am_m 570) 117 = some (.iconst 0, 0) := by decide +kernel
theorem at_570_118 : am_at (am_m 570) 118 = some (.ireturn, 0) := by decide +kernel
theorem at_570_119 : am_at (am_m 570) 119 = some (.iinc 3 1, 0) := by decide +kernel
theorem at_570_122 : am_at (am_m 570) 122 = some (.goto (-120), 2) := by decide +kernel
theorem at_570_125 : am_at (am_m 570) 125 = some (.iconst 1, 0) := by decide +kernel
theorem at_570_126 : am_at (am_m 570) 126 = some (.ireturn, 0) := by decide +kernel
theorem at_571_0 : am_at (am_m 571) 0 = some (.iconst 0, 0) := by decide +kernel
theorem at_571_1 : am_at (am_m 571) 1 = some (.istore_n 2, 0) := by decide +kernel
theorem at_571_2 : am_at (am_m 571) 2 = some (.iload_n 2, 0) := by decide +kernel
theorem at_571_3 : am_at (am_m 571) 3 = some (.aload_n 0, 0) := by decide +kernel
theorem at_571_4 : am_at (am_m 571) 4 = some (.getfield 309, 3087) := by decide +kernel
theorem at_571_7 : am_at (am_m 571) 7 = some (.if_icmp .ge 20, 27) := by decide +kernel
theorem at_571_10 : am_at (am_m 571) 10 = some (.aload_n 0, 0) := by decide +kernel
theorem at_571_11 : am_at (am_m 571) 11 = some (.getfield 69, 3100) := by decide +kernel
theorem at_571_14 : am_at (am_m 571) 14 = some (.iload_n 2, 0) := by decide +kernel
theorem at_571_15 : am_at (am_m 571) 15 = some (.iload_n 1, 0) := by decide +kernel
theorem at_571_16 : am_at (am_m 571) 16 = some (.iload_n 2, 0) := by decide +kernel
theorem at_571_17 : am_at (am_m 571) 17 = some (.ishr, 0) := by decide +kernel
theorem at_571_18 : am_at (am_m 571) 18 = some (.iconst 1, 0) := by decide +kernel
theorem at_571_19 : am_at (am_m 571) 19 = some (.iand, 0) := by decide +kernel
theorem at_571_20 : am_at (am_m 571) 20 = some (.iastore, 0) := by decide +kernel
theorem at_571_21 : am_at (am_m 571) 21 = some (.iinc 2 1, 0) := by decide +kernel
theorem at_571_24 : am_at (am_m 571) 24 = some (.goto (-22), 2) := by decide +kernel
theorem at_571_27 : am_at (am_m 571) 27 = some (.iconst 0, 0) := by decide +kernel
theorem at_571_28 : am_at (am_m 571) 28 = some (.istore_n 2, 0) := by decide +kernel
theorem at_571_29 : am_at (am_m 571) 29 = some (.iload_n 2, 0) := by decide +kernel
theorem at_571_30 : am_at (am_m 571) 30 = some (.aload_n 0, 0) := by decide +kernel
theorem at_571_31 : am_at (am_m 571) 31 = some (.getfield 306, 3086) := by decide +kernel
theorem at_571_34 : am_at (am_m 571) 34 = some (.if_icmp .ge 15, 49) := by decide +kernel
theorem at_571_37 : am_at (am_m 571) 37 = some (.aload_n 0, 0) := by decide +kernel
theorem at_571_38 : am_at (am_m 571) 38 = some (.iload_n 2, 0) := by decide +kernel
theorem at_571_39 : am_at (am_m 571) 39 = some (.invokevirtual 450, 418) := by decide +kernel
theorem at_571_42 : am_at (am_m 571) 42 = some (.pop, 0) := by decide +kernel
theorem at_571_43 : am_at (am_m 571) 43 = some (.iinc 2 1, 0) := by decide +kernel
theorem at_571_46 : am_at (am_m 571) 46 = some (.goto (-17), 29) := by decide +kernel
theorem at_571_49 : am_at (am_m 571) 49 = some (.iconst 0, 0) := by decide +kernel
theorem at_571_50 : am_at (am_m 571) 50 = some (.istore_n 2, 0) := by decide +kernel
theorem at_571_51 : am_at (am_m 571) 51 = some (.iconst 0, 0) := by decide +kernel
theorem at_571_52 : am_at (am_m 571) 52 = some (.istore_n 3, 0) := by decide +kernel
theorem at_571_53 : am_at (am_m 571) 53 = some (.iload_n 3, 0) := by decide +kernel
theorem at_571_54 : am_at (am_m 571) 54 = some (.aload_n 0, 0) := by decide +kernel
theorem at_571_55 : am_at (am_m 571) 55 = some (.getfield 309, 3087) := by decide +kernel
theorem at_571_58 : am_at (am_m 571) 58 = some (.if_icmp .ge 20, 78) := by decide +kernel
theorem at_571_61 : am_at (am_m 571) 61 = some (.iload_n 2, 0) := by decide +kernel
theorem at_571_62 : am_at (am_m 571) 62 = some (.aload_n 0, 0) := by decide +kernel
theorem at_571_63 : am_at (am_m 571) 63 = some (.getfield 69, 3100) := by decide +kernel
theorem at_571_66 : am_at (am_m 571) 66 = some (.iload_n 3, 0) := by decide +kernel
theorem at_571_67 : am_at (am_m 571) 67 = some (.iaload, 0) := by decide +kernel
theorem at_571_68 : am_at (am_m 571) 68 = some (.iload_n 3, 0) := by decide +kernel
theorem at_571_69 : am_at (am_m 571) 69 = some (.ishl, 0) := by decide +kernel
theorem at_571_70 : am_at (am_m 571) 70 = some (.ior, 0) := by decide +kernel
theorem at_571_71 : am_at (am_m 571) 71 = some (.istore_n 2, 0) := by decide +kernel
theorem at_571_72 : am_at (am_m 571) 72 = some (.iinc 3 1, 0) := by decide +kernel
theorem at_571_75 : am_at (am_m 571) 75 = some (.goto (-22), 53) := by decide +kernel
theorem at_571_78 : am_at (am_m 571) 78 = some (.iload_n 2, 0) := by decide +kernel
theorem at_571_79 : am_at (am_m 571) 79 = some (.ireturn, 0) := by decide +kernel
theorem at_572_0 : am_at (am_m 572) 0 = some (.aload_n 0, 0) := by decide +kernel
theorem at_572_1 : am_at (am_m 572) 1 = some (.iload_n 1, 0) := by decide +kernel
theorem at_572_2 : am_at (am_m 572) 2 = some (.invokevirtual 635, 391) := by decide +kernel
theorem at_572_5 : am_at (am_m 572) 5 = some (.aload_n 0, 0) := by decide +kernel
theorem at_572_6 : am_at (am_m 572) 6 = some (.invokevirtual 1074, 557) := by decide +kernel
theorem at_572_9 : am_at (am_m 572) 9 = some (.ifCond .ne 5, 14) := by decide +kernel
theorem at_572_12 : am_at (am_m 572) 12 = some (.iconst 0, 0) := by decide +kernel
theorem at_572_13 : am_at (am_m 572) 13 = some (.ireturn, 0) := by decide +kernel
theorem at_572_14 : am_at (am_m 572) 14 = some (.aload_n 0, 0) := by decide +kernel
theorem at_572_15 : am_at (am_m 572) 15 = some (.iconst 0, 0) := by decide +kernel
theorem at_572_16 : am_at (am_m 572) 16 = some (.invokevirtual 1035, 536) := by decide +kernel
theorem at_572_19 : am_at (am_m 572) 19 = some (.aload_n 0, 0) := by decide +kernel
theorem at_572_20 : am_at (am_m 572) 20 = some (.aload_n 0, 0) := by decide +kernel
theorem at_572_21 : am_at (am_m 572) 21 = some (.getfield 306, 3086) := by decide +kernel
theorem at_572_24 : am_at (am_m 572) 24 = some (.putfield 1086, 3203) := by decide +kernel
theorem at_572_27 : am_at (am_m 572) 27 = some (.iconst 0, 0) := by decide +kernel
theorem at_572_28 : am_at (am_m 572) 28 = some (.istore_n 3, 0) := by decide +kernel
theorem at_572_29 : am_at (am_m 572) 29 = some (.iload_n 3, 0) := by decide +kernel
theorem at_572_30 : am_at (am_m 572) 30 = some (.aload_n 0, 0) := by decide +kernel
theorem at_572_31 : am_at (am_m 572) 31 = some (.getfield 306, 3086) := by decide +kernel
theorem at_572_34 : am_at (am_m 572) 34 = some (.if_icmp .ge 33, 67) := by decide +kernel
theorem at_572_37 : am_at (am_m 572) 37 = some (.aload_n 0, 0) := by decide +kernel
theorem at_572_38 : am_at (am_m 572) 38 = some (.getfield 268, 3201) := by decide +kernel
theorem at_572_41 : am_at (am_m 572) 41 = some (.iload_n 3, 0) := by decide +kernel
theorem at_572_42 : am_at (am_m 572) 42 = some (.aload_n 0, 0) := by decide +kernel
theorem at_572_43 : am_at (am_m 572) 43 = some (.getfield 45, 3088) := by decide +kernel
theorem at_572_46 : am_at (am_m 572) 46 = some (.iload_n 3, 0) := by decide +kernel
theorem at_572_47 : am_at (am_m 572) 47 = some (.iaload, 0) := by decide +kernel
theorem at_572_48 : am_at (am_m 572) 48 = some (.iastore, 0) := by decide +kernel
theorem at_572_49 : am_at (am_m 572) 49 = some (.aload_n 0, 0) := by decide +kernel
theorem at_572_50 : am_at (am_m 572) 50 = some (.getfield 271, 3202) := by decide +kernel
theorem at_572_53 : am_at (am_m 572) 53 = some (.iload_n 3, 0) := by decide +kernel
theorem at_572_54 : am_at (am_m 572) 54 = some (.aload_n 0, 0) := by decide +kernel
theorem at_572_55 : am_at (am_m 572) 55 = some (.getfield 48, 3089) := by decide +kernel
theorem at_572_58 : am_at (am_m 572) 58 = some (.iload_n 3, 0) := by decide +kernel
theorem at_572_59 : am_at (am_m 572) 59 = some (.iaload, 0) := by decide +kernel
theorem at_572_60 : am_at (am_m 572) 60 = some (.iastore, 0) := by decide +kernel
theorem at_572_61 : am_at (am_m 572) 61 = some (.iinc 3 1, 0) := by decide +kernel
theorem at_572_64 : am_at (am_m 572) 64 = some (.goto (-35), 29) := by decide +kernel
theorem at_572_67 : am_at (am_m 572) 67 = some (.aload_n 0, 0) := by decide +kernel
theorem at_572_68 : am_at (am_m 572) 68 = some (.iload_n 2, 0) := by decide +kernel
theorem at_572_69 : am_at (am_m 572) 69 = some (.invokevirtual 635, 391) := by decide +kernel
theorem at_572_72 : am_at (am_m 572) 72 = some (.aload_n 0, 0) := by decide +kernel
theorem at_572_73 : am_at (am_m 572) 73 = some (.invokevirtual 1074, 557) := by decide +kernel
theorem at_572_76 : am_at (am_m 572) 76 = some (.ifCond .ne 5, 81) := by decide +kernel
theorem at_572_79 : am_at (am_m 572) 79 = some (.iconst 0, 0) := by decide +kernel
theorem at_572_80 : am_at (am_m 572) 80 = some (.ireturn, 0) := by decide +kernel
theorem at_572_81 : am_at (am_m 572) 81 = some (.aload_n 0, 0) := by decide +kernel
theorem at_572_82 : am_at (am_m 572) 82 = some (.iconst 0, 0) := by decide +kernel
theorem at_572_83 : am_at (am_m 572) 83 = some (.invokevirtual 1035, 536) := by decide +kernel
theorem at_572_86 : am_at (am_m 572) 86 = some (.aload_n 0, 0) := by decide +kernel
theorem at_572_87 : am_at (am_m 572) 87 = some (.getfield 306, 3086) := by decide +kernel
theorem at_572_90 : am_at (am_m 572) 90 = some (.aload_n 0, 0) := by decide +kernel
theorem at_572_91 : am_at (am_m 572) 91 = some (.getfield 1086, 3203) := by decide +kernel
theorem at_572_94 : am_at (am_m 572) 94 = some (.if_icmp .ne 7, 101) := by decide +kernel
theorem at_572_97 : am_at (am_m 572) 97 = some (.iconst 1, 0) := by decide +kernel
theorem at_572_98 : am_at (am_m 572) 98 = some (.goto 4, 102) := by decide +kernel
theorem at_572_101 : am_at (am_m 572) 101 = some (.iconst 0, 0) := by decide +kernel
theorem at_572_102 : am_at (am_m 572) 102 = some (.istore_n 3, 0) := by decide +kernel
theorem at_572_103 : am_at (am_m 572) 103 = some (.iconst 0, 0) := by decide +kernel
theorem at_572_104 : am_at (am_m 572) 104 = some (.istore 4, 0) := by decide +kernel
theorem at_572_106 : am_at (am_m 572) 106 = some (.iload 4, 0) := by decide +kernel
theorem at_572_108 : am_at (am_m 572) 108 = some (.aload_n 0, 0) := by decide +kernel
theorem at_572_109 : am_at (am_m 572) 109 = some (.getfield 306, 3086) := by decide +kernel
theorem at_572_112 : am_at (am_m 572) 112 = some (.if_icmp .ge 53, 165) := by decide +kernel
theorem at_572_115 : am_at (am_m 572) 115 = some (.iload_n 3, 0) := by decide +kernel
theorem at_572_116 : am_at (am_m 572) 116 = some (.ifCond .eq 49, 165) := by decide +kernel
theorem at_572_119 : am_at (am_m 572) 119 = some (.aload_n 0, 0) := by decide +kernel
theorem at_572_120 : am_at (am_m 572) 120 = some (.getfield 45, 3088) := by decide +kernel
theorem at_572_123 : am_at (am_m 572) 123 = some (.iload 4, 0) := by decide +kernel
theorem at_572_125 : am_at (am_m 572) 125 = some (.iaload, 0) := by decide +kernel
theorem at_572_126 : am_at (am_m 572) 126 = some (.aload_n 0, 0) := by decide +kernel
theorem at_572_127 : am_at (am_m 572) 127 = some (.getfield 268, 3201) := by decide +kernel
theorem at_572_130 : am_at (am_m 572) 130 = some (.iload 4, 0) := by decide +kernel
theorem at_572_132 : am_at (am_m 572) 132 = some (.iaload, 0) := by decide +kernel
theorem at_572_133 : am_at (am_m 572) 133 = some (.if_icmp .ne 24, 157) := by decide +kernel
theorem at_572_136 : am_at (am_m 572) 136 = some (.aload_n 0, 0) := by decide +kernel
theorem at_572_137 : am_at (am_m 572) 137 = some (.getfield 48, 3089) := by decide +kernel
theorem at_572_140 : am_at (am_m 572) 140 = some (.iload 4, 0) := by decide +kernel
theorem at_572_142 : am_at (am_m 572) 142 = some (.iaload, 0) := by decide +kernel
theorem at_572_143 : am_at (am_m 572) 143 = some (.aload_n 0, 0) := by decide +kernel
theorem at_572_144 : am_at (am_m 572) 144 = some (.getfield 271, 3202) := by decide +kernel
theorem at_572_147 : am_at (am_m 572) 147 = some (.iload 4, 0) := by decide +kernel
theorem at_572_149 : am_at (am_m 572) 149 = some (.iaload, 0) := by decide +kernel
theorem at_572_150 : am_at (am_m 572) 150 = some (.if_icmp .ne 7, 157) := by decide +kernel
theorem at_572_153 : am_at (am_m 572) 153 = some (.iconst 1, 0) := by decide +kernel
theorem at_572_154 : am_at (am_m 572) 154 = some (.goto 4, 158) := by decide +kernel
theorem at_572_157 : am_at (am_m 572) 157 = some (.iconst 0, 0) := by decide +kernel
theorem at_572_158 : am_at (am_m 572) 158 = some (.istore_n 3, 0) := by decide +kernel
theorem at_572_159 : am_at (am_m 572) 159 = some (.iinc 4 1, 0) := by decide +kernel
theorem at_572_162 : am_at (am_m 572) 162 = some (.goto (-56), 106) := by decide +kernel
theorem at_572_165 : am_at (am_m 572) 165 = some (.iload_n 3, 0) := by decide +kernel
theorem at_572_166 : am_at (am_m 572) 166 = some (.ireturn, 0) := by decide +kernel
theorem at_573_0 : am_at (am_m 573) 0 = some (.iconst 0, 0) := by decide +kernel
theorem at_573_1 : am_at (am_m 573) 1 = some (.istore_n 3, 0) := by decide +kernel
theorem at_573_2 : am_at (am_m 573) 2 = some (.iload_n 3, 0) := by decide +kernel
theorem at_573_3 : am_at (am_m 573) 3 = some (.aload_n 0, 0) := by decide +kernel
theorem at_573_4 : am_at (am_m 573) 4 = some (.getfield 652, 3103) := by decide +kernel
theorem at_573_7 : am_at (am_m 573) 7 = some (.if_icmp .ge 28, 35) := by decide +kernel
theorem at_573_10 : am_at (am_m 573) 10 = some (.aload_n 0, 0) := by decide +kernel
theorem at_573_11 : am_at (am_m 573) 11 = some (.iload_n 3, 0) := by decide +kernel
theorem at_573_12 : am_at (am_m 573) 12 = some (.invokevirtual 666, 402) := by decide +kernel
theorem at_573_15 : am_at (am_m 573) 15 = some (.aload_n 0, 0) := by decide +kernel
theorem at_573_16 : am_at (am_m 573) 16 = some (.iload_n 1, 0) := by decide +kernel
theorem at_573_17 : am_at (am_m 573) 17 = some (.iload_n 2, 0) := by decide +kernel
theorem at_573_18 : am_at (am_m 573) 18 = some (.invokevirtual 1089, 574) := by decide +kernel
theorem at_573_21 : am_at (am_m 573) 21 = some (.ifCond .eq 8, 29) := by decide +kernel
theorem at_573_24 : am_at (am_m 573) 24 = some (.aload_n 0, 0) := by decide +kernel
theorem at_573_25 : am_at (am_m 573) 25 = some (.invokevirtual 1092, 575) := by decide +kernel
theorem at_573_28 : am_at (am_m 573) 28 = some (.ireturn, 0) := by decide +kernel
theorem at_573_29 : am_at (am_m 573) 29 = some (.iinc 3 1, 0) := by decide +kernel
theorem at_573_32 : am_at (am_m 573) 32 = some (.goto (-30), 2) := by decide +kernel
theorem at_573_35 : am_at (am_m 573) 35 = some (.iconst 0, 0) := by decide +kernel
theorem at_573_36 : am_at (am_m 573) 36 = some (.istore_n 3, 0) := by decide +kernel
theorem at_573_37 : am_at (am_m 573) 37 = some (.iload_n 3, 0) := by decide +kernel
theorem at_573_38 : am_at (am_m 573) 38 = some (.sipush 250, 0) := by decide +kernel
theorem at_573_41 : am_at (am_m 573) 41 = some (.if_icmp .ge 98, 139) := by decide +kernel
theorem at_573_44 : am_at (am_m 573) 44 = some (.aload_n 0, 0) := by decide +kernel
theorem at_573_45 : am_at (am_m 573) 45 = some (.iload_n 3, 0) := by decide +kernel
theorem at_573_46 : am_at (am_m 573) 46 = some (.bipush 125, 0) := by decide +kernel
theorem at_573_48 : am_at (am_m 573) 48 = some (.irem, 0) := by decide +kernel
theorem at_573_49 : am_at (am_m 573) 49 = some (.bipush 25, 0) := by decide +kernel
theorem at_573_51 : am_at (am_m 573) 51 = some (.idiv, 0) := by decide +kernel
theorem at_573_52 : am_at (am_m 573) 52 = some (.iconst 2, 0) := by decide +kernel
theorem at_573_53 : am_at (am_m 573) 53 = some (.isub, 0) := by decide +kernel
theorem at_573_54 : am_at (am_m 573) 54 = some (.putfield 367, 3123) := by decide +kernel
theorem at_573_57 : am_at (am_m 573) 57 = some (.aload_n 0, 0) := by decide +kernel
theorem at_573_58 : am_at (am_m 573) 58 = some (.iload_n 3, 0) := by decide +kernel
theorem at_573_59 : am_at (am_m 573) 59 = some (.bipush 25, 0) := by decide +kernel
theorem at_573_61 : am_at (am_m 573) 61 = some (.irem, 0) := by decide +kernel
theorem at_573_62 : am_at (am_m 573) 62 = some (.iconst 5, 0) := by decide +kernel
theorem at_573_63 : am_at (am_m 573) 63 = some (.idiv, 0) := by decide +kernel
theorem at_573_64 : am_at (am_m 573) 64 = some (.iconst 2, 0) := by decide +kernel
theorem at_573_65 : am_at (am_m 573) 65 = some (.isub, 0) := by decide +kernel
theorem at_573_66 : am_at (am_m 573) 66 = some (.putfield 370, 3124) := by decide +kernel
theorem at_573_69 : am_at (am_m 573) 69 = some (.aload_n 0, 0) := by decide +kernel
theorem at_573_70 : am_at (am_m 573) 70 = some (.iload_n 3, 0) := by decide +kernel
theorem at_573_71 : am_at (am_m 573) 71 = some (.iconst 5, 0) := by decide +kernel
theorem at_573_72 : am_at (am_m 573) 72 = some (.irem, 0) := by decide +kernel
theorem at_573_73 : am_at (am_m 573) 73 = some (.iconst 2, 0) := by decide +kernel
theorem at_573_74 : am_at (am_m 573) 74 = some (.isub, 0) := by decide +kernel
theorem at_573_75 : am_at (am_m 573) 75 = some (.putfield 373, 3125) := by decide +kernel
theorem at_573_78 : am_at (am_m 573) 78 = some (.aload_n 0, 0) := by decide +kernel
theorem at_573_79 : am_at (am_m 573) 79 = some (.iload_n 3, 0) := by decide +kernel
theorem at_573_80 : am_at (am_m 573) 80 = some (.bipush 125, 0) := by decide +kernel
theorem at_573_82 : am_at (am_m 573) 82 = some (.if_icmp .ge 7, 89) := by decide +kernel
theorem at_573_85 : am_at (am_m 573) 85 = some (.iconst 0, 0) := by decide +kernel
theorem at_573_86 : am_at (am_m 573) 86 = some (.goto 4, 90) := by decide +kernel
theorem at_573_89 : am_at (am_m 573) 89 = some (.iconst 3, 0) := by decide +kernel
theorem at_573_90 : am_at (am_m 573) 90 = some (.putfield 376, 3126) := by decide +kernel
theorem at_573_93 : am_at (am_m 573) 93 = some (.iconst 0, 0) := by decide +kernel
theorem at_573_94 : am_at (am_m 573) 94 = some (.istore 4, 0) := by decide +kernel
theorem at_573_96 : am_at (am_m 573) 96 = some (.iload 4, 0) := by decide +kernel
theorem at_573_98 : am_at (am_m 573) 98 = some (.iconst 3, 0) := by decide +kernel
theorem at_573_99 : am_at (am_m 573) 99 = some (.if_icmp .ge 20, 119) := by decide +kernel
theorem at_573_102 : am_at (am_m 573) 102 = some (.aload_n 0, 0) := by decide +kernel
theorem at_573_103 : am_at (am_m 573) 103 = some (.getfield 124, 3127) := by decide +kernel
theorem at_573_106 : am_at (am_m 573) 106 = some (.iload 4, 0) := by decide +kernel
theorem at_573_108 : am_at (am_m 573) 108 = some (.iload 4, 0) := by decide +kernel
theorem at_573_110 : am_at (am_m 573) 110 = some (.iconst 1, 0) := by decide +kernel
theorem at_573_111 : am_at (am_m 573) 111 = some (.iadd, 0) := by decide +kernel
theorem at_573_112 : am_at (am_m 573) 112 = some (.iastore, 0) := by decide +kernel
theorem at_573_113 : am_at (am_m 573) 113 = some (.iinc 4 1, 0) := by decide +kernel
theorem at_573_116 : am_at (am_m 573) 116 = some (.goto (-20), 96) := by decide +kernel
theorem at_573_119 : am_at (am_m 573) 119 = some (.aload_n 0, 0) := by decide +kernel
theorem at_573_120 : am_at (am_m 573) 120 = some (.iload_n 1, 0) := by decide +kernel
theorem at_573_121 : am_at (am_m 573) 121 = some (.iload_n 2, 0) := by decide +kernel
theorem at_573_122 : am_at (am_m 573) 122 = some (.invokevirtual 1089, 574) := by decide +kernel
theorem at_573_125 : am_at (am_m 573) 125 = some (.ifCond .eq 8, 133) := by decide +kernel
theorem at_573_128 : am_at (am_m 573) 128 = some (.aload_n 0, 0) := by decide +kernel
theorem at_573_129 : am_at (am_m 573) 129 = some (.invokevirtual 1092, 575) := by decide +kernel
theorem at_573_132 : am_at (am_m 573) 132 = some (.ireturn, 0) := by decide +kernel
theorem at_573_133 : am_at (am_m 573) 133 = some (.iinc 3 1, 0) := by decide +kernel
theorem at_573_136 : am_at (am_m 573) 136 = some (.goto (-99), 37) := by decide +kernel
theorem at_573_139 : am_at (am_m 573) 139 = some (.iconst 2, 0) := by decide +kernel
theorem at_573_140 : am_at (am_m 573) 140 = some (.ireturn, 0) := by decide +kernel
theorem at_574_0 : am_at (am_m 574) 0 = some (.aload_n 0, 0) := by decide +kernel
theorem at_574_1 : am_at (am_m 574) 1 = some (.iload_n 1, 0) := by decide +kernel
theorem at_574_2 : am_at (am_m 574) 2 = some (.invokevirtual 571, 359) := by decide +kernel
theorem at_574_5 : am_at (am_m 574) 5 = some (.aload_n 0, 0) := by decide +kernel
theorem at_574_6 : am_at (am_m 574) 6 = some (.invokevirtual 669, 403) := by decide +kernel
theorem at_574_9 : am_at (am_m 574) 9 = some (.aload_n 0, 0) := by decide +kernel
theorem at_574_10 : am_at (am_m 574) 10 = some (.getfield 382, 3120) := by decide +kernel
theorem at_574_13 : am_at (am_m 574) 13 = some (.istore_n 3, 0) := by decide +kernel
theorem at_574_14 : am_at (am_m 574) 14 = some (.aload_n 0, 0) := by decide +kernel
theorem at_574_15 : am_at (am_m 574) 15 = some (.getfield 385, 3121) := by decide +kernel
theorem at_574_18 : am_at (am_m 574) 18 = some (.istore 4, 0) := by decide +kernel
theorem at_574_20 : am_at (am_m 574) 20 = some (.aload_n 0, 0) := by decide +kernel
theorem at_574_21 : am_at (am_m 574) 21 = some (.iload_n 2, 0) := by decide +kernel
theorem at_574_22 : am_at (am_m 574) 22 = some (.invokevirtual 571, 359) := by decide +kernel
theorem at_574_25 : am_at (am_m 574) 25 = some (.aload_n 0, 0) := by decide +kernel
theorem at_574_26 : am_at (am_m 574) 26 = some (.invokevirtual 669, 403) := by decide +kernel
theorem at_574_29 : am_at (am_m 574) 29 = some (.iload_n 3, 0) := by decide +kernel
theorem at_574_30 : am_at (am_m 574) 30 = some (.iconst 3, 0) := by decide +kernel
theorem at_574_31 : am_at (am_m 574) 31 = some (.if_icmp .ge 32, 63) := by decide +kernel
theorem at_574_34 : am_at (am_m 574) 34 = some (.aload_n 0, 0) := by decide +kernel
theorem at_574_35 : am_at (am_m 574) 35 = some (.getfield 382, 3120) := by decide +kernel
theorem at_574_38 : am_at (am_m 574) 38 = some (.iconst 3, 0) := by decide +kernel
theorem at_574_39 : am_at (am_m 574) 39 = some (.if_icmp .ge 24, 63) := by decide +kernel
theorem at_574_42 : am_at (am_m 574) 42 = some (.iload_n 3, 0) := by decide +kernel
theorem at_574_43 : am_at (am_m 574) 43 = some (.aload_n 0, 0) := by decide +kernel
theorem at_574_44 : am_at (am_m 574) 44 = some (.getfield 382, 3120) := by decide +kernel
theorem at_574_47 : am_at (am_m 574) 47 = some (.if_icmp .ne 12, 59) := by decide +kernel
theorem at_574_50 : am_at (am_m 574) 50 = some (.iload 4, 0) := by decide +kernel
theorem at_574_52 : am_at (am_m 574) 52 = some (.aload_n 0, 0) := by decide +kernel
theorem at_574_53 : am_at (am_m 574) 53 = some (.getfield 385, 3121) := by decide +kernel
theorem at_574_56 : am_at (am_m 574) 56 = some (.if_icmp .eq 7, 63) := by decide +kernel
theorem at_574_59 : am_at (am_m 574) 59 = some (.iconst 1, 0) := by decide +kernel
theorem at_574_60 : am_at (am_m 574) 60 = some (.goto 4, 64) := by decide +kernel
theorem at_574_63 : am_at (am_m 574) 63 = some (.iconst 0, 0) := by decide +kernel
theorem at_574_64 : am_at (am_m 574) 64 = some (.ireturn, 0) := by decide +kernel
theorem at_575_0 : am_at (am_m 575) 0 = some (.aload_n 0, 0) := by decide +kernel
theorem at_575_1 : am_at (am_m 575) 1 = some (.invokevirtual 1080, 569) := by decide +kernel
theorem at_575_4 : am_at (am_m 575) 4 = some (.aload_n 0, 0) := by decide +kernel
theorem at_575_5 : am_at (am_m 575) 5 = some (.getfield 250, 3195) := by decide +kernel
theorem at_575_8 : am_at (am_m 575) 8 = some (.iconst 0, 0) := by decide +kernel
theorem at_575_9 : am_at (am_m 575) 9 = some (.aload_n 0, 0) := by decide +kernel
theorem at_575_10 : am_at (am_m 575) 10 = some (.getfield 367, 3123) := by decide +kernel
theorem at_575_13 : am_at (am_m 575) 13 = some (.iastore, 0) := by decide +kernel
theorem at_575_14 : am_at (am_m 575) 14 = some (.aload_n 0, 0) := by decide +kernel
theorem at_575_15 : am_at (am_m 575) 15 = some (.getfield 250, 3195) := by decide +kernel
theorem at_575_18 : am_at (am_m 575) 18 = some (.iconst 1, 0) := by decide +kernel
theorem at_575_19 : am_at (am_m 575) 19 = some (.aload_n 0, 0) := by decide +kernel
theorem at_575_20 : am_at (am_m 575) 20 = some (.getfield 370, 3124) := by decide +kernel
theorem at_575_23 : am_at (am_m 575) 23 = some (.iastore, 0) := by decide +kernel
theorem at_575_24 : am_at (am_m 575) 24 = some (.aload_n 0, 0) := by decide +kernel
theorem at_575_25 : am_at (am_m 575) 25 = some (.getfield 250, 3195) := by decide +kernel
theorem at_575_28 : am_at (am_m 575) 28 = some (.iconst 2, 0) := by decide +kernel
theorem at_575_29 : am_at (am_m 575) 29 = some (.aload_n 0, 0) := by decide +kernel
theorem at_575_30 : am_at (am_m 575) 30 = some (.getfield 373, 3125) := by decide +kernel
theorem at_575_33 : am_at (am_m 575) 33 = some (.iastore, 0) := by decide +kernel
theorem at_575_34 : am_at (am_m 575) 34 = some (.aload_n 0, 0) := by decide +kernel
theorem at_575_35 : am_at (am_m 575) 35 = some (.getfield 250, 3195) := by decide +kernel
theorem at_575_38 : am_at (am_m 575) 38 = some (.iconst 3, 0) := by decide +kernel
theorem at_575_39 : am_at (am_m 575) 39 = some (.aload_n 0, 0) := by decide +kernel
theorem at_575_40 : am_at (am_m 575) 40 = some (.getfield 376, 3126) := by decide +kernel
theorem at_575_43 : am_at (am_m 575) 43 = some (.iastore, 0) := by decide +kernel
theorem at_575_44 : am_at (am_m 575) 44 = some (.iconst 0, 0) := by decide +kernel
theorem at_575_45 : am_at (am_m 575) 45 = some (.istore_n 1, 0) := by decide +kernel
theorem at_575_46 : am_at (am_m 575) 46 = some (.iload_n 1, 0) := by decide +kernel
theorem at_575_47 : am_at (am_m 575) 47 = some (.aload_n 0, 0) := by decide +kernel
theorem at_575_48 : am_at (am_m 575) 48 = some (.getfield 376, 3126) := by decide +kernel
theorem at_575_51 : am_at (am_m 575) 51 = some (.if_icmp .ge 23, 74) := by decide +kernel
theorem at_575_54 : am_at (am_m 575) 54 = some (.aload_n 0, 0) := by decide +kernel
theorem at_575_55 : am_at (am_m 575) 55 = some (.getfield 250, 3195) := by decide +kernel
theorem at_575_58 : am_at (am_m 575) 58 = some (.iconst 4, 0) := by decide +kernel
theorem at_575_59 : am_at (am_m 575) 59 = some (.iload_n 1, 0) := by decide +kernel
theorem at_575_60 : am_at (am_m 575) 60 = some (.iadd, 0) := by decide +kernel
theorem at_575_61 : am_at (am_m 575) 61 = some (.aload_n 0, 0) := by decide +kernel
theorem at_575_62 : am_at (am_m 575) 62 = some (.getfield 124, 3127) := by decide +kernel
theorem at_575_65 : am_at (am_m 575) 65 = some (.iload_n 1, 0) := by decide +kernel
theorem at_575_66 : am_at (am_m 575) 66 = some (.iaload, 0) := by decide +kernel
theorem at_575_67 : am_at (am_m 575) 67 = some (.iastore, 0) := by decide +kernel
theorem at_575_68 : am_at (am_m 575) 68 = some (.iinc 1 1, 0) := by decide +kernel
theorem at_575_71 : am_at (am_m 575) 71 = some (.goto (-25), 46) := by decide +kernel
theorem at_575_74 : am_at (am_m 575) 74 = some (.iconst 0, 0) := by decide +kernel
theorem at_575_75 : am_at (am_m 575) 75 = some (.ireturn, 0) := by decide +kernel
theorem at_576_0 : am_at (am_m 576) 0 = some (.aload_n 0, 0) := by decide +kernel
theorem at_576_1 : am_at (am_m 576) 1 = some (.iload_n 1, 0) := by decide +kernel
theorem at_576_2 : am_at (am_m 576) 2 = some (.i2l, 0) := by decide +kernel
theorem at_576_3 : am_at (am_m 576) 3 = some (.lconst 0, 0) := by decide +kernel
theorem at_576_4 : am_at (am_m 576) 4 = some (.ldc2_w 658, 56) := by decide +kernel
theorem at_576_7 : am_at (am_m 576) 7 = some (.invokestatic 299, 327) := by decide +kernel
theorem at_576_10 : am_at (am_m 576) 10 = some (.ifCond .eq 7, 17) := by decide +kernel
theorem at_576_13 : am_at (am_m 576) 13 = some (.iconst 0, 0) := by decide +kernel
theorem at_576_14 : am_at (am_m 576) 14 = some (.goto 4, 18) := by decide +kernel
theorem at_576_17 : am_at (am_m 576) 17 = some (.iconst 1, 0) := by decide +kernel
theorem at_576_18 : am_at (am_m 576) 18 = some (.putfield 292, 3072) := by decide +kernel
theorem at_576_21 : am_at (am_m 576) 21 = some (.aload_n 0, 0) := by decide +kernel
theorem at_576_22 : am_at (am_m 576) 22 = some (.getfield 292, 3072) := by decide +kernel
theorem at_576_25 : am_at (am_m 576) 25 = some (.ifCond .le 7, 32) := by decide +kernel
theorem at_576_28 : am_at (am_m 576) 28 = some (.iconst 0, 0) := by decide +kernel
theorem at_576_29 : am_at (am_m 576) 29 = some (.goto 9, 38) := by decide +kernel
theorem at_576_32 : am_at (am_m 576) 32 = some (.aload_n 0, 0) := by decide +kernel
theorem at_576_33 : am_at (am_m 576) 33 = some (.getfield 250, 3195) := by decide +kernel
theorem at_576_36 : am_at (am_m 576) 36 = some (.iload_n 1, 0) := by decide +kernel
theorem at_576_37 : am_at (am_m 576) 37 = some (.iaload, 0) := by decide +kernel
theorem at_576_38 : am_at (am_m 576) 38 = some (.ireturn, 0) := by decide +kernel
theorem at_577_0 : am_at (am_m 577) 0 = some (.aload_n 0, 0) := by decide +kernel
theorem at_577_1 : am_at (am_m 577) 1 = some (.aload_n 0, 0) := by decide +kernel
theorem at_577_2 : am_at (am_m 577) 2 = some (.iload_n 1, 0) := by decide +kernel
theorem at_577_3 : am_at (am_m 577) 3 = some (.invokevirtual 568, 358) := by decide +kernel
theorem at_577_6 : am_at (am_m 577) 6 = some (.ifCond .ne 7, 13) := by decide +kernel
theorem at_577_9 : am_at (am_m 577) 9 = some (.iconst 1, 0) := by decide +kernel
theorem at_577_10 : am_at (am_m 577) 10 = some (.goto 18, 28) := by decide +kernel
theorem at_577_13 : am_at (am_m 577) 13 = some (.aload_n 0, 0) := by decide +kernel
theorem at_577_14 : am_at (am_m 577) 14 = some (.getfield 296, 3073) := by decide +kernel
theorem at_577_17 : am_at (am_m 577) 17 = some (.sipush 600, 0) := by decide +kernel
theorem at_577_20 : am_at (am_m 577) 20 = some (.if_icmp .ne 7, 27) := by decide +kernel
theorem at_577_23 : am_at (am_m 577) 23 = some (.iconst 2, 0) := by decide +kernel
theorem at_577_24 : am_at (am_m 577) 24 = some (.goto 4, 28) := by decide +kernel
theorem at_577_27 : am_at (am_m 577) 27 = some (.iconst 0, 0) := by decide +kernel
theorem at_577_28 : am_at (am_m 577) 28 = some (.putfield 292, 3072) := by decide +kernel
theorem at_577_31 : am_at (am_m 577) 31 = some (.aload_n 0, 0) := by decide +kernel
theorem at_577_32 : am_at (am_m 577) 32 = some (.getfield 292, 3072) := by decide +kernel
theorem at_577_35 : am_at (am_m 577) 35 = some (.ifCond .le 5, 40) := by decide +kernel
theorem at_577_38 : am_at (am_m 577) 38 = some (.iconst 0, 0) := by decide +kernel
theorem at_577_39 : am_at (am_m 577) 39 = some (.ireturn, 0) := by decide +kernel
theorem at_577_40 : am_at (am_m 577) 40 = some (.aload_n 0, 0) := by decide +kernel
theorem at_577_41 : am_at (am_m 577) 41 = some (.iload_n 1, 0) := by decide +kernel
theorem at_577_42 : am_at (am_m 577) 42 = some (.invokevirtual 635, 391) := by decide +kernel
theorem at_577_45 : am_at (am_m 577) 45 = some (.iconst 1, 0) := by decide +kernel
theorem at_577_46 : am_at (am_m 577) 46 = some (.istore_n 2, 0) := by decide +kernel
theorem at_577_47 : am_at (am_m 577) 47 = some (.iload_n 2, 0) := by decide +kernel
theorem at_577_48 : am_at (am_m 577) 48 = some (.ifCond .eq 28, 76) := by decide +kernel
theorem at_577_51 : am_at (am_m 577) 51 = some (.aload_n 0, 0) := by decide +kernel
theorem at_577_52 : am_at (am_m 577) 52 = some (.invokevirtual 739, 442) := by decide +kernel
theorem at_577_55 : am_at (am_m 577) 55 = some (.aload_n 0, 0) := by decide +kernel
theorem at_577_56 : am_at (am_m 577) 56 = some (.iconst 0, 0) := by decide +kernel
theorem at_577_57 : am_at (am_m 577) 57 = some (.invokevirtual 703, 428) := by decide +kernel
theorem at_577_60 : am_at (am_m 577) 60 = some (.aload_n 0, 0) := by decide +kernel
theorem at_577_61 : am_at (am_m 577) 61 = some (.aload_n 0, 0) := by decide +kernel
theorem at_577_62 : am_at (am_m 577) 62 = some (.getfield 689, 3163) := by decide +kernel
theorem at_577_65 : am_at (am_m 577) 65 = some (.aload_n 0, 0) := by decide +kernel
theorem at_577_66 : am_at (am_m 577) 66 = some (.getfield 693, 3164) := by decide +kernel
theorem at_577_69 : am_at (am_m 577) 69 = some (.invokevirtual 1114, 578) := by decide +kernel
theorem at_577_72 : am_at (am_m 577) 72 = some (.istore_n 2, 0) := by decide +kernel
theorem at_577_73 : am_at (am_m 577) 73 = some (.goto (-26), 47) := by decide +kernel
theorem at_577_76 : am_at (am_m 577) 76 = some (.aload_n 0, 0) := by decide +kernel
theorem at_577_77 : am_at (am_m 577) 77 = some (.invokevirtual 739, 442) := by decide +kernel
theorem at_577_80 : am_at (am_m 577) 80 = some (.aload_n 0, 0) := by decide +kernel
theorem at_577_81 : am_at (am_m 577) 81 = some (.bipush 6, 0) := by decide +kernel
theorem at_577_83 : am_at (am_m 577) 83 = some (.iload_n 1, 0) := by decide +kernel
theorem at_577_84 : am_at (am_m 577) 84 = some (.iconst (-1), 0) := by decide +kernel
theorem at_577_85 : am_at (am_m 577) 85 = some (.iconst (-1), 0) := by decide +kernel
theorem at_577_86 : am_at (am_m 577) 86 = some (.iconst (-1), 0) := by decide +kernel
theorem at_577_87 : am_at (am_m 577) 87 = some (.lconst 0, 0) := by decide +kernel
theorem at_577_88 : am_at (am_m 577) 88 = some (.invokevirtual 543, 356) := by decide +kernel
theorem at_577_91 : am_at (am_m 577) 91 = some (.ireturn, 0) := by decide +kernel
theorem at_578_0 : am_at (am_m 578) 0 = some (.aload_n 0, 0) := by decide +kernel
theorem at_578_1 : am_at (am_m 578) 1 = some (.aload_n 0, 0) := by decide +kernel
theorem at_578_2 : am_at (am_m 578) 2 = some (.getfield 312, 3092) := by decide +kernel
theorem at_578_5 : am_at (am_m 578) 5 = some (.invokestatic 1107, 579) := by decide +kernel
theorem at_578_8 : am_at (am_m 578) 8 = some (.iconst (-1), 0) := by decide +kernel
theorem at_578_9 : am_at (am_m 578) 9 = some (.invokevirtual 817, 439) := by decide +kernel
theorem at_578_12 : am_at (am_m 578) 12 = some (.istore 5, 0) := by decide +kernel
theorem at_578_14 : am_at (am_m 578) 14 = some (.iconst 0, 0) := by decide +kernel
theorem at_578_15 : am_at (am_m 578) 15 = some (.istore 6, 0) := by decide +kernel
theorem at_578_17 : am_at (am_m 578) 17 = some (.iload 6, 0) := by decide +kernel
theorem at_578_19 : am_at (am_m 578) 19 = some (.iload 5, 0) := by decide +kernel
theorem at_578_21 : am_at (am_m 578) 21 = some (.if_icmp .ge 38, 59) := by decide +kernel
theorem at_578_24 : am_at (am_m 578) 24 = some (.aload_n 0, 0) := by decide +kernel
theorem at_578_25 : am_at (am_m 578) 25 = some (.aload_n 0, 0) := by decide +kernel
theorem at_578_26 : am_at (am_m 578) 26 = some (.getfield 312, 3092) := by decide +kernel
theorem at_578_29 : am_at (am_m 578) 29 = some (.invokestatic 1107, 579) := by decide +kernel
theorem at_578_32 : am_at (am_m 578) 32 = some (.iload 6, 0) := by decide +kernel
theorem at_578_34 : am_at (am_m 578) 34 = some (.invokevirtual 817, 439) := by decide +kernel
theorem at_578_37 : am_at (am_m 578) 37 = some (.pop, 0) := by decide +kernel
theorem at_578_38 : am_at (am_m 578) 38 = some (.aload_n 0, 0) := by decide +kernel
theorem at_578_39 : am_at (am_m 578) 39 = some (.lload_n 1, 0) := by decide +kernel
theorem at_578_40 : am_at (am_m 578) 40 = some (.lload_n 3, 0) := by decide +kernel
theorem at_578_41 : am_at (am_m 578) 41 = some (.invokevirtual 1110, 580) := by decide +kernel
theorem at_578_44 : am_at (am_m 578) 44 = some (.ifCond .eq 9, 53) := by decide +kernel
theorem at_578_47 : am_at (am_m 578) 47 = some (.aload_n 0, 0) := by decide +kernel
theorem at_578_48 : am_at (am_m 578) 48 = some (.invokevirtual 1032, 495) := by decide +kernel
theorem at_578_51 : am_at (am_m 578) 51 = some (.iconst 1, 0) := by decide +kernel
theorem at_578_52 : am_at (am_m 578) 52 = some (.ireturn, 0) := by decide +kernel
theorem at_578_53 : am_at (am_m 578) 53 = some (.iinc 6 1, 0) := by decide +kernel
theorem at_578_56 : am_at (am_m 578) 56 = some (.goto (-39), 17) := by decide +kernel
theorem at_578_59 : am_at (am_m 578) 59 = some (.iconst 0, 0) := by decide +kernel
theorem at_578_60 : am_at (am_m 578) 60 = some (.ireturn, 0) := by decide +kernel
theorem at_579_0 : am_at (am_m 579) 0 = some (.iload_n 0, 0) := by decide +kernel
theorem at_579_1 : am_at (am_m 579) 1 = some (.iconst 1, 0) := by decide +kernel
theorem at_579_2 : am_at (am_m 579) 2 = some (.if_icmp .ne 7, 9) := by decide +kernel
theorem at_579_5 : am_at (am_m 579) 5 = some (.iconst 2, 0) := by decide +kernel
theorem at_579_6 : am_at (am_m 579) 6 = some (.goto 13, 19) := by decide +kernel
theorem at_579_9 : am_at (am_m 579) 9 = some (.iload_n 0, 0) := by decide +kernel
theorem at_579_10 : am_at (am_m 579) 10 = some (.iconst 3, 0) := by decide +kernel
theorem at_579_11 : am_at (am_m 579) 11 = some (.if_icmp .ne 7, 18) := by decide +kernel
theorem at_579_14 : am_at (am_m 579) 14 = some (.iconst 1, 0) := by decide +kernel
theorem at_579_15 : am_at (am_m 579) 15 = some (.goto 4, 19) := by decide +kernel
theorem at_579_18 : am_at (am_m 579) 18 = some (.iconst 3, 0) := by decide +kernel
theorem at_579_19 : am_at (am_m 579) 19 = some (.ireturn, 0) := by decide +kernel
theorem at_580_0 : am_at (am_m 580) 0 = some (.aload_n 0, 0) := by decide +kernel
theorem at_580_1 : am_at (am_m 580) 1 = some (.iconst 0, 0) := by decide +kernel
theorem at_580_2 : am_at (am_m 580) 2 = some (.invokevirtual 703, 428) := by decide +kernel
theorem at_580_5 : am_at (am_m 580) 5 = some (.aload_n 0, 0) := by decide +kernel
theorem at_580_6 : am_at (am_m 580) 6 = some (.getfield 689, 3163) := by decide +kernel
theorem at_580_9 : am_at (am_m 580) 9 = some (.lload_n 3, 0) := by decide +kernel
theorem at_580_10 : am_at (am_m 580) 10 = some (.lmul, 0) := by decide +kernel
