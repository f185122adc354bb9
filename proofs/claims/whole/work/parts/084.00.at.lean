/-! ===== rows of instructions, and what calls ask ===== -/
theorem at_3_0 : am_at (am_m 3) 0 = some (.aload_n 0, 0) := by decide +kernel
theorem at_3_1 : am_at (am_m 3) 1 = some (.invokespecial 3, 10003) := by decide +kernel
theorem at_3_4 : am_at (am_m 3) 4 = some (.aload_n 0, 0) := by decide +kernel
theorem at_3_5 : am_at (am_m 3) 5 = some (.bipush 60, 0) := by decide +kernel
theorem at_3_7 : am_at (am_m 3) 7 = some (.newarray .int, 0) := by decide +kernel
theorem at_3_9 : am_at (am_m 3) 9 = some (.putfield 9, 1792) := by decide +kernel
theorem at_3_12 : am_at (am_m 3) 12 = some (.aload_n 0, 0) := by decide +kernel
theorem at_3_13 : am_at (am_m 3) 13 = some (.bipush 60, 0) := by decide +kernel
theorem at_3_15 : am_at (am_m 3) 15 = some (.newarray .int, 0) := by decide +kernel
theorem at_3_17 : am_at (am_m 3) 17 = some (.putfield 15, 1793) := by decide +kernel
theorem at_3_20 : am_at (am_m 3) 20 = some (.aload_n 0, 0) := by decide +kernel
theorem at_3_21 : am_at (am_m 3) 21 = some (.bipush 60, 0) := by decide +kernel
theorem at_3_23 : am_at (am_m 3) 23 = some (.newarray .int, 0) := by decide +kernel
theorem at_3_25 : am_at (am_m 3) 25 = some (.putfield 18, 1794) := by decide +kernel
theorem at_3_28 : am_at (am_m 3) 28 = some (.aload_n 0, 0) := by decide +kernel
theorem at_3_29 : am_at (am_m 3) 29 = some (.bipush 60, 0) := by decide +kernel
theorem at_3_31 : am_at (am_m 3) 31 = some (.newarray .boolean, 2) := by decide +kernel
theorem at_3_33 : am_at (am_m 3) 33 = some (.putfield 21, 1795) := by decide +kernel
theorem at_3_36 : am_at (am_m 3) 36 = some (.aload_n 0, 0) := by decide +kernel
theorem at_3_37 : am_at (am_m 3) 37 = some (.bipush 60, 0) := by decide +kernel
theorem at_3_39 : am_at (am_m 3) 39 = some (.newarray .boolean, 2) := by decide +kernel
theorem at_3_41 : am_at (am_m 3) 41 = some (.putfield 25, 1796) := by decide +kernel
theorem at_3_44 : am_at (am_m 3) 44 = some (.aload_n 0, 0) := by decide +kernel
theorem at_3_45 : am_at (am_m 3) 45 = some (.bipush 60, 0) := by decide +kernel
theorem at_3_47 : am_at (am_m 3) 47 = some (.newarray .boolean, 2) := by decide +kernel
theorem at_3_49 : am_at (am_m 3) 49 = some (.putfield 28, 1797) := by decide +kernel
theorem at_3_52 : am_at (am_m 3) 52 = some (.aload_n 0, 0) := by decide +kernel
theorem at_3_53 : am_at (am_m 3) 53 = some (.bipush 61, 0) := by decide +kernel
theorem at_3_55 : am_at (am_m 3) 55 = some (.newarray .int, 0) := by decide +kernel
theorem at_3_57 : am_at (am_m 3) 57 = some (.putfield 31, 1798) := by decide +kernel
theorem at_3_60 : am_at (am_m 3) 60 = some (.aload_n 0, 0) := by decide +kernel
theorem at_3_61 : am_at (am_m 3) 61 = some (.iconst 0, 0) := by decide +kernel
theorem at_3_62 : am_at (am_m 3) 62 = some (.putfield 34, 1799) := by decide +kernel
theorem at_3_65 : am_at (am_m 3) 65 = some (.return_, 0) := by decide +kernel
theorem at_8_0 : am_at (am_m 8) 0 = some (.aload_n 0, 0) := by decide +kernel
theorem at_8_1 : am_at (am_m 8) 1 = some (.invokespecial 3, 10003) := by decide +kernel
theorem at_8_4 : am_at (am_m 8) 4 = some (.aload_n 0, 0) := by decide +kernel
theorem at_8_5 : am_at (am_m 8) 5 = some (.sipush 1638, 0) := by decide +kernel
theorem at_8_8 : am_at (am_m 8) 8 = some (.newarray .long, 1) := by decide +kernel
theorem at_8_10 : am_at (am_m 8) 10 = some (.putfield 11, 1024) := by decide +kernel
theorem at_8_13 : am_at (am_m 8) 13 = some (.aload_n 0, 0) := by decide +kernel
theorem at_8_14 : am_at (am_m 8) 14 = some (.bipush 78, 0) := by decide +kernel
theorem at_8_16 : am_at (am_m 8) 16 = some (.newarray .long, 1) := by decide +kernel
theorem at_8_18 : am_at (am_m 8) 18 = some (.putfield 15, 1025) := by decide +kernel
theorem at_8_21 : am_at (am_m 8) 21 = some (.aload_n 0, 0) := by decide +kernel
theorem at_8_22 : am_at (am_m 8) 22 = some (.new 18, 7) := by decide +kernel
theorem at_8_25 : am_at (am_m 8) 25 = some (.dup, 0) := by decide +kernel
theorem at_8_26 : am_at (am_m 8) 26 = some (.invokespecial 20, 3) := by decide +kernel
theorem at_8_29 : am_at (am_m 8) 29 = some (.putfield 21, 1026) := by decide +kernel
theorem at_8_32 : am_at (am_m 8) 32 = some (.aload_n 0, 0) := by decide +kernel
theorem at_8_33 : am_at (am_m 8) 33 = some (.aconst_null, 0) := by decide +kernel
theorem at_8_34 : am_at (am_m 8) 34 = some (.putfield 25, 1027) := by decide +kernel
theorem at_8_37 : am_at (am_m 8) 37 = some (.aload_n 0, 0) := by decide +kernel
theorem at_8_38 : am_at (am_m 8) 38 = some (.bipush 24, 0) := by decide +kernel
theorem at_8_40 : am_at (am_m 8) 40 = some (.anewarray 29, 6) := by decide +kernel
theorem at_8_43 : am_at (am_m 8) 43 = some (.putfield 30, 1028) := by decide +kernel
theorem at_8_46 : am_at (am_m 8) 46 = some (.aload_n 0, 0) := by decide +kernel
theorem at_8_47 : am_at (am_m 8) 47 = some (.bipush 24, 0) := by decide +kernel
theorem at_8_49 : am_at (am_m 8) 49 = some (.newarray .int, 0) := by decide +kernel
theorem at_8_51 : am_at (am_m 8) 51 = some (.putfield 34, 1029) := by decide +kernel
theorem at_8_54 : am_at (am_m 8) 54 = some (.aload_n 0, 0) := by decide +kernel
theorem at_8_55 : am_at (am_m 8) 55 = some (.iconst 0, 0) := by decide +kernel
theorem at_8_56 : am_at (am_m 8) 56 = some (.putfield 38, 1030) := by decide +kernel
theorem at_8_59 : am_at (am_m 8) 59 = some (.aload_n 0, 0) := by decide +kernel
theorem at_8_60 : am_at (am_m 8) 60 = some (.aconst_null, 0) := by decide +kernel
theorem at_8_61 : am_at (am_m 8) 61 = some (.putfield 42, 1031) := by decide +kernel
theorem at_8_64 : am_at (am_m 8) 64 = some (.aload_n 0, 0) := by decide +kernel
theorem at_8_65 : am_at (am_m 8) 65 = some (.iconst 0, 0) := by decide +kernel
theorem at_8_66 : am_at (am_m 8) 66 = some (.putfield 46, 1032) := by decide +kernel
theorem at_8_69 : am_at (am_m 8) 69 = some (.iconst 1, 0) := by decide +kernel
theorem at_8_70 : am_at (am_m 8) 70 = some (.istore_n 1, 0) := by decide +kernel
theorem at_8_71 : am_at (am_m 8) 71 = some (.iload_n 1, 0) := by decide +kernel
theorem at_8_72 : am_at (am_m 8) 72 = some (.bipush 13, 0) := by decide +kernel
theorem at_8_74 : am_at (am_m 8) 74 = some (.if_icmp .ge 67, 141) := by decide +kernel
theorem at_8_77 : am_at (am_m 8) 77 = some (.iconst 0, 0) := by decide +kernel
theorem at_8_78 : am_at (am_m 8) 78 = some (.istore_n 2, 0) := by decide +kernel
theorem at_8_79 : am_at (am_m 8) 79 = some (.iload_n 2, 0) := by decide +kernel
theorem at_8_80 : am_at (am_m 8) 80 = some (.bipush 126, 0) := by decide +kernel
theorem at_8_82 : am_at (am_m 8) 82 = some (.if_icmp .ge 53, 135) := by decide +kernel
theorem at_8_85 : am_at (am_m 8) 85 = some (.aload_n 0, 0) := by decide +kernel
theorem at_8_86 : am_at (am_m 8) 86 = some (.iload_n 2, 0) := by decide +kernel
theorem at_8_87 : am_at (am_m 8) 87 = some (.bipush 21, 0) := by decide +kernel
theorem at_8_89 : am_at (am_m 8) 89 = some (.idiv, 0) := by decide +kernel
theorem at_8_90 : am_at (am_m 8) 90 = some (.iload_n 2, 0) := by decide +kernel
theorem at_8_91 : am_at (am_m 8) 91 = some (.bipush 21, 0) := by decide +kernel
theorem at_8_93 : am_at (am_m 8) 93 = some (.irem, 0) := by decide +kernel
theorem at_8_94 : am_at (am_m 8) 94 = some (.iload_n 1, 0) := by decide +kernel
theorem at_8_95 : am_at (am_m 8) 95 = some (.invokevirtual 49, 9) := by decide +kernel
theorem at_8_98 : am_at (am_m 8) 98 = some (.lstore_n 3, 0) := by decide +kernel
theorem at_8_99 : am_at (am_m 8) 99 = some (.aload_n 0, 0) := by decide +kernel
theorem at_8_100 : am_at (am_m 8) 100 = some (.getfield 11, 1024) := by decide +kernel
theorem at_8_103 : am_at (am_m 8) 103 = some (.iload_n 2, 0) := by decide +kernel
theorem at_8_104 : am_at (am_m 8) 104 = some (.bipush 13, 0) := by decide +kernel
theorem at_8_106 : am_at (am_m 8) 106 = some (.imul, 0) := by decide +kernel
theorem at_8_107 : am_at (am_m 8) 107 = some (.iload_n 1, 0) := by decide +kernel
theorem at_8_108 : am_at (am_m 8) 108 = some (.iadd, 0) := by decide +kernel
theorem at_8_109 : am_at (am_m 8) 109 = some (.lload_n 3, 0) := by decide +kernel
theorem at_8_110 : am_at (am_m 8) 110 = some (.lastore, 0) := by decide +kernel
theorem at_8_111 : am_at (am_m 8) 111 = some (.aload_n 0, 0) := by decide +kernel
theorem at_8_112 : am_at (am_m 8) 112 = some (.getfield 15, 1025) := by decide +kernel
theorem at_8_115 : am_at (am_m 8) 115 = some (.iload_n 2, 0) := by decide +kernel
theorem at_8_116 : am_at (am_m 8) 116 = some (.bipush 21, 0) := by decide +kernel
theorem at_8_118 : am_at (am_m 8) 118 = some (.idiv, 0) := by decide +kernel
theorem at_8_119 : am_at (am_m 8) 119 = some (.bipush 13, 0) := by decide +kernel
theorem at_8_121 : am_at (am_m 8) 121 = some (.imul, 0) := by decide +kernel
theorem at_8_122 : am_at (am_m 8) 122 = some (.iload_n 1, 0) := by decide +kernel
theorem at_8_123 : am_at (am_m 8) 123 = some (.iadd, 0) := by decide +kernel
theorem at_8_124 : am_at (am_m 8) 124 = some (.dup2, 0) := by decide +kernel
theorem at_8_125 : am_at (am_m 8) 125 = some (.laload, 0) := by decide +kernel
theorem at_8_126 : am_at (am_m 8) 126 = some (.lload_n 3, 0) := by decide +kernel
theorem at_8_127 : am_at (am_m 8) 127 = some (.ladd, 0) := by decide +kernel
theorem at_8_128 : am_at (am_m 8) 128 = some (.lastore, 0) := by decide +kernel
theorem at_8_129 : am_at (am_m 8) 129 = some (.iinc 2 1, 0) := by decide +kernel
theorem at_8_132 : am_at (am_m 8) 132 = some (.goto (-53), 79) := by decide +kernel
theorem at_8_135 : am_at (am_m 8) 135 = some (.iinc 1 1, 0) := by decide +kernel
theorem at_8_138 : am_at (am_m 8) 138 = some (.goto (-67), 71) := by decide +kernel
theorem at_8_141 : am_at (am_m 8) 141 = some (.return_, 0) := by decide +kernel
theorem at_9_0 : am_at (am_m 9) 0 = some (.iload_n 1, 0) := by decide +kernel
theorem at_9_1 : am_at (am_m 9) 1 = some (.iload_n 2, 0) := by decide +kernel
theorem at_9_2 : am_at (am_m 9) 2 = some (.invokestatic 61, 10) := by decide +kernel
theorem at_9_5 : am_at (am_m 9) 5 = some (.ifCond .ne 5, 10) := by decide +kernel
theorem at_9_8 : am_at (am_m 9) 8 = some (.lconst 0, 0) := by decide +kernel
theorem at_9_9 : am_at (am_m 9) 9 = some (.lreturn, 0) := by decide +kernel
theorem at_9_10 : am_at (am_m 9) 10 = some (.iload_n 1, 0) := by decide +kernel
theorem at_9_11 : am_at (am_m 9) 11 = some (.iload_n 2, 0) := by decide +kernel
theorem at_9_12 : am_at (am_m 9) 12 = some (.iconst 0, 0) := by decide +kernel
theorem at_9_13 : am_at (am_m 9) 13 = some (.invokestatic 64, 12) := by decide +kernel
theorem at_9_16 : am_at (am_m 9) 16 = some (.istore 4, 0) := by decide +kernel
theorem at_9_18 : am_at (am_m 9) 18 = some (.iload_n 1, 0) := by decide +kernel
theorem at_9_19 : am_at (am_m 9) 19 = some (.iload_n 2, 0) := by decide +kernel
theorem at_9_20 : am_at (am_m 9) 20 = some (.iconst 1, 0) := by decide +kernel
theorem at_9_21 : am_at (am_m 9) 21 = some (.invokestatic 64, 12) := by decide +kernel
theorem at_9_24 : am_at (am_m 9) 24 = some (.istore 5, 0) := by decide +kernel
theorem at_9_26 : am_at (am_m 9) 26 = some (.iload_n 2, 0) := by decide +kernel
theorem at_9_27 : am_at (am_m 9) 27 = some (.invokestatic 68, 14) := by decide +kernel
theorem at_9_30 : am_at (am_m 9) 30 = some (.tableswitch 69 0 2 #[26, 47, 57], 0) := by decide +kernel
theorem at_9_56 : am_at (am_m 9) 56 = some (.iload_n 3, 0) := by decide +kernel
theorem at_9_57 : am_at (am_m 9) 57 = some (.iconst 1, 0) := by decide +kernel
theorem at_9_58 : am_at (am_m 9) 58 = some (.if_icmp .le 7, 65) := by decide +kernel
theorem at_9_61 : am_at (am_m 9) 61 = some (.lconst 0, 0) := by decide +kernel
theorem at_9_62 : am_at (am_m 9) 62 = some (.goto 14, 76) := by decide +kernel
theorem at_9_65 : am_at (am_m 9) 65 = some (.iload_n 2, 0) := by decide +kernel
theorem at_9_66 : am_at (am_m 9) 66 = some (.ifCond .ne 9, 75) := by decide +kernel
theorem at_9_69 : am_at (am_m 9) 69 = some (.ldc2_w 72, 1) := by decide +kernel
theorem at_9_72 : am_at (am_m 9) 72 = some (.goto 4, 76) := by decide +kernel
theorem at_9_75 : am_at (am_m 9) 75 = some (.lconst 1, 0) := by decide +kernel
theorem at_9_76 : am_at (am_m 9) 76 = some (.lreturn, 0) := by decide +kernel
theorem at_9_77 : am_at (am_m 9) 77 = some (.aload_n 0, 0) := by decide +kernel
theorem at_9_78 : am_at (am_m 9) 78 = some (.iload 4, 0) := by decide +kernel
theorem at_9_80 : am_at (am_m 9) 80 = some (.iload_n 3, 0) := by decide +kernel
theorem at_9_81 : am_at (am_m 9) 81 = some (.iconst 1, 0) := by decide +kernel
theorem at_9_82 : am_at (am_m 9) 82 = some (.isub, 0) := by decide +kernel
theorem at_9_83 : am_at (am_m 9) 83 = some (.invokevirtual 74, 15) := by decide +kernel
theorem at_9_86 : am_at (am_m 9) 86 = some (.lreturn, 0) := by decide +kernel
theorem at_9_87 : am_at (am_m 9) 87 = some (.aload_n 0, 0) := by decide +kernel
theorem at_9_88 : am_at (am_m 9) 88 = some (.iload 4, 0) := by decide +kernel
theorem at_9_90 : am_at (am_m 9) 90 = some (.iload 5, 0) := by decide +kernel
theorem at_9_92 : am_at (am_m 9) 92 = some (.iload_n 3, 0) := by decide +kernel
theorem at_9_93 : am_at (am_m 9) 93 = some (.iconst 1, 0) := by decide +kernel
theorem at_9_94 : am_at (am_m 9) 94 = some (.isub, 0) := by decide +kernel
theorem at_9_95 : am_at (am_m 9) 95 = some (.invokevirtual 78, 16) := by decide +kernel
theorem at_9_98 : am_at (am_m 9) 98 = some (.lreturn, 0) := by decide +kernel
theorem at_9_99 : am_at (am_m 9) 99 = some (.lconst 0, 0) := by decide +kernel
theorem at_9_100 : am_at (am_m 9) 100 = some (.lstore 6, 0) := by decide +kernel
theorem at_9_102 : am_at (am_m 9) 102 = some (.iconst 1, 0) := by decide +kernel
theorem at_9_103 : am_at (am_m 9) 103 = some (.istore 8, 0) := by decide +kernel
theorem at_9_105 : am_at (am_m 9) 105 = some (.iload 8, 0) := by decide +kernel
theorem at_9_107 : am_at (am_m 9) 107 = some (.iload_n 3, 0) := by decide +kernel
theorem at_9_108 : am_at (am_m 9) 108 = some (.iconst 1, 0) := by decide +kernel
theorem at_9_109 : am_at (am_m 9) 109 = some (.isub, 0) := by decide +kernel
theorem at_9_110 : am_at (am_m 9) 110 = some (.if_icmp .ge 37, 147) := by decide +kernel
theorem at_9_113 : am_at (am_m 9) 113 = some (.lload 6, 0) := by decide +kernel
theorem at_9_115 : am_at (am_m 9) 115 = some (.aload_n 0, 0) := by decide +kernel
theorem at_9_116 : am_at (am_m 9) 116 = some (.iload 4, 0) := by decide +kernel
theorem at_9_118 : am_at (am_m 9) 118 = some (.iload 8, 0) := by decide +kernel
theorem at_9_120 : am_at (am_m 9) 120 = some (.invokevirtual 74, 15) := by decide +kernel
theorem at_9_123 : am_at (am_m 9) 123 = some (.aload_n 0, 0) := by decide +kernel
theorem at_9_124 : am_at (am_m 9) 124 = some (.iload 5, 0) := by decide +kernel
theorem at_9_126 : am_at (am_m 9) 126 = some (.iload 5, 0) := by decide +kernel
theorem at_9_128 : am_at (am_m 9) 128 = some (.iload_n 3, 0) := by decide +kernel
theorem at_9_129 : am_at (am_m 9) 129 = some (.iconst 1, 0) := by decide +kernel
theorem at_9_130 : am_at (am_m 9) 130 = some (.isub, 0) := by decide +kernel
theorem at_9_131 : am_at (am_m 9) 131 = some (.iload 8, 0) := by decide +kernel
theorem at_9_133 : am_at (am_m 9) 133 = some (.isub, 0) := by decide +kernel
theorem at_9_134 : am_at (am_m 9) 134 = some (.invokevirtual 78, 16) := by decide +kernel
theorem at_9_137 : am_at (am_m 9) 137 = some (.lmul, 0) := by decide +kernel
theorem at_9_138 : am_at (am_m 9) 138 = some (.ladd, 0) := by decide +kernel
theorem at_9_139 : am_at (am_m 9) 139 = some (.lstore 6, 0) := by decide +kernel
theorem at_9_141 : am_at (am_m 9) 141 = some (.iinc 8 1, 0) := by decide +kernel
theorem at_9_144 : am_at (am_m 9) 144 = some (.goto (-39), 105) := by decide +kernel
theorem at_9_147 : am_at (am_m 9) 147 = some (.lload 6, 0) := by decide +kernel
theorem at_9_149 : am_at (am_m 9) 149 = some (.lreturn, 0) := by decide +kernel
theorem at_10_0 : am_at (am_m 10) 0 = some (.iload_n 0, 0) := by decide +kernel
theorem at_10_1 : am_at (am_m 10) 1 = some (.iconst 2, 0) := by decide +kernel
theorem at_10_2 : am_at (am_m 10) 2 = some (.idiv, 0) := by decide +kernel
theorem at_10_3 : am_at (am_m 10) 3 = some (.iconst 2, 0) := by decide +kernel
theorem at_10_4 : am_at (am_m 10) 4 = some (.imul, 0) := by decide +kernel
theorem at_10_5 : am_at (am_m 10) 5 = some (.istore_n 2, 0) := by decide +kernel
theorem at_10_6 : am_at (am_m 10) 6 = some (.iload_n 1, 0) := by decide +kernel
theorem at_10_7 : am_at (am_m 10) 7 = some (.invokestatic 57, 11) := by decide +kernel
theorem at_10_10 : am_at (am_m 10) 10 = some (.iload_n 0, 0) := by decide +kernel
theorem at_10_11 : am_at (am_m 10) 11 = some (.iconst 2, 0) := by decide +kernel
theorem at_10_12 : am_at (am_m 10) 12 = some (.irem, 0) := by decide +kernel
theorem at_10_13 : am_at (am_m 10) 13 = some (.iconst 1, 0) := by decide +kernel
theorem at_10_14 : am_at (am_m 10) 14 = some (.if_icmp .ne 7, 21) := by decide +kernel
theorem at_10_17 : am_at (am_m 10) 17 = some (.iconst 1, 0) := by decide +kernel
theorem at_10_18 : am_at (am_m 10) 18 = some (.goto 4, 22) := by decide +kernel
theorem at_10_21 : am_at (am_m 10) 21 = some (.iconst 0, 0) := by decide +kernel
theorem at_10_22 : am_at (am_m 10) 22 = some (.if_icmp .ne 33, 55) := by decide +kernel
theorem at_10_25 : am_at (am_m 10) 25 = some (.iload_n 2, 0) := by decide +kernel
theorem at_10_26 : am_at (am_m 10) 26 = some (.iconst 2, 0) := by decide +kernel
theorem at_10_27 : am_at (am_m 10) 27 = some (.if_icmp .eq 14, 41) := by decide +kernel
theorem at_10_30 : am_at (am_m 10) 30 = some (.iload_n 1, 0) := by decide +kernel
theorem at_10_31 : am_at (am_m 10) 31 = some (.iconst 5, 0) := by decide +kernel
theorem at_10_32 : am_at (am_m 10) 32 = some (.if_icmp .eq 23, 55) := by decide +kernel
theorem at_10_35 : am_at (am_m 10) 35 = some (.iload_n 1, 0) := by decide +kernel
theorem at_10_36 : am_at (am_m 10) 36 = some (.bipush 6, 0) := by decide +kernel
theorem at_10_38 : am_at (am_m 10) 38 = some (.if_icmp .eq 17, 55) := by decide +kernel
theorem at_10_41 : am_at (am_m 10) 41 = some (.iload_n 2, 0) := by decide +kernel
theorem at_10_42 : am_at (am_m 10) 42 = some (.ifCond .eq 9, 51) := by decide +kernel
theorem at_10_45 : am_at (am_m 10) 45 = some (.iload_n 1, 0) := by decide +kernel
theorem at_10_46 : am_at (am_m 10) 46 = some (.bipush 19, 0) := by decide +kernel
theorem at_10_48 : am_at (am_m 10) 48 = some (.if_icmp .eq 7, 55) := by decide +kernel
theorem at_10_51 : am_at (am_m 10) 51 = some (.iconst 1, 0) := by decide +kernel
theorem at_10_52 : am_at (am_m 10) 52 = some (.goto 4, 56) := by decide +kernel
theorem at_10_55 : am_at (am_m 10) 55 = some (.iconst 0, 0) := by decide +kernel
theorem at_10_56 : am_at (am_m 10) 56 = some (.ireturn, 0) := by decide +kernel
theorem at_11_0 : am_at (am_m 11) 0 = some (.iload_n 0, 0) := by decide +kernel
theorem at_11_1 : am_at (am_m 11) 1 = some (.bipush 9, 0) := by decide +kernel
theorem at_11_3 : am_at (am_m 11) 3 = some (.if_icmp .eq 15, 18) := by decide +kernel
theorem at_11_6 : am_at (am_m 11) 6 = some (.iload_n 0, 0) := by decide +kernel
theorem at_11_7 : am_at (am_m 11) 7 = some (.bipush 15, 0) := by decide +kernel
theorem at_11_9 : am_at (am_m 11) 9 = some (.if_icmp .lt 13, 22) := by decide +kernel
theorem at_11_12 : am_at (am_m 11) 12 = some (.iload_n 0, 0) := by decide +kernel
theorem at_11_13 : am_at (am_m 11) 13 = some (.bipush 18, 0) := by decide +kernel
theorem at_11_15 : am_at (am_m 11) 15 = some (.if_icmp .gt 7, 22) := by decide +kernel
theorem at_11_18 : am_at (am_m 11) 18 = some (.iconst 1, 0) := by decide +kernel
theorem at_11_19 : am_at (am_m 11) 19 = some (.goto 4, 23) := by decide +kernel
theorem at_11_22 : am_at (am_m 11) 22 = some (.iconst 0, 0) := by decide +kernel
theorem at_11_23 : am_at (am_m 11) 23 = some (.ireturn, 0) := by decide +kernel
theorem at_12_0 : am_at (am_m 12) 0 = some (.iload_n 1, 0) := by decide +kernel
theorem at_12_1 : am_at (am_m 12) 1 = some (.bipush 19, 0) := by decide +kernel
theorem at_12_3 : am_at (am_m 12) 3 = some (.if_icmp .ne 12, 15) := by decide +kernel
theorem at_12_6 : am_at (am_m 12) 6 = some (.iload_n 2, 0) := by decide +kernel
theorem at_12_7 : am_at (am_m 12) 7 = some (.iconst 1, 0) := by decide +kernel
theorem at_12_8 : am_at (am_m 12) 8 = some (.if_icmp .ne 7, 15) := by decide +kernel
theorem at_12_11 : am_at (am_m 12) 11 = some (.iconst 2, 0) := by decide +kernel
theorem at_12_12 : am_at (am_m 12) 12 = some (.goto 8, 20) := by decide +kernel
theorem at_12_15 : am_at (am_m 12) 15 = some (.iload_n 0, 0) := by decide +kernel
theorem at_12_16 : am_at (am_m 12) 16 = some (.iconst 2, 0) := by decide +kernel
theorem at_12_17 : am_at (am_m 12) 17 = some (.idiv, 0) := by decide +kernel
theorem at_12_18 : am_at (am_m 12) 18 = some (.iconst 2, 0) := by decide +kernel
theorem at_12_19 : am_at (am_m 12) 19 = some (.imul, 0) := by decide +kernel
theorem at_12_20 : am_at (am_m 12) 20 = some (.istore_n 3, 0) := by decide +kernel
theorem at_12_21 : am_at (am_m 12) 21 = some (.iload_n 1, 0) := by decide +kernel
theorem at_12_22 : am_at (am_m 12) 22 = some (.iload_n 2, 0) := by decide +kernel
theorem at_12_23 : am_at (am_m 12) 23 = some (.invokestatic 53, 13) := by decide +kernel
theorem at_12_26 : am_at (am_m 12) 26 = some (.ifCond .eq 9, 35) := by decide +kernel
theorem at_12_29 : am_at (am_m 12) 29 = some (.iload_n 3, 0) := by decide +kernel
theorem at_12_30 : am_at (am_m 12) 30 = some (.iconst 1, 0) := by decide +kernel
theorem at_12_31 : am_at (am_m 12) 31 = some (.iadd, 0) := by decide +kernel
theorem at_12_32 : am_at (am_m 12) 32 = some (.goto 4, 36) := by decide +kernel
theorem at_12_35 : am_at (am_m 12) 35 = some (.iload_n 3, 0) := by decide +kernel
theorem at_12_36 : am_at (am_m 12) 36 = some (.ireturn, 0) := by decide +kernel
theorem at_13_0 : am_at (am_m 13) 0 = some (.iload_n 0, 0) := by decide +kernel
theorem at_13_1 : am_at (am_m 13) 1 = some (.bipush 9, 0) := by decide +kernel
theorem at_13_3 : am_at (am_m 13) 3 = some (.if_icmp .eq 25, 28) := by decide +kernel
theorem at_13_6 : am_at (am_m 13) 6 = some (.iload_n 0, 0) := by decide +kernel
theorem at_13_7 : am_at (am_m 13) 7 = some (.bipush 17, 0) := by decide +kernel
theorem at_13_9 : am_at (am_m 13) 9 = some (.if_icmp .eq 19, 28) := by decide +kernel
theorem at_13_12 : am_at (am_m 13) 12 = some (.iload_n 0, 0) := by decide +kernel
theorem at_13_13 : am_at (am_m 13) 13 = some (.bipush 18, 0) := by decide +kernel
theorem at_13_15 : am_at (am_m 13) 15 = some (.if_icmp .eq 13, 28) := by decide +kernel
theorem at_13_18 : am_at (am_m 13) 18 = some (.iload_n 0, 0) := by decide +kernel
theorem at_13_19 : am_at (am_m 13) 19 = some (.bipush 20, 0) := by decide +kernel
theorem at_13_21 : am_at (am_m 13) 21 = some (.if_icmp .ne 11, 32) := by decide +kernel
theorem at_13_24 : am_at (am_m 13) 24 = some (.iload_n 1, 0) := by decide +kernel
theorem at_13_25 : am_at (am_m 13) 25 = some (.ifCond .ne 7, 32) := by decide +kernel
theorem at_13_28 : am_at (am_m 13) 28 = some (.iconst 1, 0) := by decide +kernel
theorem at_13_29 : am_at (am_m 13) 29 = some (.goto 4, 33) := by decide +kernel
theorem at_13_32 : am_at (am_m 13) 32 = some (.iconst 0, 0) := by decide +kernel
theorem at_13_33 : am_at (am_m 13) 33 = some (.ireturn, 0) := by decide +kernel
theorem at_14_0 : am_at (am_m 14) 0 = some (.iload_n 0, 0) := by decide +kernel
theorem at_14_1 : am_at (am_m 14) 1 = some (.bipush 7, 0) := by decide +kernel
theorem at_14_3 : am_at (am_m 14) 3 = some (.if_icmp .ge 7, 10) := by decide +kernel
theorem at_14_6 : am_at (am_m 14) 6 = some (.iconst 0, 0) := by decide +kernel
theorem at_14_7 : am_at (am_m 14) 7 = some (.goto 24, 31) := by decide +kernel
theorem at_14_10 : am_at (am_m 14) 10 = some (.iload_n 0, 0) := by decide +kernel
theorem at_14_11 : am_at (am_m 14) 11 = some (.bipush 10, 0) := by decide +kernel
theorem at_14_13 : am_at (am_m 14) 13 = some (.if_icmp .ge 7, 20) := by decide +kernel
theorem at_14_16 : am_at (am_m 14) 16 = some (.iconst 1, 0) := by decide +kernel
theorem at_14_17 : am_at (am_m 14) 17 = some (.goto 14, 31) := by decide +kernel
theorem at_14_20 : am_at (am_m 14) 20 = some (.iload_n 0, 0) := by decide +kernel
theorem at_14_21 : am_at (am_m 14) 21 = some (.bipush 20, 0) := by decide +kernel
theorem at_14_23 : am_at (am_m 14) 23 = some (.if_icmp .ge 7, 30) := by decide +kernel
theorem at_14_26 : am_at (am_m 14) 26 = some (.iconst 2, 0) := by decide +kernel
theorem at_14_27 : am_at (am_m 14) 27 = some (.goto 4, 31) := by decide +kernel
theorem at_14_30 : am_at (am_m 14) 30 = some (.iconst 3, 0) := by decide +kernel
theorem at_14_31 : am_at (am_m 14) 31 = some (.ireturn, 0) := by decide +kernel
theorem at_15_0 : am_at (am_m 15) 0 = some (.iload_n 2, 0) := by decide +kernel
theorem at_15_1 : am_at (am_m 15) 1 = some (.ifCond .le 33, 34) := by decide +kernel
theorem at_15_4 : am_at (am_m 15) 4 = some (.iload_n 2, 0) := by decide +kernel
theorem at_15_5 : am_at (am_m 15) 5 = some (.bipush 13, 0) := by decide +kernel
theorem at_15_7 : am_at (am_m 15) 7 = some (.if_icmp .ge 27, 34) := by decide +kernel
theorem at_15_10 : am_at (am_m 15) 10 = some (.iload_n 1, 0) := by decide +kernel
theorem at_15_11 : am_at (am_m 15) 11 = some (.ifCond .lt 23, 34) := by decide +kernel
theorem at_15_14 : am_at (am_m 15) 14 = some (.iload_n 1, 0) := by decide +kernel
theorem at_15_15 : am_at (am_m 15) 15 = some (.bipush 6, 0) := by decide +kernel
theorem at_15_17 : am_at (am_m 15) 17 = some (.if_icmp .ge 17, 34) := by decide +kernel
theorem at_15_20 : am_at (am_m 15) 20 = some (.aload_n 0, 0) := by decide +kernel
theorem at_15_21 : am_at (am_m 15) 21 = some (.getfield 15, 1025) := by decide +kernel
theorem at_15_24 : am_at (am_m 15) 24 = some (.iload_n 1, 0) := by decide +kernel
theorem at_15_25 : am_at (am_m 15) 25 = some (.bipush 13, 0) := by decide +kernel
theorem at_15_27 : am_at (am_m 15) 27 = some (.imul, 0) := by decide +kernel
theorem at_15_28 : am_at (am_m 15) 28 = some (.iload_n 2, 0) := by decide +kernel
theorem at_15_29 : am_at (am_m 15) 29 = some (.iadd, 0) := by decide +kernel
theorem at_15_30 : am_at (am_m 15) 30 = some (.laload, 0) := by decide +kernel
theorem at_15_31 : am_at (am_m 15) 31 = some (.goto 4, 35) := by decide +kernel
theorem at_15_34 : am_at (am_m 15) 34 = some (.lconst 0, 0) := by decide +kernel
theorem at_15_35 : am_at (am_m 15) 35 = some (.lreturn, 0) := by decide +kernel
theorem at_16_0 : am_at (am_m 16) 0 = some (.lconst 0, 0) := by decide +kernel
theorem at_16_1 : am_at (am_m 16) 1 = some (.lstore 4, 0) := by decide +kernel
theorem at_16_3 : am_at (am_m 16) 3 = some (.iconst 1, 0) := by decide +kernel
theorem at_16_4 : am_at (am_m 16) 4 = some (.istore 6, 0) := by decide +kernel
theorem at_16_6 : am_at (am_m 16) 6 = some (.iload 6, 0) := by decide +kernel
theorem at_16_8 : am_at (am_m 16) 8 = some (.iload_n 3, 0) := by decide +kernel
theorem at_16_9 : am_at (am_m 16) 9 = some (.if_icmp .ge 31, 40) := by decide +kernel
theorem at_16_12 : am_at (am_m 16) 12 = some (.lload 4, 0) := by decide +kernel
theorem at_16_14 : am_at (am_m 16) 14 = some (.aload_n 0, 0) := by decide +kernel
theorem at_16_15 : am_at (am_m 16) 15 = some (.iload_n 1, 0) := by decide +kernel
theorem at_16_16 : am_at (am_m 16) 16 = some (.iload 6, 0) := by decide +kernel
theorem at_16_18 : am_at (am_m 16) 18 = some (.invokevirtual 74, 15) := by decide +kernel
theorem at_16_21 : am_at (am_m 16) 21 = some (.aload_n 0, 0) := by decide +kernel
theorem at_16_22 : am_at (am_m 16) 22 = some (.iload_n 2, 0) := by decide +kernel
theorem at_16_23 : am_at (am_m 16) 23 = some (.iload_n 3, 0) := by decide +kernel
theorem at_16_24 : am_at (am_m 16) 24 = some (.iload 6, 0) := by decide +kernel
theorem at_16_26 : am_at (am_m 16) 26 = some (.isub, 0) := by decide +kernel
theorem at_16_27 : am_at (am_m 16) 27 = some (.invokevirtual 74, 15) := by decide +kernel
theorem at_16_30 : am_at (am_m 16) 30 = some (.lmul, 0) := by decide +kernel
theorem at_16_31 : am_at (am_m 16) 31 = some (.ladd, 0) := by decide +kernel
theorem at_16_32 : am_at (am_m 16) 32 = some (.lstore 4, 0) := by decide +kernel
theorem at_16_34 : am_at (am_m 16) 34 = some (.iinc 6 1, 0) := by decide +kernel
theorem at_16_37 : am_at (am_m 16) 37 = some (.goto (-31), 6) := by decide +kernel
theorem at_16_40 : am_at (am_m 16) 40 = some (.lload 4, 0) := by decide +kernel
theorem at_16_42 : am_at (am_m 16) 42 = some (.lreturn, 0) := by decide +kernel
theorem mi_3 : am_mi 3 = (1, 2, 7, 1) := by decide +kernel
theorem mi_9 : am_mi 9 = (4, 1, 4, 9) := by decide +kernel
theorem mi_10 : am_mi 10 = (2, 0, 4, 3) := by decide +kernel
theorem mi_11 : am_mi 11 = (1, 0, 11, 1) := by decide +kernel
theorem mi_12 : am_mi 12 = (3, 0, 4, 4) := by decide +kernel
theorem mi_13 : am_mi 13 = (2, 0, 11, 2) := by decide +kernel
theorem mi_14 : am_mi 14 = (1, 0, 11, 1) := by decide +kernel
theorem mi_15 : am_mi 15 = (3, 1, 4, 3) := by decide +kernel
theorem mi_16 : am_mi 16 = (4, 1, 4, 7) := by decide +kernel
theorem rt_3 : am_rt (am_m 3) = none := by decide +kernel
theorem rt_8 : am_rt (am_m 8) = none := by decide +kernel
theorem rt_9 : am_rt (am_m 9) = (some FieldType.long) := by decide +kernel
theorem rt_10 : am_rt (am_m 10) = (some FieldType.boolean) := by decide +kernel
theorem rt_11 : am_rt (am_m 11) = (some FieldType.boolean) := by decide +kernel
theorem rt_12 : am_rt (am_m 12) = (some FieldType.int) := by decide +kernel
theorem rt_13 : am_rt (am_m 13) = (some FieldType.boolean) := by decide +kernel
theorem rt_14 : am_rt (am_m 14) = (some FieldType.int) := by decide +kernel
theorem rt_15 : am_rt (am_m 15) = (some FieldType.long) := by decide +kernel
theorem rt_16 : am_rt (am_m 16) = (some FieldType.long) := by decide +kernel
theorem hh_8 : am_hh (am_m 8) = [] := by decide +kernel
theorem hh_9 : am_hh (am_m 9) = [] := by decide +kernel
theorem hh_16 : am_hh (am_m 16) = [] := by decide +kernel
