/-! ===== rows of instructions, and what calls ask ===== -/
theorem at_3_0 : am_at (am_m 3) 0 = some (.aload_n 0, 0) := by decide +kernel
theorem at_3_1 : am_at (am_m 3) 1 = some (.invokespecial 3, 10003) := by decide +kernel
theorem at_3_4 : am_at (am_m 3) 4 = some (.aload_n 0, 0) := by decide +kernel
theorem at_3_5 : am_at (am_m 3) 5 = some (.bipush 60, 0) := by decide +kernel
theorem at_3_7 : am_at (am_m 3) 7 = some (.newarray .int, 0) := by decide +kernel
theorem at_3_9 : am_at (am_m 3) 9 = some (.putfield 9, 1792) := by decide +kernel
theorem at_3_12 : am_at (am_m 3) 12 = some (.aload_n 0, 0) := by decide +kernel
theorem at_3_13 : am_at (am_m 3) 13 = some (.bipush 60, 0) := by decide +kernel
theorem at_3_15 : am_at (am_m 3) 15 = some (.newarray .int, 0) := by decide +kernel
theorem at_3_17 : am_at (am_m 3) 17 = some (.putfield 15, 1793) := by decide +kernel
theorem at_3_20 : am_at (am_m 3) 20 = some (.aload_n 0, 0) := by decide +kernel
theorem at_3_21 : am_at (am_m 3) 21 = some (.bipush 60, 0) := by decide +kernel
theorem at_3_23 : am_at (am_m 3) 23 = some (.newarray .int, 0) := by decide +kernel
theorem at_3_25 : am_at (am_m 3) 25 = some (.putfield 18, 1794) := by decide +kernel
theorem at_3_28 : am_at (am_m 3) 28 = some (.aload_n 0, 0) := by decide +kernel
theorem at_3_29 : am_at (am_m 3) 29 = some (.bipush 60, 0) := by decide +kernel
theorem at_3_31 : am_at (am_m 3) 31 = some (.newarray .boolean, 2) := by decide +kernel
theorem at_3_33 : am_at (am_m 3) 33 = some (.putfield 21, 1795) := by decide +kernel
theorem at_3_36 : am_at (am_m 3) 36 = some (.aload_n 0, 0) := by decide +kernel
theorem at_3_37 : am_at (am_m 3) 37 = some (.bipush 60, 0) := by decide +kernel
theorem at_3_39 : am_at (am_m 3) 39 = some (.newarray .boolean, 2) := by decide +kernel
theorem at_3_41 : am_at (am_m 3) 41 = some (.putfield 25, 1796) := by decide +kernel
theorem at_3_44 : am_at (am_m 3) 44 = some (.aload_n 0, 0) := by decide +kernel
theorem at_3_45 : am_at (am_m 3) 45 = some (.bipush 60, 0) := by decide +kernel
theorem at_3_47 : am_at (am_m 3) 47 = some (.newarray .boolean, 2) := by decide +kernel
theorem at_3_49 : am_at (am_m 3) 49 = some (.putfield 28, 1797) := by decide +kernel
theorem at_3_52 : am_at (am_m 3) 52 = some (.aload_n 0, 0) := by decide +kernel
theorem at_3_53 : am_at (am_m 3) 53 = some (.bipush 61, 0) := by decide +kernel
theorem at_3_55 : am_at (am_m 3) 55 = some (.newarray .int, 0) := by decide +kernel
theorem at_3_57 : am_at (am_m 3) 57 = some (.putfield 31, 1798) := by decide +kernel
theorem at_3_60 : am_at (am_m 3) 60 = some (.aload_n 0, 0) := by decide +kernel
theorem at_3_61 : am_at (am_m 3) 61 = some (.iconst 0, 0) := by decide +kernel
theorem at_3_62 : am_at (am_m 3) 62 = some (.putfield 34, 1799) := by decide +kernel
theorem at_3_65 : am_at (am_m 3) 65 = some (.return_, 0) := by decide +kernel
theorem at_8_0 : am_at (am_m 8) 0 = some (.aload_n 0, 0) := by decide +kernel
theorem at_8_1 : am_at (am_m 8) 1 = some (.invokespecial 3, 10003) := by decide +kernel
theorem at_8_4 : am_at (am_m 8) 4 = some (.aload_n 0, 0) := by decide +kernel
theorem at_8_5 : am_at (am_m 8) 5 = some (.sipush 1638, 0) := by decide +kernel
theorem at_8_8 : am_at (am_m 8) 8 = some (.newarray .long, 1) := by decide +kernel
theorem at_8_10 : am_at (am_m 8) 10 = some (.putfield 11, 1024) := by decide +kernel
theorem at_8_13 : am_at (am_m 8) 13 = some (.aload_n 0, 0) := by decide +kernel
theorem at_8_14 : am_at (am_m 8) 14 = some (.bipush 78, 0) := by decide +kernel
theorem at_8_16 : am_at (am_m 8) 16 = some (.newarray .long, 1) := by decide +kernel
theorem at_8_18 : am_at (am_m 8) 18 = some (.putfield 15, 1025) := by decide +kernel
theorem at_8_21 : am_at (am_m 8) 21 = some (.aload_n 0, 0) := by decide +kernel
theorem at_8_22 : am_at (am_m 8) 22 = some (.new 18, 7) := by decide +kernel
theorem at_8_25 : am_at (am_m 8) 25 = some (.dup, 0) := by decide +kernel
theorem at_8_26 : am_at (am_m 8) 26 = some (.invokespecial 20, 3) := by decide +kernel
theorem at_8_29 : am_at (am_m 8) 29 = some (.putfield 21, 1026) := by decide +kernel
theorem at_8_32 : am_at (am_m 8) 32 = some (.aload_n 0, 0) := by decide +kernel
theorem at_8_33 : am_at (am_m 8) 33 = some (.aconst_null, 0) := by decide +kernel
theorem at_8_34 : am_at (am_m 8) 34 = some (.putfield 25, 1027) := by decide +kernel
theorem at_8_37 : am_at (am_m 8) 37 = some (.aload_n 0, 0) := by decide +kernel
theorem at_8_38 : am_at (am_m 8) 38 = some (.bipush 24, 0) := by decide +kernel
theorem at_8_40 : am_at (am_m 8) 40 = some (.anewarray 29, 6) := by decide +kernel
theorem at_8_43 : am_at (am_m 8) 43 = some (.putfield 30, 1028) := by decide +kernel
theorem at_8_46 : am_at (am_m 8) 46 = some (.aload_n 0, 0) := by decide +kernel
theorem at_8_47 : am_at (am_m 8) 47 = some (.bipush 24, 0) := by decide +kernel
theorem at_8_49 : am_at (am_m 8) 49 = some (.newarray .int, 0) := by decide +kernel
theorem at_8_51 : am_at (am_m 8) 51 = some (.putfield 34, 1029) := by decide +kernel
theorem at_8_54 : am_at (am_m 8) 54 = some (.aload_n 0, 0) := by decide +kernel
theorem at_8_55 : am_at (am_m 8) 55 = some (.iconst 0, 0) := by decide +kernel
theorem at_8_56 : am_at (am_m 8) 56 = some (.putfield 38, 1030) := by decide +kernel
theorem at_8_59 : am_at (am_m 8) 59 = some (.aload_n 0, 0) := by decide +kernel
theorem at_8_60 : am_at (am_m 8) 60 = some (.aconst_null, 0) := by decide +kernel
theorem at_8_61 : am_at (am_m 8) 61 = some (.putfield 42, 1031) := by decide +kernel
theorem at_8_64 : am_at (am_m 8) 64 = some (.aload_n 0, 0) := by decide +kernel
theorem at_8_65 : am_at (am_m 8) 65 = some (.iconst 0, 0) := by decide +kernel
theorem at_8_66 : am_at (am_m 8) 66 = some (.putfield 46, 1032) := by decide +kernel
theorem at_8_69 : am_at (am_m 8) 69 = some (.iconst 1, 0) := by decide +kernel
theorem at_8_70 : am_at (am_m 8) 70 = some (.istore_n 1, 0) := by decide +kernel
theorem at_8_71 : am_at (am_m 8) 71 = some (.iload_n 1, 0) := by decide +kernel
theorem at_8_72 : am_at (am_m 8) 72 = some (.bipush 13, 0) := by decide +kernel
theorem at_8_74 : am_at (am_m 8) 74 = some (.if_icmp .ge 67, 141) := by decide +kernel
theorem at_8_77 : am_at (am_m 8) 77 = some (.iconst 0, 0) := by decide +kernel
theorem at_8_78 : am_at (am_m 8) 78 = some (.istore_n 2, 0) := by decide +kernel
theorem at_8_79 : am_at (am_m 8) 79 = some (.iload_n 2, 0) := by decide +kernel
theorem at_8_80 : am_at (am_m 8) 80 = some (.bipush 126, 0) := by decide +kernel
theorem at_8_82 : am_at (am_m 8) 82 = some (.if_icmp .ge 53, 135) := by decide +kernel
theorem at_8_85 : am_at (am_m 8) 85 = some (.aload_n 0, 0) := by decide +kernel
theorem at_8_86 : am_at (am_m 8) 86 = some (.iload_n 2, 0) := by decide +kernel
theorem at_8_87 : am_at (am_m 8) 87 = some (.bipush 21, 0) := by decide +kernel
theorem at_8_89 : am_at (am_m 8) 89 = some (.idiv, 0) := by decide +kernel
theorem at_8_90 : am_at (am_m 8) 90 = some (.iload_n 2, 0) := by decide +kernel
theorem at_8_91 : am_at (am_m 8) 91 = some (.bipush 21, 0) := by decide +kernel
theorem at_8_93 : am_at (am_m 8) 93 = some (.irem, 0) := by decide +kernel
theorem at_8_94 : am_at (am_m 8) 94 = some (.iload_n 1, 0) := by decide +kernel
theorem at_8_95 : am_at (am_m 8) 95 = some (.invokevirtual 49, 9) := by decide +kernel
theorem at_8_98 : am_at (am_m 8) 98 = some (.lstore_n 3, 0) := by decide +kernel
theorem at_8_99 : am_at (am_m 8) 99 = some (.aload_n 0, 0) := by decide +kernel
theorem at_8_100 : am_at (am_m 8) 100 = some (.getfield 11, 1024) := by decide +kernel
theorem at_8_103 : am_at (am_m 8) 103 = some (.iload_n 2, 0) := by decide +kernel
theorem at_8_104 : am_at (am_m 8) 104 = some (.bipush 13, 0) := by decide +kernel
theorem at_8_106 : am_at (am_m 8) 106 = some (.imul, 0) := by decide +kernel
theorem at_8_107 : am_at (am_m 8) 107 = some (.iload_n 1, 0) := by decide +kernel
theorem at_8_108 : am_at (am_m 8) 108 = some (.iadd, 0) := by decide +kernel
theorem at_8_109 : am_at (am_m 8) 109 = some (.lload_n 3, 0) := by decide +kernel
theorem at_8_110 : am_at (am_m 8) 110 = some (.lastore, 0) := by decide +kernel
theorem at_8_111 : am_at (am_m 8) 111 = some (.aload_n 0, 0) := by decide +kernel
theorem at_8_112 : am_at (am_m 8) 112 = some (.getfield 15, 1025) := by decide +kernel
theorem at_8_115 : am_at (am_m 8) 115 = some (.iload_n 2, 0) := by decide +kernel
theorem at_8_116 : am_at (am_m 8) 116 = some (.bipush 21, 0) := by decide +kernel
theorem at_8_118 : am_at (am_m 8) 118 = some (.idiv, 0) := by decide +kernel
theorem at_8_119 : am_at (am_m 8) 119 = some (.bipush 13, 0) := by decide +kernel
theorem at_8_121 : am_at (am_m 8) 121 = some (.imul, 0) := by decide +kernel
theorem at_8_122 : am_at (am_m 8) 122 = some (.iload_n 1, 0) := by decide +kernel
theorem at_8_123 : am_at (am_m 8) 123 = some (.iadd, 0) := by decide +kernel
theorem at_8_124 : am_at (am_m 8) 124 = some (.dup2, 0) := by decide +kernel
theorem at_8_125 : am_at (am_m 8) 125 = some (.laload, 0) := by decide +kernel
theorem at_8_126 : am_at (am_m 8) 126 = some (.lload_n 3, 0) := by decide +kernel
theorem at_8_127 : am_at (am_m 8) 127 = some (.ladd, 0) := by decide +kernel
theorem at_8_128 : am_at (am_m 8) 128 = some (.lastore, 0) := by decide +kernel
theorem at_8_129 : am_at (am_m 8) 129 = some (.iinc 2 1, 0) := by decide +kernel
theorem at_8_132 : am_at (am_m 8) 132 = some (.goto (-53), 79) := by decide +kernel
theorem at_8_135 : am_at (am_m 8) 135 = some (.iinc 1 1, 0) := by decide +kernel
theorem at_8_138 : am_at (am_m 8) 138 = some (.goto (-67), 71) := by decide +kernel
theorem at_8_141 : am_at (am_m 8) 141 = some (.return_, 0) := by decide +kernel
theorem at_9_0 : am_at (am_m 9) 0 = some (.iload_n 1, 0) := by decide +kernel
theorem at_9_1 : am_at (am_m 9) 1 = some (.iload_n 2, 0) := by decide +kernel
theorem at_9_2 : am_at (am_m 9) 2 = some (.invokestatic 61, 10) := by decide +kernel
theorem at_9_5 : am_at (am_m 9) 5 = some (.ifCond .ne 5, 10) := by decide +kernel
theorem at_9_8 : am_at (am_m 9) 8 = some (.lconst 0, 0) := by decide +kernel
theorem at_9_9 : am_at (am_m 9) 9 = some (.lreturn, 0) := by decide +kernel
theorem at_9_10 : am_at (am_m 9) 10 = some (.iload_n 1, 0) := by decide +kernel
theorem at_9_11 : am_at (am_m 9) 11 = some (.iload_n 2, 0) := by decide +kernel
theorem at_9_12 : am_at (am_m 9) 12 = some (.iconst 0, 0) := by decide +kernel
theorem at_9_13 : am_at (am_m 9) 13 = some (.invokestatic 64, 12) := by decide +kernel
theorem at_9_16 : am_at (am_m 9) 16 = some (.istore 4, 0) := by decide +kernel
theorem at_9_18 : am_at (am_m 9) 18 = some (.iload_n 1, 0) := by decide +kernel
theorem at_9_19 : am_at (am_m 9) 19 = some (.iload_n 2, 0) := by decide +kernel
theorem at_9_20 : am_at (am_m 9) 20 = some (.iconst 1, 0) := by decide +kernel
theorem at_9_21 : am_at (am_m 9) 21 = some (.invokestatic 64, 12) := by decide +kernel
theorem at_9_24 : am_at (am_m 9) 24 = some (.istore 5, 0) := by decide +kernel
theorem at_9_26 : am_at (am_m 9) 26 = some (.iload_n 2, 0) := by decide +kernel
theorem at_9_27 : am_at (am_m 9) 27 = some (.invokestatic 68, 14) := by decide +kernel
theorem at_9_30 : am_at (am_m 9) 30 = some (.tableswitch 69 0 2 #[26, 47, 57], 0) := by decide +kernel
theorem at_9_56 : am_at (am_m 9) 56 = some (.iload_n 3, 0) := by decide +kernel
theorem at_9_57 : am_at (am_m 9) 57 = some (.iconst 1, 0) := by decide +kernel
theorem at_9_58 : am_at (am_m 9) 58 = some (.if_icmp .le 7, 65) := by decide +kernel
theorem at_9_61 : am_at (am_m 9) 61 = some (.lconst 0, 0) := by decide +kernel
theorem at_9_62 : am_at (am_m 9) 62 = some (.goto 14, 76) := by decide +kernel
theorem at_9_65 : am_at (am_m 9) 65 = some (.iload_n 2, 0) := by decide +kernel
theorem at_9_66 : am_at (am_m 9) 66 = some (.ifCond .ne 9, 75) := by decide +kernel
theorem at_9_69 : am_at (am_m 9) 69 = some (.ldc2_w 72, 1) := by decide +kernel
theorem at_9_72 : am_at (am_m 9) 72 = some (.goto 4, 76) := by decide +kernel
theorem at_9_75 : am_at (am_m 9) 75 = some (.lconst 1, 0) := by decide +kernel
theorem at_9_76 : am_at (am_m 9) 76 = some (.lreturn, 0) := by decide +kernel
theorem at_9_77 : am_at (am_m 9) 77 = some (.aload_n 0, 0) := by decide +kernel
theorem at_9_78 : am_at (am_m 9) 78 = some (.iload 4, 0) := by decide +kernel
theorem at_9_80 : am_at (am_m 9) 80 = some (.iload_n 3, 0) := by decide +kernel
theorem at_9_81 : am_at (am_m 9) 81 = some (.iconst 1, 0) := by decide +kernel
theorem at_9_82 : am_at (am_m 9) 82 = some (.isub, 0) := by decide +kernel
theorem at_9_83 : am_at (am_m 9) 83 = some (.invokevirtual 74, 15) := by decide +kernel
theorem at_9_86 : am_at (am_m 9) 86 = some (.lreturn, 0) := by decide +kernel
theorem at_9_87 : am_at (am_m 9) 87 = some (.aload_n 0, 0) := by decide +kernel
theorem at_9_88 : am_at (am_m 9) 88 = some (.iload 4, 0) := by decide +kernel
theorem at_9_90 : am_at (am_m 9) 90 = some (.iload 5, 0) := by decide +kernel
theorem at_9_92 : am_at (am_m 9) 92 = some (.iload_n 3, 0) := by decide +kernel
theorem at_9_93 : am_at (am_m 9) 93 = some (.iconst 1, 0) := by decide +kernel
theorem at_9_94 : am_at (am_m 9) 94 = some (.isub, 0) := by decide +kernel
theorem at_9_95 : am_at (am_m 9) 95 = some (.invokevirtual 78, 16) := by decide +kernel
theorem at_9_98 : am_at (am_m 9) 98 = some (.lreturn, 0) := by decide +kernel
theorem at_9_99 : am_at (am_m 9) 99 = some (.lconst 0, 0) := by decide +kernel
theorem at_9_100 : am_at (am_m 9) 100 = some (.lstore 6, 0) := by decide +kernel
theorem at_9_102 : am_at (am_m 9) 102 = some (.iconst 1, 0) := by decide +kernel
theorem at_9_103 : am_at (am_m 9) 103 = some (.istore 8, 0) := by decide +kernel
theorem at_9_105 : am_at (am_m 9) 105 = some (.iload 8, 0) := by decide +kernel
theorem at_9_107 : am_at (am_m 9) 107 = some (.iload_n 3, 0) := by decide +kernel
theorem at_9_108 : am_at (am_m 9) 108 = some (.iconst 1, 0) := by decide +kernel
theorem at_9_109 : am_at (am_m 9) 109 = some (.isub, 0) := by decide +kernel
theorem at_9_110 : am_at (am_m 9) 110 = some (.if_icmp .ge 37, 147) := by decide +kernel
theorem at_9_113 : am_at (am_m 9) 113 = some (.lload 6, 0) := by decide +kernel
theorem at_9_115 : am_at (am_m 9) 115 = some (.aload_n 0, 0) := by decide +kernel
theorem at_9_116 : am_at (am_m 9) 116 = some (.iload 4, 0) := by decide +kernel
theorem at_9_118 : am_at (am_m 9) 118 = some (.iload 8, 0) := by decide +kernel
theorem at_9_120 : am_at (am_m 9) 120 = some (.invokevirtual 74, 15) := by decide +kernel
theorem at_9_123 : am_at (am_m 9) 123 = some (.aload_n 0, 0) := by decide +kernel
theorem at_9_124 : am_at (am_m 9) 124 = some (.iload 5, 0) := by decide +kernel
theorem at_9_126 : am_at (am_m 9) 126 = some (.iload 5, 0) := by decide +kernel
theorem at_9_128 : am_at (am_m 9) 128 = some (.iload_n 3, 0) := by decide +kernel
theorem at_9_129 : am_at (am_m 9) 129 = some (.iconst 1, 0) := by decide +kernel
theorem at_9_130 : am_at (am_m 9) 130 = some (.isub, 0) := by decide +kernel
theorem at_9_131 : am_at (am_m 9) 131 = some (.iload 8, 0) := by decide +kernel
theorem at_9_133 : am_at (am_m 9) 133 = some (.isub, 0) := by decide +kernel
theorem at_9_134 : am_at (am_m 9) 134 = some (.invokevirtual 78, 16) := by decide +kernel
theorem at_9_137 : am_at (am_m 9) 137 = some (.lmul, 0) := by decide +kernel
theorem at_9_138 : am_at (am_m 9) 138 = some (.ladd, 0) := by decide +kernel
theorem at_9_139 : am_at (am_m 9) 139 = some (.lstore 6, 0) := by decide +kernel
theorem at_9_141 : am_at (am_m 9) 141 = some (.iinc 8 1, 0) := by decide +kernel
theorem at_9_144 : am_at (am_m 9) 144 = some (.goto (-39), 105) := by decide +kernel
theorem at_9_147 : am_at (am_m 9) 147 = some (.lload 6, 0) := by decide +kernel
theorem at_9_149 : am_at (am_m 9) 149 = some (.lreturn, 0) := by decide +kernel
theorem at_10_0 : am_at (am_m 10) 0 = some (.iload_n 0, 0) := by decide +kernel
theorem at_10_1 : am_at (am_m 10) 1 = some (.iconst 2, 0) := by decide +kernel
theorem at_10_2 : am_at (am_m 10) 2 = some (.idiv, 0) := by decide +kernel
theorem at_10_3 : am_at (am_m 10) 3 = some (.iconst 2, 0) := by decide +kernel
theorem at_10_4 : am_at (am_m 10) 4 = some (.imul, 0) := by decide +kernel
theorem at_10_5 : am_at (am_m 10) 5 = some (.istore_n 2, 0) := by decide +kernel
theorem at_10_6 : am_at (am_m 10) 6 = some (.iload_n 1, 0) := by decide +kernel
theorem at_10_7 : am_at (am_m 10) 7 = some (.invokestatic 57, 11) := by decide +kernel
theorem at_10_10 : am_at (am_m 10) 10 = some (.iload_n 0, 0) := by decide +kernel
theorem at_10_11 : am_at (am_m 10) 11 = some (.iconst 2, 0) := by decide +kernel
theorem at_10_12 : am_at (am_m 10) 12 = some (.irem, 0) := by decide +kernel
theorem at_10_13 : am_at (am_m 10) 13 = some (.iconst 1, 0) := by decide +kernel
theorem at_10_14 : am_at (am_m 10) 14 = some (.if_icmp .ne 7, 21) := by decide +kernel
theorem at_10_17 : am_at (am_m 10) 17 = some (.iconst 1, 0) := by decide +kernel
theorem at_10_18 : am_at (am_m 10) 18 = some (.goto 4, 22) := by decide +kernel
theorem at_10_21 : am_at (am_m 10) 21 = some (.iconst 0, 0) := by decide +kernel
theorem at_10_22 : am_at (am_m 10) 22 = some (.if_icmp .ne 33, 55) := by decide +kernel
theorem at_10_25 : am_at (am_m 10) 25 = some (.iload_n 2, 0) := by decide +kernel
theorem at_10_26 : am_at (am_m 10) 26 = some (.iconst 2, 0) := by decide +kernel
theorem at_10_27 : am_at (am_m 10) 27 = some (.if_icmp .eq 14, 41) := by decide +kernel
theorem at_10_30 : am_at (am_m 10) 30 = some (.iload_n 1, 0) := by decide +kernel
theorem at_10_31 : am_at (am_m 10) 31 = some (.iconst 5, 0) := by decide +kernel
theorem at_10_32 : am_at (am_m 10) 32 = some (.if_icmp .eq 23, 55) := by decide +kernel
theorem at_10_35 : am_at (am_m 10) 35 = some (.iload_n 1, 0) := by decide +kernel
theorem at_10_36 : am_at (am_m 10) 36 = some (.bipush 6, 0) := by decide +kernel
theorem at_10_38 : am_at (am_m 10) 38 = some (.if_icmp .eq 17, 55) := by decide +kernel
theorem at_10_41 : am_at (am_m 10) 41 = some (.iload_n 2, 0) := by decide +kernel
theorem at_10_42 : am_at (am_m 10) 42 = some (.ifCond .eq 9, 51) := by decide +kernel
theorem at_10_45 : am_at (am_m 10) 45 = some (.iload_n 1, 0) := by decide +kernel
theorem at_10_46 : am_at (am_m 10) 46 = some (.bipush 19, 0) := by decide +kernel
theorem at_10_48 : am_at (am_m 10) 48 = some (.if_icmp .eq 7, 55) := by decide +kernel
theorem at_10_51 : am_at (am_m 10) 51 = some (.iconst 1, 0) := by decide +kernel
theorem at_10_52 : am_at (am_m 10) 52 = some (.goto 4, 56) := by decide +kernel
theorem at_10_55 : am_at (am_m 10) 55 = some (.iconst 0, 0) := by decide +kernel
theorem at_10_56 : am_at (am_m 10) 56 = some (.ireturn, 0) := by decide +kernel
theorem at_11_0 : am_at (am_m 11) 0 = some (.iload_n 0, 0) := by decide +kernel
theorem at_11_1 : am_at (am_m 11) 1 = some (.bipush 9, 0) := by decide +kernel
theorem at_11_3 : am_at (am_m 11) 3 = some (.if_icmp .eq 15, 18) := by decide +kernel
theorem at_11_6 : am_at (am_m 11) 6 = some (.iload_n 0, 0) := by decide +kernel
theorem at_11_7 : am_at (am_m 11) 7 = some (.bipush 15, 0) := by decide +kernel
theorem at_11_9 : am_at (am_m 11) 9 = some (.if_icmp .lt 13, 22) := by decide +kernel
theorem at_11_12 : am_at (am_m 11) 12 = some (.iload_n 0, 0) := by decide +kernel
theorem at_11_13 : am_at (am_m 11) 13 = some (.bipush 18, 0) := by decide +kernel
theorem at_11_15 : am_at (am_m 11) 15 = some (.if_icmp .gt 7, 22) := by decide +kernel
theorem at_11_18 : am_at (am_m 11) 18 = some (.iconst 1, 0) := by decide +kernel
theorem at_11_19 : am_at (am_m 11) 19 = some (.goto 4, 23) := by decide +kernel
theorem at_11_22 : am_at (am_m 11) 22 = some (.iconst 0, 0) := by decide +kernel
theorem at_11_23 : am_at (am_m 11) 23 = some (.ireturn, 0) := by decide +kernel
theorem at_12_0 : am_at (am_m 12) 0 = some (.iload_n 1, 0) := by decide +kernel
theorem at_12_1 : am_at (am_m 12) 1 = some (.bipush 19, 0) := by decide +kernel
theorem at_12_3 : am_at (am_m 12) 3 = some (.if_icmp .ne 12, 15) := by decide +kernel
theorem at_12_6 : am_at (am_m 12) 6 = some (.iload_n 2, 0) := by decide +kernel
theorem at_12_7 : am_at (am_m 12) 7 = some (.iconst 1, 0) := by decide +kernel
theorem at_12_8 : am_at (am_m 12) 8 = some (.if_icmp .ne 7, 15) := by decide +kernel
theorem at_12_11 : am_at (am_m 12) 11 = some (.iconst 2, 0) := by decide +kernel
theorem at_12_12 : am_at (am_m 12) 12 = some (.goto 8, 20) := by decide +kernel
theorem at_12_15 : am_at (am_m 12) 15 = some (.iload_n 0, 0) := by decide +kernel
theorem at_12_16 : am_at (am_m 12) 16 = some (.iconst 2, 0) := by decide +kernel
theorem at_12_17 : am_at (am_m 12) 17 = some (.idiv, 0) := by decide +kernel
theorem at_12_18 : am_at (am_m 12) 18 = some (.iconst 2, 0) := by decide +kernel
theorem at_12_19 : am_at (am_m 12) 19 = some (.imul, 0) := by decide +kernel
theorem at_12_20 : am_at (am_m 12) 20 = some (.istore_n 3, 0) := by decide +kernel
theorem at_12_21 : am_at (am_m 12) 21 = some (.iload_n 1, 0) := by decide +kernel
theorem at_12_22 : am_at (am_m 12) 22 = some (.iload_n 2, 0) := by decide +kernel
theorem at_12_23 : am_at (am_m 12) 23 = some (.invokestatic 53, 13) := by decide +kernel
theorem at_12_26 : am_at (am_m 12) 26 = some (.ifCond .eq 9, 35) := by decide +kernel
theorem at_12_29 : am_at (am_m 12) 29 = some (.iload_n 3, 0) := by decide +kernel
theorem at_12_30 : am_at (am_m 12) 30 = some (.iconst 1, 0) := by decide +kernel
theorem at_12_31 : am_at (am_m 12) 31 = some (.iadd, 0) := by decide +kernel
theorem at_12_32 : am_at (am_m 12) 32 = some (.goto 4, 36) := by decide +kernel
theorem at_12_35 : am_at (am_m 12) 35 = some (.iload_n 3, 0) := by decide +kernel
theorem at_12_36 : am_at (am_m 12) 36 = some (.ireturn, 0) := by decide +kernel
theorem at_13_0 : am_at (am_m 13) 0 = some (.iload_n 0, 0) := by decide +kernel
theorem at_13_1 : am_at (am_m 13) 1 = some (.bipush 9, 0) := by decide +kernel
theorem at_13_3 : am_at (am_m 13) 3 = some (.if_icmp .eq 25, 28) := by decide +kernel
theorem at_13_6 : am_at (am_m 13) 6 = some (.iload_n 0, 0) := by decide +kernel
theorem at_13_7 : am_at (am_m 13) 7 = some (.bipush 17, 0) := by decide +kernel
theorem at_13_9 : am_at (am_m 13) 9 = some (.if_icmp .eq 19, 28) := by decide +kernel
theorem at_13_12 : am_at (am_m 13) 12 = some (.iload_n 0, 0) := by decide +kernel
theorem at_13_13 : am_at (am_m 13) 13 = some (.bipush 18, 0) := by decide +kernel
theorem at_13_15 : am_at (am_m 13) 15 = some (.if_icmp .eq 13, 28) := by decide +kernel
theorem at_13_18 : am_at (am_m 13) 18 = some (.iload_n 0, 0) := by decide +kernel
theorem at_13_19 : am_at (am_m 13) 19 = some (.bipush 20, 0) := by decide +kernel
theorem at_13_21 : am_at (am_m 13) 21 = some (.if_icmp .ne 11, 32) := by decide +kernel
theorem at_13_24 : am_at (am_m 13) 24 = some (.iload_n 1, 0) := by decide +kernel
theorem at_13_25 : am_at (am_m 13) 25 = some (.ifCond .ne 7, 32) := by decide +kernel
theorem at_13_28 : am_at (am_m 13) 28 = some (.iconst 1, 0) := by decide +kernel
theorem at_13_29 : am_at (am_m 13) 29 = some (.goto 4, 33) := by decide +kernel
theorem at_13_32 : am_at (am_m 13) 32 = some (.iconst 0, 0) := by decide +kernel
theorem at_13_33 : am_at (am_m 13) 33 = some (.ireturn, 0) := by decide +kernel
theorem at_14_0 : am_at (am_m 14) 0 = some (.iload_n 0, 0) := by decide +kernel
theorem at_14_1 : am_at (am_m 14) 1 = some (.bipush 7, 0) := by decide +kernel
theorem at_14_3 : am_at (am_m 14) 3 = some (.if_icmp .ge 7, 10) := by decide +kernel
theorem at_14_6 : am_at (am_m 14) 6 = some (.iconst 0, 0) := by decide +kernel
theorem at_14_7 : am_at (am_m 14) 7 = some (.goto 24, 31) := by decide +kernel
theorem at_14_10 : am_at (am_m 14) 10 = some (.iload_n 0, 0) := by decide +kernel
theorem at_14_11 : am_at (am_m 14) 11 = some (.bipush 10, 0) := by decide +kernel
theorem at_14_13 : am_at (am_m 14) 13 = some (.if_icmp .ge 7, 20) := by decide +kernel
theorem at_14_16 : am_at (am_m 14) 16 = some (.iconst 1, 0) := by decide +kernel
theorem at_14_17 : am_at (am_m 14) 17 = some (.goto 14, 31) := by decide +kernel
theorem at_14_20 : am_at (am_m 14) 20 = some (.iload_n 0, 0) := by decide +kernel
theorem at_14_21 : am_at (am_m 14) 21 = some (.bipush 20, 0) := by decide +kernel
theorem at_14_23 : am_at (am_m 14) 23 = some (.if_icmp .ge 7, 30) := by decide +kernel
theorem at_14_26 : am_at (am_m 14) 26 = some (.iconst 2, 0) := by decide +kernel
theorem at_14_27 : am_at (am_m 14) 27 = some (.goto 4, 31) := by decide +kernel
theorem at_14_30 : am_at (am_m 14) 30 = some (.iconst 3, 0) := by decide +kernel
theorem at_14_31 : am_at (am_m 14) 31 = some (.ireturn, 0) := by decide +kernel
theorem at_15_0 : am_at (am_m 15) 0 = some (.iload_n 2, 0) := by decide +kernel
theorem at_15_1 : am_at (am_m 15) 1 = some (.ifCond .le 33, 34) := by decide +kernel
theorem at_15_4 : am_at (am_m 15) 4 = some (.iload_n 2, 0) := by decide +kernel
theorem at_15_5 : am_at (am_m 15) 5 = some (.bipush 13, 0) := by decide +kernel
theorem at_15_7 : am_at (am_m 15) 7 = some (.if_icmp .ge 27, 34) := by decide +kernel
theorem at_15_10 : am_at (am_m 15) 10 = some (.iload_n 1, 0) := by decide +kernel
theorem at_15_11 : am_at (am_m 15) 11 = some (.ifCond .lt 23, 34) := by decide +kernel
theorem at_15_14 : am_at (am_m 15) 14 = some (.iload_n 1, 0) := by decide +kernel
theorem at_15_15 : am_at (am_m 15) 15 = some (.bipush 6, 0) := by decide +kernel
theorem at_15_17 : am_at (am_m 15) 17 = some (.if_icmp .ge 17, 34) := by decide +kernel
theorem at_15_20 : am_at (am_m 15) 20 = some (.aload_n 0, 0) := by decide +kernel
theorem at_15_21 : am_at (am_m 15) 21 = some (.getfield 15, 1025) := by decide +kernel
theorem at_15_24 : am_at (am_m 15) 24 = some (.iload_n 1, 0) := by decide +kernel
theorem at_15_25 : am_at (am_m 15) 25 = some (.bipush 13, 0) := by decide +kernel
theorem at_15_27 : am_at (am_m 15) 27 = some (.imul, 0) := by decide +kernel
theorem at_15_28 : am_at (am_m 15) 28 = some (.iload_n 2, 0) := by decide +kernel
theorem at_15_29 : am_at (am_m 15) 29 = some (.iadd, 0) := by decide +kernel
theorem at_15_30 : am_at (am_m 15) 30 = some (.laload, 0) := by decide +kernel
theorem at_15_31 : am_at (am_m 15) 31 = some (.goto 4, 35) := by decide +kernel
theorem at_15_34 : am_at (am_m 15) 34 = some (.lconst 0, 0) := by decide +kernel
theorem at_15_35 : am_at (am_m 15) 35 = some (.lreturn, 0) := by decide +kernel
theorem at_16_0 : am_at (am_m 16) 0 = some (.lconst 0, 0) := by decide +kernel
theorem at_16_1 : am_at (am_m 16) 1 = some (.lstore 4, 0) := by decide +kernel
theorem at_16_3 : am_at (am_m 16) 3 = some (.iconst 1, 0) := by decide +kernel
theorem at_16_4 : am_at (am_m 16) 4 = some (.istore 6, 0) := by decide +kernel
theorem at_16_6 : am_at (am_m 16) 6 = some (.iload 6, 0) := by decide +kernel
theorem at_16_8 : am_at (am_m 16) 8 = some (.iload_n 3, 0) := by decide +kernel
theorem at_16_9 : am_at (am_m 16) 9 = some (.if_icmp .ge 31, 40) := by decide +kernel
theorem at_16_12 : am_at (am_m 16) 12 = some (.lload 4, 0) := by decide +kernel
theorem at_16_14 : am_at (am_m 16) 14 = some (.aload_n 0, 0) := by decide +kernel
theorem at_16_15 : am_at (am_m 16) 15 = some (.iload_n 1, 0) := by decide +kernel
theorem at_16_16 : am_at (am_m 16) 16 = some (.iload 6, 0) := by decide +kernel
theorem at_16_18 : am_at (am_m 16) 18 = some (.invokevirtual 74, 15) := by decide +kernel
theorem at_16_21 : am_at (am_m 16) 21 = some (.aload_n 0, 0) := by decide +kernel
theorem at_16_22 : am_at (am_m 16) 22 = some (.iload_n 2, 0) := by decide +kernel
theorem at_16_23 : am_at (am_m 16) 23 = some (.iload_n 3, 0) := by decide +kernel
theorem at_16_24 : am_at (am_m 16) 24 = some (.iload 6, 0) := by decide +kernel
theorem at_16_26 : am_at (am_m 16) 26 = some (.isub, 0) := by decide +kernel
theorem at_16_27 : am_at (am_m 16) 27 = some (.invokevirtual 74, 15) := by decide +kernel
theorem at_16_30 : am_at (am_m 16) 30 = some (.lmul, 0) := by decide +kernel
theorem at_16_31 : am_at (am_m 16) 31 = some (.ladd, 0) := by decide +kernel
theorem at_16_32 : am_at (am_m 16) 32 = some (.lstore 4, 0) := by decide +kernel
theorem at_16_34 : am_at (am_m 16) 34 = some (.iinc 6 1, 0) := by decide +kernel
theorem at_16_37 : am_at (am_m 16) 37 = some (.goto (-31), 6) := by decide +kernel
theorem at_16_40 : am_at (am_m 16) 40 = some (.lload 4, 0) := by decide +kernel
theorem at_16_42 : am_at (am_m 16) 42 = some (.lreturn, 0) := by decide +kernel
theorem at_18_0 : am_at (am_m 18) 0 = some (.aload_n 0, 0) := by decide +kernel
theorem at_18_1 : am_at (am_m 18) 1 = some (.invokespecial 3, 10003) := by decide +kernel
theorem at_18_4 : am_at (am_m 18) 4 = some (.aload_n 0, 0) := by decide +kernel
theorem at_18_5 : am_at (am_m 18) 5 = some (.iconst 0, 0) := by decide +kernel
theorem at_18_6 : am_at (am_m 18) 6 = some (.putfield 9, 769) := by decide +kernel
theorem at_18_9 : am_at (am_m 18) 9 = some (.aload_n 0, 0) := by decide +kernel
theorem at_18_10 : am_at (am_m 18) 10 = some (.iconst 0, 0) := by decide +kernel
theorem at_18_11 : am_at (am_m 18) 11 = some (.putfield 15, 770) := by decide +kernel
theorem at_18_14 : am_at (am_m 18) 14 = some (.aload_n 0, 0) := by decide +kernel
theorem at_18_15 : am_at (am_m 18) 15 = some (.iconst 0, 0) := by decide +kernel
theorem at_18_16 : am_at (am_m 18) 16 = some (.putfield 18, 771) := by decide +kernel
theorem at_18_19 : am_at (am_m 18) 19 = some (.aload_n 0, 0) := by decide +kernel
theorem at_18_20 : am_at (am_m 18) 20 = some (.iconst 2, 0) := by decide +kernel
theorem at_18_21 : am_at (am_m 18) 21 = some (.putfield 21, 772) := by decide +kernel
theorem at_18_24 : am_at (am_m 18) 24 = some (.aload_n 0, 0) := by decide +kernel
theorem at_18_25 : am_at (am_m 18) 25 = some (.iconst 0, 0) := by decide +kernel
theorem at_18_26 : am_at (am_m 18) 26 = some (.putfield 24, 773) := by decide +kernel
theorem at_18_29 : am_at (am_m 18) 29 = some (.aload_n 0, 0) := by decide +kernel
theorem at_18_30 : am_at (am_m 18) 30 = some (.iconst (-1), 0) := by decide +kernel
theorem at_18_31 : am_at (am_m 18) 31 = some (.putfield 27, 774) := by decide +kernel
theorem at_18_34 : am_at (am_m 18) 34 = some (.aload_n 0, 0) := by decide +kernel
theorem at_18_35 : am_at (am_m 18) 35 = some (.iconst (-1), 0) := by decide +kernel
theorem at_18_36 : am_at (am_m 18) 36 = some (.putfield 30, 775) := by decide +kernel
theorem at_18_39 : am_at (am_m 18) 39 = some (.aload_n 0, 0) := by decide +kernel
theorem at_18_40 : am_at (am_m 18) 40 = some (.iconst (-1), 0) := by decide +kernel
theorem at_18_41 : am_at (am_m 18) 41 = some (.putfield 33, 776) := by decide +kernel
theorem at_18_44 : am_at (am_m 18) 44 = some (.aload_n 0, 0) := by decide +kernel
theorem at_18_45 : am_at (am_m 18) 45 = some (.iconst (-1), 0) := by decide +kernel
theorem at_18_46 : am_at (am_m 18) 46 = some (.putfield 36, 777) := by decide +kernel
theorem at_18_49 : am_at (am_m 18) 49 = some (.aload_n 0, 0) := by decide +kernel
theorem at_18_50 : am_at (am_m 18) 50 = some (.lconst 0, 0) := by decide +kernel
theorem at_18_51 : am_at (am_m 18) 51 = some (.putfield 39, 778) := by decide +kernel
theorem at_18_54 : am_at (am_m 18) 54 = some (.aload_n 0, 0) := by decide +kernel
theorem at_18_55 : am_at (am_m 18) 55 = some (.iload_n 1, 0) := by decide +kernel
theorem at_18_56 : am_at (am_m 18) 56 = some (.ifCond .le 7, 63) := by decide +kernel
theorem at_18_59 : am_at (am_m 18) 59 = some (.iload_n 1, 0) := by decide +kernel
theorem at_18_60 : am_at (am_m 18) 60 = some (.goto 4, 64) := by decide +kernel
theorem at_18_63 : am_at (am_m 18) 63 = some (.iconst 0, 0) := by decide +kernel
theorem at_18_64 : am_at (am_m 18) 64 = some (.newarray .int, 0) := by decide +kernel
theorem at_18_66 : am_at (am_m 18) 66 = some (.putfield 43, 768) := by decide +kernel
theorem at_18_69 : am_at (am_m 18) 69 = some (.return_, 0) := by decide +kernel
theorem at_30_0 : am_at (am_m 30) 0 = some (.aload_n 2, 0) := by decide +kernel
theorem at_30_1 : am_at (am_m 30) 1 = some (.iconst 0, 0) := by decide +kernel
theorem at_30_2 : am_at (am_m 30) 2 = some (.aload_n 0, 0) := by decide +kernel
theorem at_30_3 : am_at (am_m 30) 3 = some (.iload_n 1, 0) := by decide +kernel
theorem at_30_4 : am_at (am_m 30) 4 = some (.invokevirtual 7, 31) := by decide +kernel
theorem at_30_7 : am_at (am_m 30) 7 = some (.i2l, 0) := by decide +kernel
theorem at_30_8 : am_at (am_m 30) 8 = some (.lastore, 0) := by decide +kernel
theorem at_30_9 : am_at (am_m 30) 9 = some (.goto 9, 18) := by decide +kernel
theorem at_30_13 : am_at (am_m 30) 13 = some (.iconst 1, 0) := by decide +kernel
theorem at_30_14 : am_at (am_m 30) 14 = some (.ireturn, 0) := by decide +kernel
theorem at_30_16 : am_at (am_m 30) 16 = some (.iconst 2, 0) := by decide +kernel
theorem at_30_17 : am_at (am_m 30) 17 = some (.ireturn, 0) := by decide +kernel
theorem at_30_18 : am_at (am_m 30) 18 = some (.iconst 0, 0) := by decide +kernel
theorem at_30_19 : am_at (am_m 30) 19 = some (.ireturn, 0) := by decide +kernel
theorem at_31_0 : am_at (am_m 31) 0 = some (.iload_n 1, 0) := by decide +kernel
theorem at_31_1 : am_at (am_m 31) 1 = some (.ifCond .lt 8, 9) := by decide +kernel
theorem at_31_4 : am_at (am_m 31) 4 = some (.iload_n 1, 0) := by decide +kernel
theorem at_31_5 : am_at (am_m 31) 5 = some (.iconst 3, 0) := by decide +kernel
theorem at_31_6 : am_at (am_m 31) 6 = some (.if_icmp .le 13, 19) := by decide +kernel
theorem at_31_9 : am_at (am_m 31) 9 = some (.new 114, 100) := by decide +kernel
theorem at_31_19 : am_at (am_m 31) 19 = some (.aload_n 0, 0) := by decide +kernel
theorem at_31_20 : am_at (am_m 31) 20 = some (.iconst 1, 0) := by decide +kernel
theorem at_31_21 : am_at (am_m 31) 21 = some (.invokevirtual 121, 32) := by decide +kernel
theorem at_31_24 : am_at (am_m 31) 24 = some (.aload_n 0, 0) := by decide +kernel
theorem at_31_25 : am_at (am_m 31) 25 = some (.getfield 22, 2818) := by decide +kernel
theorem at_31_28 : am_at (am_m 31) 28 = some (.iload_n 1, 0) := by decide +kernel
theorem at_31_29 : am_at (am_m 31) 29 = some (.aload_n 0, 0) := by decide +kernel
theorem at_31_30 : am_at (am_m 31) 30 = some (.getfield 90, 2831) := by decide +kernel
theorem at_31_33 : am_at (am_m 31) 33 = some (.invokevirtual 124, 33) := by decide +kernel
theorem at_31_36 : am_at (am_m 31) 36 = some (.istore_n 2, 0) := by decide +kernel
theorem at_31_37 : am_at (am_m 31) 37 = some (.iload_n 2, 0) := by decide +kernel
theorem at_31_38 : am_at (am_m 31) 38 = some (.ifCond .lt 9, 47) := by decide +kernel
theorem at_31_41 : am_at (am_m 31) 41 = some (.iconst (-1), 0) := by decide +kernel
theorem at_31_42 : am_at (am_m 31) 42 = some (.iload_n 2, 0) := by decide +kernel
theorem at_31_43 : am_at (am_m 31) 43 = some (.isub, 0) := by decide +kernel
theorem at_31_44 : am_at (am_m 31) 44 = some (.goto 17, 61) := by decide +kernel
theorem at_31_47 : am_at (am_m 31) 47 = some (.aload_n 0, 0) := by decide +kernel
theorem at_31_48 : am_at (am_m 31) 48 = some (.aload_n 0, 0) := by decide +kernel
theorem at_31_49 : am_at (am_m 31) 49 = some (.getfield 90, 2831) := by decide +kernel
theorem at_31_52 : am_at (am_m 31) 52 = some (.iconst 0, 0) := by decide +kernel
theorem at_31_53 : am_at (am_m 31) 53 = some (.iconst (-1), 0) := by decide +kernel
theorem at_31_54 : am_at (am_m 31) 54 = some (.iconst (-1), 0) := by decide +kernel
theorem at_31_55 : am_at (am_m 31) 55 = some (.iconst (-1), 0) := by decide +kernel
theorem at_31_56 : am_at (am_m 31) 56 = some (.iconst (-1), 0) := by decide +kernel
theorem at_31_57 : am_at (am_m 31) 57 = some (.lconst 0, 0) := by decide +kernel
theorem at_31_58 : am_at (am_m 31) 58 = some (.invokevirtual 128, 59) := by decide +kernel
theorem at_31_61 : am_at (am_m 31) 61 = some (.ireturn, 0) := by decide +kernel
theorem at_32_0 : am_at (am_m 32) 0 = some (.aload_n 0, 0) := by decide +kernel
theorem at_32_1 : am_at (am_m 32) 1 = some (.getfield 15, 2817) := by decide +kernel
theorem at_32_4 : am_at (am_m 32) 4 = some (.iload_n 1, 0) := by decide +kernel
theorem at_32_5 : am_at (am_m 32) 5 = some (.iadd, 0) := by decide +kernel
theorem at_32_6 : am_at (am_m 32) 6 = some (.sipush 600, 0) := by decide +kernel
theorem at_32_9 : am_at (am_m 32) 9 = some (.if_icmp .le 14, 23) := by decide +kernel
theorem at_32_12 : am_at (am_m 32) 12 = some (.new 213, 101) := by decide +kernel
theorem at_32_23 : am_at (am_m 32) 23 = some (.return_, 0) := by decide +kernel
theorem at_33_0 : am_at (am_m 33) 0 = some (.aload_n 0, 0) := by decide +kernel
theorem at_33_1 : am_at (am_m 33) 1 = some (.aload_n 2, 0) := by decide +kernel
theorem at_33_2 : am_at (am_m 33) 2 = some (.putfield 25, 2308) := by decide +kernel
theorem at_33_5 : am_at (am_m 33) 5 = some (.aload_n 0, 0) := by decide +kernel
theorem at_33_6 : am_at (am_m 33) 6 = some (.getfield 25, 2308) := by decide +kernel
theorem at_33_9 : am_at (am_m 33) 9 = some (.iload_n 1, 0) := by decide +kernel
theorem at_33_10 : am_at (am_m 33) 10 = some (.iconst 0, 0) := by decide +kernel
theorem at_33_11 : am_at (am_m 33) 11 = some (.invokevirtual 48, 34) := by decide +kernel
theorem at_33_14 : am_at (am_m 33) 14 = some (.aload_n 0, 0) := by decide +kernel
theorem at_33_15 : am_at (am_m 33) 15 = some (.iconst 0, 0) := by decide +kernel
theorem at_33_16 : am_at (am_m 33) 16 = some (.putfield 19, 2306) := by decide +kernel
theorem at_33_19 : am_at (am_m 33) 19 = some (.aload_n 0, 0) := by decide +kernel
theorem at_33_20 : am_at (am_m 33) 20 = some (.iconst (-1), 0) := by decide +kernel
theorem at_33_21 : am_at (am_m 33) 21 = some (.putfield 22, 2307) := by decide +kernel
theorem at_33_24 : am_at (am_m 33) 24 = some (.iload_n 1, 0) := by decide +kernel
theorem at_33_25 : am_at (am_m 33) 25 = some (.ifCond .ne 13, 38) := by decide +kernel
theorem at_33_28 : am_at (am_m 33) 28 = some (.aload_n 0, 0) := by decide +kernel
theorem at_33_29 : am_at (am_m 33) 29 = some (.iconst 0, 0) := by decide +kernel
theorem at_33_30 : am_at (am_m 33) 30 = some (.iconst 1, 0) := by decide +kernel
theorem at_33_31 : am_at (am_m 33) 31 = some (.iconst 0, 0) := by decide +kernel
theorem at_33_32 : am_at (am_m 33) 32 = some (.invokevirtual 54, 35) := by decide +kernel
theorem at_33_35 : am_at (am_m 33) 35 = some (.goto 20, 55) := by decide +kernel
theorem at_33_38 : am_at (am_m 33) 38 = some (.iload_n 1, 0) := by decide +kernel
theorem at_33_39 : am_at (am_m 33) 39 = some (.iconst 3, 0) := by decide +kernel
theorem at_33_40 : am_at (am_m 33) 40 = some (.if_icmp .ne 10, 50) := by decide +kernel
theorem at_33_43 : am_at (am_m 33) 43 = some (.aload_n 0, 0) := by decide +kernel
theorem at_33_44 : am_at (am_m 33) 44 = some (.invokevirtual 58, 46) := by decide +kernel
theorem at_33_47 : am_at (am_m 33) 47 = some (.goto 8, 55) := by decide +kernel
theorem at_33_50 : am_at (am_m 33) 50 = some (.aload_n 0, 0) := by decide +kernel
theorem at_33_51 : am_at (am_m 33) 51 = some (.iload_n 1, 0) := by decide +kernel
theorem at_33_52 : am_at (am_m 33) 52 = some (.invokevirtual 61, 48) := by decide +kernel
theorem at_33_55 : am_at (am_m 33) 55 = some (.aload_n 0, 0) := by decide +kernel
theorem at_33_56 : am_at (am_m 33) 56 = some (.getfield 22, 2307) := by decide +kernel
theorem at_33_59 : am_at (am_m 33) 59 = some (.ifCond .ge 18, 77) := by decide +kernel
theorem at_33_62 : am_at (am_m 33) 62 = some (.aload_n 0, 0) := by decide +kernel
theorem at_33_63 : am_at (am_m 33) 63 = some (.getfield 19, 2306) := by decide +kernel
theorem at_33_66 : am_at (am_m 33) 66 = some (.aload_n 0, 0) := by decide +kernel
theorem at_33_67 : am_at (am_m 33) 67 = some (.getfield 15, 2305) := by decide +kernel
theorem at_33_70 : am_at (am_m 33) 70 = some (.if_icmp .ge 7, 77) := by decide +kernel
theorem at_33_73 : am_at (am_m 33) 73 = some (.aload_n 0, 0) := by decide +kernel
theorem at_33_74 : am_at (am_m 33) 74 = some (.invokevirtual 65, 39) := by decide +kernel
theorem at_33_77 : am_at (am_m 33) 77 = some (.aload_n 0, 0) := by decide +kernel
theorem at_33_78 : am_at (am_m 33) 78 = some (.getfield 22, 2307) := by decide +kernel
theorem at_33_81 : am_at (am_m 33) 81 = some (.ifCond .ge 38, 119) := by decide +kernel
theorem at_33_84 : am_at (am_m 33) 84 = some (.iload_n 1, 0) := by decide +kernel
theorem at_33_85 : am_at (am_m 33) 85 = some (.iconst 1, 0) := by decide +kernel
theorem at_33_86 : am_at (am_m 33) 86 = some (.if_icmp .ne 33, 119) := by decide +kernel
theorem at_33_89 : am_at (am_m 33) 89 = some (.aload_n 0, 0) := by decide +kernel
theorem at_33_90 : am_at (am_m 33) 90 = some (.getfield 36, 2310) := by decide +kernel
theorem at_33_93 : am_at (am_m 33) 93 = some (.aload_n 0, 0) := by decide +kernel
theorem at_33_94 : am_at (am_m 33) 94 = some (.getfield 25, 2308) := by decide +kernel
theorem at_33_97 : am_at (am_m 33) 97 = some (.invokevirtual 68, 52) := by decide +kernel
theorem at_33_100 : am_at (am_m 33) 100 = some (.istore_n 3, 0) := by decide +kernel
theorem at_33_101 : am_at (am_m 33) 101 = some (.aload_n 0, 0) := by decide +kernel
theorem at_33_102 : am_at (am_m 33) 102 = some (.iload_n 3, 0) := by decide +kernel
theorem at_33_103 : am_at (am_m 33) 103 = some (.ifCond .ge 7, 110) := by decide +kernel
theorem at_33_106 : am_at (am_m 33) 106 = some (.iconst (-1), 0) := by decide +kernel
theorem at_33_107 : am_at (am_m 33) 107 = some (.goto 9, 116) := by decide +kernel
theorem at_33_110 : am_at (am_m 33) 110 = some (.aload_n 0, 0) := by decide +kernel
theorem at_33_111 : am_at (am_m 33) 111 = some (.getfield 29, 2309) := by decide +kernel
theorem at_33_114 : am_at (am_m 33) 114 = some (.iload_n 3, 0) := by decide +kernel
theorem at_33_115 : am_at (am_m 33) 115 = some (.iaload, 0) := by decide +kernel
theorem at_33_116 : am_at (am_m 33) 116 = some (.putfield 22, 2307) := by decide +kernel
theorem at_33_119 : am_at (am_m 33) 119 = some (.aload_n 0, 0) := by decide +kernel
theorem at_33_120 : am_at (am_m 33) 120 = some (.getfield 22, 2307) := by decide +kernel
theorem at_33_123 : am_at (am_m 33) 123 = some (.ifCond .ge 16, 139) := by decide +kernel
theorem at_33_126 : am_at (am_m 33) 126 = some (.iload_n 1, 0) := by decide +kernel
theorem at_33_127 : am_at (am_m 33) 127 = some (.iconst 2, 0) := by decide +kernel
theorem at_33_128 : am_at (am_m 33) 128 = some (.if_icmp .ne 11, 139) := by decide +kernel
theorem at_33_131 : am_at (am_m 33) 131 = some (.aload_n 0, 0) := by decide +kernel
theorem at_33_132 : am_at (am_m 33) 132 = some (.aload_n 0, 0) := by decide +kernel
theorem at_33_133 : am_at (am_m 33) 133 = some (.invokevirtual 72, 58) := by decide +kernel
theorem at_33_136 : am_at (am_m 33) 136 = some (.putfield 22, 2307) := by decide +kernel
theorem at_33_139 : am_at (am_m 33) 139 = some (.aload_n 0, 0) := by decide +kernel
theorem at_33_140 : am_at (am_m 33) 140 = some (.iconst 0, 0) := by decide +kernel
theorem at_33_141 : am_at (am_m 33) 141 = some (.putfield 15, 2305) := by decide +kernel
theorem at_33_144 : am_at (am_m 33) 144 = some (.aload_n 0, 0) := by decide +kernel
theorem at_33_145 : am_at (am_m 33) 145 = some (.getfield 22, 2307) := by decide +kernel
theorem at_33_148 : am_at (am_m 33) 148 = some (.ireturn, 0) := by decide +kernel
theorem at_34_0 : am_at (am_m 34) 0 = some (.aload_n 0, 0) := by decide +kernel
theorem at_34_1 : am_at (am_m 34) 1 = some (.iload_n 1, 0) := by decide +kernel
theorem at_34_2 : am_at (am_m 34) 2 = some (.putfield 9, 769) := by decide +kernel
theorem at_34_5 : am_at (am_m 34) 5 = some (.aload_n 0, 0) := by decide +kernel
theorem at_34_6 : am_at (am_m 34) 6 = some (.iload_n 2, 0) := by decide +kernel
theorem at_34_7 : am_at (am_m 34) 7 = some (.putfield 15, 770) := by decide +kernel
theorem at_34_10 : am_at (am_m 34) 10 = some (.aload_n 0, 0) := by decide +kernel
theorem at_34_11 : am_at (am_m 34) 11 = some (.iconst 0, 0) := by decide +kernel
theorem at_34_12 : am_at (am_m 34) 12 = some (.putfield 18, 771) := by decide +kernel
theorem at_34_15 : am_at (am_m 34) 15 = some (.aload_n 0, 0) := by decide +kernel
theorem at_34_16 : am_at (am_m 34) 16 = some (.iload_n 1, 0) := by decide +kernel
theorem at_34_17 : am_at (am_m 34) 17 = some (.iconst 2, 0) := by decide +kernel
theorem at_34_18 : am_at (am_m 34) 18 = some (.if_icmp .ne 7, 25) := by decide +kernel
theorem at_34_21 : am_at (am_m 34) 21 = some (.iconst 5, 0) := by decide +kernel
theorem at_34_22 : am_at (am_m 34) 22 = some (.goto 4, 26) := by decide +kernel
theorem at_34_25 : am_at (am_m 34) 25 = some (.iconst 2, 0) := by decide +kernel
theorem at_34_26 : am_at (am_m 34) 26 = some (.putfield 21, 772) := by decide +kernel
theorem at_34_29 : am_at (am_m 34) 29 = some (.return_, 0) := by decide +kernel
theorem at_35_0 : am_at (am_m 35) 0 = some (.aload_n 0, 0) := by decide +kernel
theorem at_35_1 : am_at (am_m 35) 1 = some (.invokevirtual 76, 36) := by decide +kernel
theorem at_35_4 : am_at (am_m 35) 4 = some (.istore 4, 0) := by decide +kernel
theorem at_35_6 : am_at (am_m 35) 6 = some (.ldc 87, 5) := by decide +kernel
theorem at_35_8 : am_at (am_m 35) 8 = some (.iload 4, 0) := by decide +kernel
theorem at_35_10 : am_at (am_m 35) 10 = some (.invokevirtual 89, 10001) := by decide +kernel
theorem at_35_13 : am_at (am_m 35) 13 = some (.iconst 1, 0) := by decide +kernel
theorem at_35_14 : am_at (am_m 35) 14 = some (.iadd, 0) := by decide +kernel
theorem at_35_15 : am_at (am_m 35) 15 = some (.istore 5, 0) := by decide +kernel
theorem at_35_17 : am_at (am_m 35) 17 = some (.aload_n 0, 0) := by decide +kernel
theorem at_35_18 : am_at (am_m 35) 18 = some (.getfield 25, 2308) := by decide +kernel
theorem at_35_21 : am_at (am_m 35) 21 = some (.getfield 95, 771) := by decide +kernel
theorem at_35_24 : am_at (am_m 35) 24 = some (.bipush 60, 0) := by decide +kernel
theorem at_35_26 : am_at (am_m 35) 26 = some (.if_icmp .ge 9, 35) := by decide +kernel
theorem at_35_29 : am_at (am_m 35) 29 = some (.iload_n 2, 0) := by decide +kernel
theorem at_35_30 : am_at (am_m 35) 30 = some (.bipush 12, 0) := by decide +kernel
theorem at_35_32 : am_at (am_m 35) 32 = some (.if_icmp .le 10, 42) := by decide +kernel
theorem at_35_35 : am_at (am_m 35) 35 = some (.aload_n 0, 0) := by decide +kernel
theorem at_35_36 : am_at (am_m 35) 36 = some (.invokevirtual 65, 39) := by decide +kernel
theorem at_35_39 : am_at (am_m 35) 39 = some (.goto 93, 132) := by decide +kernel
theorem at_35_42 : am_at (am_m 35) 42 = some (.iload 4, 0) := by decide +kernel
theorem at_35_44 : am_at (am_m 35) 44 = some (.bipush 40, 0) := by decide +kernel
theorem at_35_46 : am_at (am_m 35) 46 = some (.if_icmp .ne 23, 69) := by decide +kernel
theorem at_35_49 : am_at (am_m 35) 49 = some (.aload_n 0, 0) := by decide +kernel
theorem at_35_50 : am_at (am_m 35) 50 = some (.dup, 0) := by decide +kernel
theorem at_35_51 : am_at (am_m 35) 51 = some (.getfield 19, 2306) := by decide +kernel
theorem at_35_54 : am_at (am_m 35) 54 = some (.iconst 1, 0) := by decide +kernel
theorem at_35_55 : am_at (am_m 35) 55 = some (.iadd, 0) := by decide +kernel
theorem at_35_56 : am_at (am_m 35) 56 = some (.putfield 19, 2306) := by decide +kernel
theorem at_35_59 : am_at (am_m 35) 59 = some (.aload_n 0, 0) := by decide +kernel
theorem at_35_60 : am_at (am_m 35) 60 = some (.iload_n 1, 0) := by decide +kernel
theorem at_35_61 : am_at (am_m 35) 61 = some (.iload_n 2, 0) := by decide +kernel
theorem at_35_62 : am_at (am_m 35) 62 = some (.iload_n 3, 0) := by decide +kernel
theorem at_35_63 : am_at (am_m 35) 63 = some (.invokevirtual 98, 40) := by decide +kernel
theorem at_35_66 : am_at (am_m 35) 66 = some (.goto 66, 132) := by decide +kernel
theorem at_35_69 : am_at (am_m 35) 69 = some (.iload_n 1, 0) := by decide +kernel
theorem at_35_70 : am_at (am_m 35) 70 = some (.ifCond .ne 13, 83) := by decide +kernel
theorem at_35_73 : am_at (am_m 35) 73 = some (.iload 5, 0) := by decide +kernel
theorem at_35_75 : am_at (am_m 35) 75 = some (.iconst 5, 0) := by decide +kernel
theorem at_35_76 : am_at (am_m 35) 76 = some (.if_icmp .lt 14, 90) := by decide +kernel
theorem at_35_79 : am_at (am_m 35) 79 = some (.iload_n 3, 0) := by decide +kernel
theorem at_35_80 : am_at (am_m 35) 80 = some (.ifCond .ne 10, 90) := by decide +kernel
theorem at_35_83 : am_at (am_m 35) 83 = some (.aload_n 0, 0) := by decide +kernel
theorem at_35_84 : am_at (am_m 35) 84 = some (.invokevirtual 65, 39) := by decide +kernel
theorem at_35_87 : am_at (am_m 35) 87 = some (.goto 45, 132) := by decide +kernel
theorem at_35_90 : am_at (am_m 35) 90 = some (.iload 5, 0) := by decide +kernel
theorem at_35_92 : am_at (am_m 35) 92 = some (.ifCond .le 27, 119) := by decide +kernel
theorem at_35_95 : am_at (am_m 35) 95 = some (.aload_n 0, 0) := by decide +kernel
theorem at_35_96 : am_at (am_m 35) 96 = some (.dup, 0) := by decide +kernel
theorem at_35_97 : am_at (am_m 35) 97 = some (.getfield 19, 2306) := by decide +kernel
theorem at_35_100 : am_at (am_m 35) 100 = some (.iconst 1, 0) := by decide +kernel
theorem at_35_101 : am_at (am_m 35) 101 = some (.iadd, 0) := by decide +kernel
theorem at_35_102 : am_at (am_m 35) 102 = some (.putfield 19, 2306) := by decide +kernel
theorem at_35_105 : am_at (am_m 35) 105 = some (.aload_n 0, 0) := by decide +kernel
theorem at_35_106 : am_at (am_m 35) 106 = some (.getfield 25, 2308) := by decide +kernel
theorem at_35_109 : am_at (am_m 35) 109 = some (.iload 5, 0) := by decide +kernel
theorem at_35_111 : am_at (am_m 35) 111 = some (.iconst 0, 0) := by decide +kernel
theorem at_35_112 : am_at (am_m 35) 112 = some (.invokevirtual 101, 41) := by decide +kernel
theorem at_35_115 : am_at (am_m 35) 115 = some (.pop, 0) := by decide +kernel
theorem at_35_116 : am_at (am_m 35) 116 = some (.goto 16, 132) := by decide +kernel
theorem at_35_119 : am_at (am_m 35) 119 = some (.aload_n 0, 0) := by decide +kernel
theorem at_35_120 : am_at (am_m 35) 120 = some (.getfield 25, 2308) := by decide +kernel
theorem at_35_123 : am_at (am_m 35) 123 = some (.iconst 0, 0) := by decide +kernel
theorem at_35_124 : am_at (am_m 35) 124 = some (.aload_n 0, 0) := by decide +kernel
theorem at_35_125 : am_at (am_m 35) 125 = some (.invokevirtual 105, 43) := by decide +kernel
theorem at_35_128 : am_at (am_m 35) 128 = some (.invokevirtual 101, 41) := by decide +kernel
theorem at_35_131 : am_at (am_m 35) 131 = some (.pop, 0) := by decide +kernel
theorem at_35_132 : am_at (am_m 35) 132 = some (.return_, 0) := by decide +kernel
theorem at_36_0 : am_at (am_m 36) 0 = some (.aload_n 0, 0) := by decide +kernel
theorem at_36_1 : am_at (am_m 36) 1 = some (.getfield 19, 2306) := by decide +kernel
theorem at_36_4 : am_at (am_m 36) 4 = some (.aload_n 0, 0) := by decide +kernel
theorem at_36_5 : am_at (am_m 36) 5 = some (.getfield 15, 2305) := by decide +kernel
theorem at_36_8 : am_at (am_m 36) 8 = some (.if_icmp .ge 15, 23) := by decide +kernel
theorem at_36_11 : am_at (am_m 36) 11 = some (.aload_n 0, 0) := by decide +kernel
theorem at_36_12 : am_at (am_m 36) 12 = some (.getfield 9, 2304) := by decide +kernel
theorem at_36_15 : am_at (am_m 36) 15 = some (.aload_n 0, 0) := by decide +kernel
theorem at_36_16 : am_at (am_m 36) 16 = some (.getfield 19, 2306) := by decide +kernel
theorem at_36_19 : am_at (am_m 36) 19 = some (.caload, 0) := by decide +kernel
theorem at_36_20 : am_at (am_m 36) 20 = some (.goto 4, 24) := by decide +kernel
theorem at_36_23 : am_at (am_m 36) 23 = some (.iconst 0, 0) := by decide +kernel
theorem at_36_24 : am_at (am_m 36) 24 = some (.ireturn, 0) := by decide +kernel
theorem at_39_0 : am_at (am_m 39) 0 = some (.aload_n 0, 0) := by decide +kernel
theorem at_39_1 : am_at (am_m 39) 1 = some (.getfield 22, 2307) := by decide +kernel
theorem at_39_4 : am_at (am_m 39) 4 = some (.ifCond .ge 11, 15) := by decide +kernel
theorem at_39_7 : am_at (am_m 39) 7 = some (.aload_n 0, 0) := by decide +kernel
theorem at_39_8 : am_at (am_m 39) 8 = some (.aload_n 0, 0) := by decide +kernel
theorem at_39_9 : am_at (am_m 39) 9 = some (.getfield 19, 2306) := by decide +kernel
theorem at_39_12 : am_at (am_m 39) 12 = some (.putfield 22, 2307) := by decide +kernel
theorem at_39_15 : am_at (am_m 39) 15 = some (.return_, 0) := by decide +kernel
theorem at_40_0 : am_at (am_m 40) 0 = some (.ldc 108, 6) := by decide +kernel
theorem at_40_2 : am_at (am_m 40) 2 = some (.aload_n 0, 0) := by decide +kernel
theorem at_40_3 : am_at (am_m 40) 3 = some (.invokevirtual 76, 36) := by decide +kernel
theorem at_40_6 : am_at (am_m 40) 6 = some (.invokevirtual 89, 10001) := by decide +kernel
theorem at_40_9 : am_at (am_m 40) 9 = some (.istore 4, 0) := by decide +kernel
theorem at_40_11 : am_at (am_m 40) 11 = some (.iload 4, 0) := by decide +kernel
theorem at_40_13 : am_at (am_m 40) 13 = some (.bipush 7, 0) := by decide +kernel
theorem at_40_15 : am_at (am_m 40) 15 = some (.iadd, 0) := by decide +kernel
theorem at_40_16 : am_at (am_m 40) 16 = some (.istore 5, 0) := by decide +kernel
theorem at_40_18 : am_at (am_m 40) 18 = some (.iload 4, 0) := by decide +kernel
theorem at_40_20 : am_at (am_m 40) 20 = some (.ifCond .lt 23, 43) := by decide +kernel
theorem at_40_23 : am_at (am_m 40) 23 = some (.iload 5, 0) := by decide +kernel
theorem at_40_25 : am_at (am_m 40) 25 = some (.invokestatic 110, 11) := by decide +kernel
theorem at_40_28 : am_at (am_m 40) 28 = some (.iload_n 1, 0) := by decide +kernel
theorem at_40_29 : am_at (am_m 40) 29 = some (.if_icmp .ne 14, 43) := by decide +kernel
theorem at_40_32 : am_at (am_m 40) 32 = some (.iload 5, 0) := by decide +kernel
theorem at_40_34 : am_at (am_m 40) 34 = some (.bipush 19, 0) := by decide +kernel
theorem at_40_36 : am_at (am_m 40) 36 = some (.if_icmp .ne 12, 48) := by decide +kernel
theorem at_40_39 : am_at (am_m 40) 39 = some (.iload_n 3, 0) := by decide +kernel
theorem at_40_40 : am_at (am_m 40) 40 = some (.ifCond .eq 8, 48) := by decide +kernel
theorem at_40_43 : am_at (am_m 40) 43 = some (.aload_n 0, 0) := by decide +kernel
theorem at_40_44 : am_at (am_m 40) 44 = some (.invokevirtual 65, 39) := by decide +kernel
theorem at_40_47 : am_at (am_m 40) 47 = some (.return_, 0) := by decide +kernel
theorem at_40_48 : am_at (am_m 40) 48 = some (.aload_n 0, 0) := by decide +kernel
theorem at_40_49 : am_at (am_m 40) 49 = some (.dup, 0) := by decide +kernel
theorem at_40_50 : am_at (am_m 40) 50 = some (.getfield 19, 2306) := by decide +kernel
theorem at_40_53 : am_at (am_m 40) 53 = some (.iconst 1, 0) := by decide +kernel
theorem at_40_54 : am_at (am_m 40) 54 = some (.iadd, 0) := by decide +kernel
theorem at_40_55 : am_at (am_m 40) 55 = some (.putfield 19, 2306) := by decide +kernel
theorem at_40_58 : am_at (am_m 40) 58 = some (.aload_n 0, 0) := by decide +kernel
theorem at_40_59 : am_at (am_m 40) 59 = some (.getfield 25, 2308) := by decide +kernel
theorem at_40_62 : am_at (am_m 40) 62 = some (.iload 5, 0) := by decide +kernel
theorem at_40_64 : am_at (am_m 40) 64 = some (.iconst 0, 0) := by decide +kernel
theorem at_40_65 : am_at (am_m 40) 65 = some (.invokevirtual 101, 41) := by decide +kernel
theorem at_40_68 : am_at (am_m 40) 68 = some (.pop, 0) := by decide +kernel
theorem at_40_69 : am_at (am_m 40) 69 = some (.iconst 0, 0) := by decide +kernel
theorem at_40_70 : am_at (am_m 40) 70 = some (.istore 6, 0) := by decide +kernel
theorem at_40_72 : am_at (am_m 40) 72 = some (.iload 6, 0) := by decide +kernel
theorem at_40_74 : am_at (am_m 40) 74 = some (.iload 5, 0) := by decide +kernel
theorem at_40_76 : am_at (am_m 40) 76 = some (.invokestatic 114, 14) := by decide +kernel
theorem at_40_79 : am_at (am_m 40) 79 = some (.if_icmp .ge 54, 133) := by decide +kernel
theorem at_40_82 : am_at (am_m 40) 82 = some (.aload_n 0, 0) := by decide +kernel
theorem at_40_83 : am_at (am_m 40) 83 = some (.bipush 32, 0) := by decide +kernel
theorem at_40_85 : am_at (am_m 40) 85 = some (.invokevirtual 117, 42) := by decide +kernel
theorem at_40_88 : am_at (am_m 40) 88 = some (.ifCond .eq 45, 133) := by decide +kernel
theorem at_40_91 : am_at (am_m 40) 91 = some (.aload_n 0, 0) := by decide +kernel
theorem at_40_92 : am_at (am_m 40) 92 = some (.iload 5, 0) := by decide +kernel
theorem at_40_94 : am_at (am_m 40) 94 = some (.iload 6, 0) := by decide +kernel
theorem at_40_96 : am_at (am_m 40) 96 = some (.invokestatic 120, 13) := by decide +kernel
theorem at_40_99 : am_at (am_m 40) 99 = some (.iload_n 2, 0) := by decide +kernel
theorem at_40_100 : am_at (am_m 40) 100 = some (.iconst 1, 0) := by decide +kernel
theorem at_40_101 : am_at (am_m 40) 101 = some (.iadd, 0) := by decide +kernel
theorem at_40_102 : am_at (am_m 40) 102 = some (.iload_n 3, 0) := by decide +kernel
theorem at_40_103 : am_at (am_m 40) 103 = some (.ifCond .ne 16, 119) := by decide +kernel
theorem at_40_106 : am_at (am_m 40) 106 = some (.iload 5, 0) := by decide +kernel
theorem at_40_108 : am_at (am_m 40) 108 = some (.bipush 19, 0) := by decide +kernel
theorem at_40_110 : am_at (am_m 40) 110 = some (.if_icmp .ne 13, 123) := by decide +kernel
theorem at_40_113 : am_at (am_m 40) 113 = some (.iload 6, 0) := by decide +kernel
theorem at_40_115 : am_at (am_m 40) 115 = some (.iconst 1, 0) := by decide +kernel
theorem at_40_116 : am_at (am_m 40) 116 = some (.if_icmp .ne 7, 123) := by decide +kernel
theorem at_40_119 : am_at (am_m 40) 119 = some (.iconst 1, 0) := by decide +kernel
theorem at_40_120 : am_at (am_m 40) 120 = some (.goto 4, 124) := by decide +kernel
theorem at_40_123 : am_at (am_m 40) 123 = some (.iconst 0, 0) := by decide +kernel
theorem at_40_124 : am_at (am_m 40) 124 = some (.invokevirtual 54, 35) := by decide +kernel
theorem at_40_127 : am_at (am_m 40) 127 = some (.iinc 6 1, 0) := by decide +kernel
theorem at_40_130 : am_at (am_m 40) 130 = some (.goto (-58), 72) := by decide +kernel
theorem at_40_133 : am_at (am_m 40) 133 = some (.aload_n 0, 0) := by decide +kernel
theorem at_40_134 : am_at (am_m 40) 134 = some (.bipush 41, 0) := by decide +kernel
theorem at_40_136 : am_at (am_m 40) 136 = some (.invokevirtual 117, 42) := by decide +kernel
theorem at_40_139 : am_at (am_m 40) 139 = some (.pop, 0) := by decide +kernel
theorem at_40_140 : am_at (am_m 40) 140 = some (.return_, 0) := by decide +kernel
theorem at_41_0 : am_at (am_m 41) 0 = some (.aload_n 0, 0) := by decide +kernel
theorem at_41_1 : am_at (am_m 41) 1 = some (.getfield 18, 771) := by decide +kernel
theorem at_41_4 : am_at (am_m 41) 4 = some (.aload_n 0, 0) := by decide +kernel
theorem at_41_5 : am_at (am_m 41) 5 = some (.getfield 21, 772) := by decide +kernel
theorem at_41_8 : am_at (am_m 41) 8 = some (.imul, 0) := by decide +kernel
theorem at_41_9 : am_at (am_m 41) 9 = some (.istore_n 3, 0) := by decide +kernel
theorem at_41_10 : am_at (am_m 41) 10 = some (.iload_n 3, 0) := by decide +kernel
theorem at_41_11 : am_at (am_m 41) 11 = some (.aload_n 0, 0) := by decide +kernel
theorem at_41_12 : am_at (am_m 41) 12 = some (.getfield 21, 772) := by decide +kernel
theorem at_41_15 : am_at (am_m 41) 15 = some (.iadd, 0) := by decide +kernel
theorem at_41_16 : am_at (am_m 41) 16 = some (.aload_n 0, 0) := by decide +kernel
theorem at_41_17 : am_at (am_m 41) 17 = some (.getfield 43, 768) := by decide +kernel
theorem at_41_20 : am_at (am_m 41) 20 = some (.arraylength, 0) := by decide +kernel
theorem at_41_21 : am_at (am_m 41) 21 = some (.if_icmp .le 5, 26) := by decide +kernel
theorem at_41_24 : am_at (am_m 41) 24 = some (.iconst 0, 0) := by decide +kernel
theorem at_41_25 : am_at (am_m 41) 25 = some (.ireturn, 0) := by decide +kernel
theorem at_41_26 : am_at (am_m 41) 26 = some (.iconst 2, 0) := by decide +kernel
theorem at_41_27 : am_at (am_m 41) 27 = some (.istore 4, 0) := by decide +kernel
theorem at_41_29 : am_at (am_m 41) 29 = some (.iload 4, 0) := by decide +kernel
theorem at_41_31 : am_at (am_m 41) 31 = some (.aload_n 0, 0) := by decide +kernel
theorem at_41_32 : am_at (am_m 41) 32 = some (.getfield 21, 772) := by decide +kernel
theorem at_41_35 : am_at (am_m 41) 35 = some (.if_icmp .ge 19, 54) := by decide +kernel
theorem at_41_38 : am_at (am_m 41) 38 = some (.aload_n 0, 0) := by decide +kernel
theorem at_41_39 : am_at (am_m 41) 39 = some (.getfield 43, 768) := by decide +kernel
theorem at_41_42 : am_at (am_m 41) 42 = some (.iload_n 3, 0) := by decide +kernel
theorem at_41_43 : am_at (am_m 41) 43 = some (.iload 4, 0) := by decide +kernel
theorem at_41_45 : am_at (am_m 41) 45 = some (.iadd, 0) := by decide +kernel
theorem at_41_46 : am_at (am_m 41) 46 = some (.iconst 0, 0) := by decide +kernel
theorem at_41_47 : am_at (am_m 41) 47 = some (.iastore, 0) := by decide +kernel
theorem at_41_48 : am_at (am_m 41) 48 = some (.iinc 4 1, 0) := by decide +kernel
theorem at_41_51 : am_at (am_m 41) 51 = some (.goto (-22), 29) := by decide +kernel
theorem at_41_54 : am_at (am_m 41) 54 = some (.aload_n 0, 0) := by decide +kernel
theorem at_41_55 : am_at (am_m 41) 55 = some (.getfield 43, 768) := by decide +kernel
theorem at_41_58 : am_at (am_m 41) 58 = some (.iload_n 3, 0) := by decide +kernel
theorem at_41_59 : am_at (am_m 41) 59 = some (.iload_n 1, 0) := by decide +kernel
theorem at_41_60 : am_at (am_m 41) 60 = some (.iastore, 0) := by decide +kernel
theorem at_41_61 : am_at (am_m 41) 61 = some (.aload_n 0, 0) := by decide +kernel
theorem at_41_62 : am_at (am_m 41) 62 = some (.getfield 43, 768) := by decide +kernel
theorem at_41_65 : am_at (am_m 41) 65 = some (.iload_n 3, 0) := by decide +kernel
theorem at_41_66 : am_at (am_m 41) 66 = some (.iconst 1, 0) := by decide +kernel
theorem at_41_67 : am_at (am_m 41) 67 = some (.iadd, 0) := by decide +kernel
theorem at_41_68 : am_at (am_m 41) 68 = some (.iload_n 2, 0) := by decide +kernel
theorem at_41_69 : am_at (am_m 41) 69 = some (.iastore, 0) := by decide +kernel
theorem at_41_70 : am_at (am_m 41) 70 = some (.aload_n 0, 0) := by decide +kernel
theorem at_41_71 : am_at (am_m 41) 71 = some (.dup, 0) := by decide +kernel
theorem at_41_72 : am_at (am_m 41) 72 = some (.getfield 18, 771) := by decide +kernel
theorem at_41_75 : am_at (am_m 41) 75 = some (.iconst 1, 0) := by decide +kernel
theorem at_41_76 : am_at (am_m 41) 76 = some (.iadd, 0) := by decide +kernel
theorem at_41_77 : am_at (am_m 41) 77 = some (.putfield 18, 771) := by decide +kernel
theorem at_41_80 : am_at (am_m 41) 80 = some (.iconst 1, 0) := by decide +kernel
theorem at_41_81 : am_at (am_m 41) 81 = some (.ireturn, 0) := by decide +kernel
theorem at_42_0 : am_at (am_m 42) 0 = some (.aload_n 0, 0) := by decide +kernel
theorem at_42_1 : am_at (am_m 42) 1 = some (.getfield 22, 2307) := by decide +kernel
theorem at_42_4 : am_at (am_m 42) 4 = some (.ifCond .ge 23, 27) := by decide +kernel
theorem at_42_7 : am_at (am_m 42) 7 = some (.aload_n 0, 0) := by decide +kernel
theorem at_42_8 : am_at (am_m 42) 8 = some (.invokevirtual 76, 36) := by decide +kernel
theorem at_42_11 : am_at (am_m 42) 11 = some (.iload_n 1, 0) := by decide +kernel
theorem at_42_12 : am_at (am_m 42) 12 = some (.if_icmp .ne 15, 27) := by decide +kernel
theorem at_42_15 : am_at (am_m 42) 15 = some (.aload_n 0, 0) := by decide +kernel
theorem at_42_16 : am_at (am_m 42) 16 = some (.dup, 0) := by decide +kernel
theorem at_42_17 : am_at (am_m 42) 17 = some (.getfield 19, 2306) := by decide +kernel
theorem at_42_20 : am_at (am_m 42) 20 = some (.iconst 1, 0) := by decide +kernel
theorem at_42_21 : am_at (am_m 42) 21 = some (.iadd, 0) := by decide +kernel
theorem at_42_22 : am_at (am_m 42) 22 = some (.putfield 19, 2306) := by decide +kernel
theorem at_42_25 : am_at (am_m 42) 25 = some (.iconst 1, 0) := by decide +kernel
theorem at_42_26 : am_at (am_m 42) 26 = some (.ireturn, 0) := by decide +kernel
theorem at_42_27 : am_at (am_m 42) 27 = some (.aload_n 0, 0) := by decide +kernel
theorem at_42_28 : am_at (am_m 42) 28 = some (.invokevirtual 65, 39) := by decide +kernel
theorem at_42_31 : am_at (am_m 42) 31 = some (.iconst 0, 0) := by decide +kernel
theorem at_42_32 : am_at (am_m 42) 32 = some (.ireturn, 0) := by decide +kernel
theorem at_43_0 : am_at (am_m 43) 0 = some (.aload_n 0, 0) := by decide +kernel
theorem at_43_1 : am_at (am_m 43) 1 = some (.invokevirtual 76, 36) := by decide +kernel
theorem at_43_4 : am_at (am_m 43) 4 = some (.bipush 45, 0) := by decide +kernel
theorem at_43_6 : am_at (am_m 43) 6 = some (.if_icmp .ne 7, 13) := by decide +kernel
theorem at_43_9 : am_at (am_m 43) 9 = some (.iconst 1, 0) := by decide +kernel
theorem at_43_10 : am_at (am_m 43) 10 = some (.goto 4, 14) := by decide +kernel
theorem at_43_13 : am_at (am_m 43) 13 = some (.iconst 0, 0) := by decide +kernel
theorem at_43_14 : am_at (am_m 43) 14 = some (.istore_n 1, 0) := by decide +kernel
theorem at_43_15 : am_at (am_m 43) 15 = some (.iload_n 1, 0) := by decide +kernel
theorem at_43_16 : am_at (am_m 43) 16 = some (.ifCond .eq 13, 29) := by decide +kernel
theorem at_43_19 : am_at (am_m 43) 19 = some (.aload_n 0, 0) := by decide +kernel
theorem at_43_20 : am_at (am_m 43) 20 = some (.dup, 0) := by decide +kernel
theorem at_43_21 : am_at (am_m 43) 21 = some (.getfield 19, 2306) := by decide +kernel
theorem at_43_24 : am_at (am_m 43) 24 = some (.iconst 1, 0) := by decide +kernel
theorem at_43_25 : am_at (am_m 43) 25 = some (.iadd, 0) := by decide +kernel
theorem at_43_26 : am_at (am_m 43) 26 = some (.putfield 19, 2306) := by decide +kernel
theorem at_43_29 : am_at (am_m 43) 29 = some (.aload_n 0, 0) := by decide +kernel
theorem at_43_30 : am_at (am_m 43) 30 = some (.invokevirtual 84, 44) := by decide +kernel
theorem at_43_33 : am_at (am_m 43) 33 = some (.istore_n 2, 0) := by decide +kernel
theorem at_43_34 : am_at (am_m 43) 34 = some (.iload_n 1, 0) := by decide +kernel
theorem at_43_35 : am_at (am_m 43) 35 = some (.ifCond .eq 8, 43) := by decide +kernel
theorem at_43_38 : am_at (am_m 43) 38 = some (.iload_n 2, 0) := by decide +kernel
theorem at_43_39 : am_at (am_m 43) 39 = some (.ineg, 0) := by decide +kernel
theorem at_43_40 : am_at (am_m 43) 40 = some (.goto 4, 44) := by decide +kernel
theorem at_43_43 : am_at (am_m 43) 43 = some (.iload_n 2, 0) := by decide +kernel
theorem at_43_44 : am_at (am_m 43) 44 = some (.ireturn, 0) := by decide +kernel
theorem at_44_0 : am_at (am_m 44) 0 = some (.iconst 0, 0) := by decide +kernel
theorem at_44_1 : am_at (am_m 44) 1 = some (.istore_n 1, 0) := by decide +kernel
theorem at_44_2 : am_at (am_m 44) 2 = some (.aload_n 0, 0) := by decide +kernel
theorem at_44_3 : am_at (am_m 44) 3 = some (.getfield 22, 2307) := by decide +kernel
theorem at_44_6 : am_at (am_m 44) 6 = some (.ifCond .ge 13, 19) := by decide +kernel
theorem at_44_9 : am_at (am_m 44) 9 = some (.aload_n 0, 0) := by decide +kernel
theorem at_44_10 : am_at (am_m 44) 10 = some (.invokevirtual 76, 36) := by decide +kernel
theorem at_44_13 : am_at (am_m 44) 13 = some (.invokestatic 80, 45) := by decide +kernel
theorem at_44_16 : am_at (am_m 44) 16 = some (.ifCond .ne 7, 23) := by decide +kernel
theorem at_44_19 : am_at (am_m 44) 19 = some (.aload_n 0, 0) := by decide +kernel
theorem at_44_20 : am_at (am_m 44) 20 = some (.invokevirtual 65, 39) := by decide +kernel
theorem at_44_23 : am_at (am_m 44) 23 = some (.iconst 0, 0) := by decide +kernel
theorem at_44_24 : am_at (am_m 44) 24 = some (.istore_n 2, 0) := by decide +kernel
theorem at_44_25 : am_at (am_m 44) 25 = some (.iload_n 2, 0) := by decide +kernel
theorem at_44_26 : am_at (am_m 44) 26 = some (.iconst 2, 0) := by decide +kernel
theorem at_44_27 : am_at (am_m 44) 27 = some (.if_icmp .ge 49, 76) := by decide +kernel
theorem at_44_30 : am_at (am_m 44) 30 = some (.aload_n 0, 0) := by decide +kernel
theorem at_44_31 : am_at (am_m 44) 31 = some (.getfield 22, 2307) := by decide +kernel
theorem at_44_34 : am_at (am_m 44) 34 = some (.ifCond .ge 42, 76) := by decide +kernel
theorem at_44_37 : am_at (am_m 44) 37 = some (.aload_n 0, 0) := by decide +kernel
theorem at_44_38 : am_at (am_m 44) 38 = some (.invokevirtual 76, 36) := by decide +kernel
theorem at_44_41 : am_at (am_m 44) 41 = some (.invokestatic 80, 45) := by decide +kernel
theorem at_44_44 : am_at (am_m 44) 44 = some (.ifCond .eq 32, 76) := by decide +kernel
theorem at_44_47 : am_at (am_m 44) 47 = some (.bipush 10, 0) := by decide +kernel
theorem at_44_49 : am_at (am_m 44) 49 = some (.iload_n 1, 0) := by decide +kernel
theorem at_44_50 : am_at (am_m 44) 50 = some (.imul, 0) := by decide +kernel
theorem at_44_51 : am_at (am_m 44) 51 = some (.aload_n 0, 0) := by decide +kernel
theorem at_44_52 : am_at (am_m 44) 52 = some (.invokevirtual 76, 36) := by decide +kernel
theorem at_44_55 : am_at (am_m 44) 55 = some (.iadd, 0) := by decide +kernel
theorem at_44_56 : am_at (am_m 44) 56 = some (.bipush 48, 0) := by decide +kernel
theorem at_44_58 : am_at (am_m 44) 58 = some (.isub, 0) := by decide +kernel
theorem at_44_59 : am_at (am_m 44) 59 = some (.istore_n 1, 0) := by decide +kernel
theorem at_44_60 : am_at (am_m 44) 60 = some (.aload_n 0, 0) := by decide +kernel
theorem at_44_61 : am_at (am_m 44) 61 = some (.dup, 0) := by decide +kernel
theorem at_44_62 : am_at (am_m 44) 62 = some (.getfield 19, 2306) := by decide +kernel
theorem at_44_65 : am_at (am_m 44) 65 = some (.iconst 1, 0) := by decide +kernel
theorem at_44_66 : am_at (am_m 44) 66 = some (.iadd, 0) := by decide +kernel
theorem at_44_67 : am_at (am_m 44) 67 = some (.putfield 19, 2306) := by decide +kernel
theorem at_44_70 : am_at (am_m 44) 70 = some (.iinc 2 1, 0) := by decide +kernel
theorem at_44_73 : am_at (am_m 44) 73 = some (.goto (-48), 25) := by decide +kernel
theorem at_44_76 : am_at (am_m 44) 76 = some (.iload_n 1, 0) := by decide +kernel
theorem at_44_77 : am_at (am_m 44) 77 = some (.ireturn, 0) := by decide +kernel
theorem at_45_0 : am_at (am_m 45) 0 = some (.iload_n 0, 0) := by decide +kernel
theorem at_45_1 : am_at (am_m 45) 1 = some (.bipush 48, 0) := by decide +kernel
theorem at_45_3 : am_at (am_m 45) 3 = some (.if_icmp .lt 13, 16) := by decide +kernel
theorem at_45_6 : am_at (am_m 45) 6 = some (.iload_n 0, 0) := by decide +kernel
theorem at_45_7 : am_at (am_m 45) 7 = some (.bipush 57, 0) := by decide +kernel
theorem at_45_9 : am_at (am_m 45) 9 = some (.if_icmp .gt 7, 16) := by decide +kernel
theorem at_45_12 : am_at (am_m 45) 12 = some (.iconst 1, 0) := by decide +kernel
theorem at_45_13 : am_at (am_m 45) 13 = some (.goto 4, 17) := by decide +kernel
theorem at_45_16 : am_at (am_m 45) 16 = some (.iconst 0, 0) := by decide +kernel
theorem at_45_17 : am_at (am_m 45) 17 = some (.ireturn, 0) := by decide +kernel
theorem at_46_0 : am_at (am_m 46) 0 = some (.aload_n 0, 0) := by decide +kernel
theorem at_46_1 : am_at (am_m 46) 1 = some (.iconst 2, 0) := by decide +kernel
theorem at_46_2 : am_at (am_m 46) 2 = some (.bipush 8, 0) := by decide +kernel
theorem at_46_4 : am_at (am_m 46) 4 = some (.invokevirtual 131, 47) := by decide +kernel
theorem at_46_7 : am_at (am_m 46) 7 = some (.istore_n 1, 0) := by decide +kernel
theorem at_46_8 : am_at (am_m 46) 8 = some (.aload_n 0, 0) := by decide +kernel
theorem at_46_9 : am_at (am_m 46) 9 = some (.getfield 25, 2308) := by decide +kernel
theorem at_46_12 : am_at (am_m 46) 12 = some (.iconst 3, 0) := by decide +kernel
theorem at_46_13 : am_at (am_m 46) 13 = some (.iload_n 1, 0) := by decide +kernel
theorem at_46_14 : am_at (am_m 46) 14 = some (.invokevirtual 48, 34) := by decide +kernel
theorem at_46_17 : am_at (am_m 46) 17 = some (.aload_n 0, 0) := by decide +kernel
theorem at_46_18 : am_at (am_m 46) 18 = some (.bipush 58, 0) := by decide +kernel
theorem at_46_20 : am_at (am_m 46) 20 = some (.invokevirtual 117, 42) := by decide +kernel
theorem at_46_23 : am_at (am_m 46) 23 = some (.pop, 0) := by decide +kernel
theorem at_46_24 : am_at (am_m 46) 24 = some (.iconst 0, 0) := by decide +kernel
theorem at_46_25 : am_at (am_m 46) 25 = some (.istore_n 2, 0) := by decide +kernel
theorem at_46_26 : am_at (am_m 46) 26 = some (.iload_n 2, 0) := by decide +kernel
theorem at_46_27 : am_at (am_m 46) 27 = some (.bipush 40, 0) := by decide +kernel
theorem at_46_29 : am_at (am_m 46) 29 = some (.if_icmp .gt 76, 105) := by decide +kernel
theorem at_46_32 : am_at (am_m 46) 32 = some (.aload_n 0, 0) := by decide +kernel
theorem at_46_33 : am_at (am_m 46) 33 = some (.getfield 22, 2307) := by decide +kernel
theorem at_46_36 : am_at (am_m 46) 36 = some (.ifCond .ge 69, 105) := by decide +kernel
theorem at_46_39 : am_at (am_m 46) 39 = some (.aload_n 0, 0) := by decide +kernel
theorem at_46_40 : am_at (am_m 46) 40 = some (.getfield 19, 2306) := by decide +kernel
theorem at_46_43 : am_at (am_m 46) 43 = some (.aload_n 0, 0) := by decide +kernel
theorem at_46_44 : am_at (am_m 46) 44 = some (.getfield 15, 2305) := by decide +kernel
theorem at_46_47 : am_at (am_m 46) 47 = some (.if_icmp .ge 58, 105) := by decide +kernel
theorem at_46_50 : am_at (am_m 46) 50 = some (.iload_n 2, 0) := by decide +kernel
theorem at_46_51 : am_at (am_m 46) 51 = some (.ifCond .le 10, 61) := by decide +kernel
theorem at_46_54 : am_at (am_m 46) 54 = some (.aload_n 0, 0) := by decide +kernel
theorem at_46_55 : am_at (am_m 46) 55 = some (.bipush 44, 0) := by decide +kernel
theorem at_46_57 : am_at (am_m 46) 57 = some (.invokevirtual 117, 42) := by decide +kernel
theorem at_46_60 : am_at (am_m 46) 60 = some (.pop, 0) := by decide +kernel
theorem at_46_61 : am_at (am_m 46) 61 = some (.iload_n 2, 0) := by decide +kernel
theorem at_46_62 : am_at (am_m 46) 62 = some (.bipush 40, 0) := by decide +kernel
theorem at_46_64 : am_at (am_m 46) 64 = some (.if_icmp .ne 7, 71) := by decide +kernel
theorem at_46_67 : am_at (am_m 46) 67 = some (.aload_n 0, 0) := by decide +kernel
theorem at_46_68 : am_at (am_m 46) 68 = some (.invokevirtual 65, 39) := by decide +kernel
theorem at_46_71 : am_at (am_m 46) 71 = some (.aload_n 0, 0) := by decide +kernel
theorem at_46_72 : am_at (am_m 46) 72 = some (.iconst 0, 0) := by decide +kernel
theorem at_46_73 : am_at (am_m 46) 73 = some (.iload_n 1, 0) := by decide +kernel
theorem at_46_74 : am_at (am_m 46) 74 = some (.iconst 1, 0) := by decide +kernel
theorem at_46_75 : am_at (am_m 46) 75 = some (.isub, 0) := by decide +kernel
theorem at_46_76 : am_at (am_m 46) 76 = some (.invokevirtual 131, 47) := by decide +kernel
theorem at_46_79 : am_at (am_m 46) 79 = some (.istore_n 3, 0) := by decide +kernel
theorem at_46_80 : am_at (am_m 46) 80 = some (.aload_n 0, 0) := by decide +kernel
theorem at_46_81 : am_at (am_m 46) 81 = some (.getfield 25, 2308) := by decide +kernel
theorem at_46_84 : am_at (am_m 46) 84 = some (.iload_n 3, 0) := by decide +kernel
theorem at_46_85 : am_at (am_m 46) 85 = some (.aload_n 0, 0) := by decide +kernel
theorem at_46_86 : am_at (am_m 46) 86 = some (.iload_n 3, 0) := by decide +kernel
theorem at_46_87 : am_at (am_m 46) 87 = some (.iconst 1, 0) := by decide +kernel
theorem at_46_88 : am_at (am_m 46) 88 = some (.iadd, 0) := by decide +kernel
theorem at_46_89 : am_at (am_m 46) 89 = some (.iload_n 1, 0) := by decide +kernel
theorem at_46_90 : am_at (am_m 46) 90 = some (.iconst 1, 0) := by decide +kernel
theorem at_46_91 : am_at (am_m 46) 91 = some (.isub, 0) := by decide +kernel
theorem at_46_92 : am_at (am_m 46) 92 = some (.invokevirtual 131, 47) := by decide +kernel
theorem at_46_95 : am_at (am_m 46) 95 = some (.invokevirtual 101, 41) := by decide +kernel
theorem at_46_98 : am_at (am_m 46) 98 = some (.pop, 0) := by decide +kernel
theorem at_46_99 : am_at (am_m 46) 99 = some (.iinc 2 1, 0) := by decide +kernel
theorem at_46_102 : am_at (am_m 46) 102 = some (.goto (-76), 26) := by decide +kernel
theorem at_46_105 : am_at (am_m 46) 105 = some (.return_, 0) := by decide +kernel
theorem at_47_0 : am_at (am_m 47) 0 = some (.aload_n 0, 0) := by decide +kernel
theorem at_47_1 : am_at (am_m 47) 1 = some (.invokevirtual 76, 36) := by decide +kernel
theorem at_47_4 : am_at (am_m 47) 4 = some (.bipush 48, 0) := by decide +kernel
theorem at_47_6 : am_at (am_m 47) 6 = some (.isub, 0) := by decide +kernel
theorem at_47_7 : am_at (am_m 47) 7 = some (.istore_n 3, 0) := by decide +kernel
theorem at_47_8 : am_at (am_m 47) 8 = some (.aload_n 0, 0) := by decide +kernel
theorem at_47_9 : am_at (am_m 47) 9 = some (.getfield 22, 2307) := by decide +kernel
theorem at_47_12 : am_at (am_m 47) 12 = some (.ifCond .ge 13, 25) := by decide +kernel
theorem at_47_15 : am_at (am_m 47) 15 = some (.iload_n 3, 0) := by decide +kernel
theorem at_47_16 : am_at (am_m 47) 16 = some (.iload_n 1, 0) := by decide +kernel
theorem at_47_17 : am_at (am_m 47) 17 = some (.if_icmp .lt 8, 25) := by decide +kernel
theorem at_47_20 : am_at (am_m 47) 20 = some (.iload_n 3, 0) := by decide +kernel
theorem at_47_21 : am_at (am_m 47) 21 = some (.iload_n 2, 0) := by decide +kernel
theorem at_47_22 : am_at (am_m 47) 22 = some (.if_icmp .le 9, 31) := by decide +kernel
theorem at_47_25 : am_at (am_m 47) 25 = some (.aload_n 0, 0) := by decide +kernel
theorem at_47_26 : am_at (am_m 47) 26 = some (.invokevirtual 65, 39) := by decide +kernel
theorem at_47_29 : am_at (am_m 47) 29 = some (.iconst 0, 0) := by decide +kernel
theorem at_47_30 : am_at (am_m 47) 30 = some (.ireturn, 0) := by decide +kernel
theorem at_47_31 : am_at (am_m 47) 31 = some (.aload_n 0, 0) := by decide +kernel
theorem at_47_32 : am_at (am_m 47) 32 = some (.dup, 0) := by decide +kernel
theorem at_47_33 : am_at (am_m 47) 33 = some (.getfield 19, 2306) := by decide +kernel
theorem at_47_36 : am_at (am_m 47) 36 = some (.iconst 1, 0) := by decide +kernel
theorem at_47_37 : am_at (am_m 47) 37 = some (.iadd, 0) := by decide +kernel
theorem at_47_38 : am_at (am_m 47) 38 = some (.putfield 19, 2306) := by decide +kernel
theorem at_47_41 : am_at (am_m 47) 41 = some (.iload_n 3, 0) := by decide +kernel
theorem at_47_42 : am_at (am_m 47) 42 = some (.ireturn, 0) := by decide +kernel
theorem at_48_0 : am_at (am_m 48) 0 = some (.iload_n 1, 0) := by decide +kernel
theorem at_48_1 : am_at (am_m 48) 1 = some (.iconst 1, 0) := by decide +kernel
theorem at_48_2 : am_at (am_m 48) 2 = some (.if_icmp .ne 8, 10) := by decide +kernel
theorem at_48_5 : am_at (am_m 48) 5 = some (.bipush 60, 0) := by decide +kernel
theorem at_48_7 : am_at (am_m 48) 7 = some (.goto 5, 12) := by decide +kernel
theorem at_48_10 : am_at (am_m 48) 10 = some (.bipush 6, 0) := by decide +kernel
theorem at_48_12 : am_at (am_m 48) 12 = some (.istore_n 2, 0) := by decide +kernel
theorem at_48_13 : am_at (am_m 48) 13 = some (.iconst 0, 0) := by decide +kernel
theorem at_48_14 : am_at (am_m 48) 14 = some (.istore_n 3, 0) := by decide +kernel
theorem at_48_15 : am_at (am_m 48) 15 = some (.iload_n 3, 0) := by decide +kernel
theorem at_48_16 : am_at (am_m 48) 16 = some (.iload_n 2, 0) := by decide +kernel
theorem at_48_17 : am_at (am_m 48) 17 = some (.if_icmp .gt 94, 111) := by decide +kernel
theorem at_48_20 : am_at (am_m 48) 20 = some (.aload_n 0, 0) := by decide +kernel
theorem at_48_21 : am_at (am_m 48) 21 = some (.getfield 22, 2307) := by decide +kernel
theorem at_48_24 : am_at (am_m 48) 24 = some (.ifCond .ge 87, 111) := by decide +kernel
theorem at_48_27 : am_at (am_m 48) 27 = some (.iload_n 3, 0) := by decide +kernel
theorem at_48_28 : am_at (am_m 48) 28 = some (.ifCond .eq 14, 42) := by decide +kernel
theorem at_48_31 : am_at (am_m 48) 31 = some (.aload_n 0, 0) := by decide +kernel
theorem at_48_32 : am_at (am_m 48) 32 = some (.getfield 19, 2306) := by decide +kernel
theorem at_48_35 : am_at (am_m 48) 35 = some (.aload_n 0, 0) := by decide +kernel
theorem at_48_36 : am_at (am_m 48) 36 = some (.getfield 15, 2305) := by decide +kernel
theorem at_48_39 : am_at (am_m 48) 39 = some (.if_icmp .ge 72, 111) := by decide +kernel
theorem at_48_42 : am_at (am_m 48) 42 = some (.iload_n 3, 0) := by decide +kernel
theorem at_48_43 : am_at (am_m 48) 43 = some (.ifCond .le 23, 66) := by decide +kernel
theorem at_48_46 : am_at (am_m 48) 46 = some (.aload_n 0, 0) := by decide +kernel
theorem at_48_47 : am_at (am_m 48) 47 = some (.iload_n 1, 0) := by decide +kernel
theorem at_48_48 : am_at (am_m 48) 48 = some (.iconst 1, 0) := by decide +kernel
theorem at_48_49 : am_at (am_m 48) 49 = some (.if_icmp .ne 8, 57) := by decide +kernel
theorem at_48_52 : am_at (am_m 48) 52 = some (.bipush 32, 0) := by decide +kernel
theorem at_48_54 : am_at (am_m 48) 54 = some (.goto 5, 59) := by decide +kernel
theorem at_48_57 : am_at (am_m 48) 57 = some (.bipush 59, 0) := by decide +kernel
theorem at_48_59 : am_at (am_m 48) 59 = some (.invokevirtual 117, 42) := by decide +kernel
theorem at_48_62 : am_at (am_m 48) 62 = some (.ifCond .ne 4, 66) := by decide +kernel
theorem at_48_65 : am_at (am_m 48) 65 = some (.return_, 0) := by decide +kernel
theorem at_48_66 : am_at (am_m 48) 66 = some (.iload_n 3, 0) := by decide +kernel
theorem at_48_67 : am_at (am_m 48) 67 = some (.iload_n 2, 0) := by decide +kernel
theorem at_48_68 : am_at (am_m 48) 68 = some (.if_icmp .ne 10, 78) := by decide +kernel
theorem at_48_71 : am_at (am_m 48) 71 = some (.aload_n 0, 0) := by decide +kernel
theorem at_48_72 : am_at (am_m 48) 72 = some (.invokevirtual 65, 39) := by decide +kernel
theorem at_48_75 : am_at (am_m 48) 75 = some (.goto 30, 105) := by decide +kernel
theorem at_48_78 : am_at (am_m 48) 78 = some (.iload_n 1, 0) := by decide +kernel
theorem at_48_79 : am_at (am_m 48) 79 = some (.iconst 1, 0) := by decide +kernel
theorem at_48_80 : am_at (am_m 48) 80 = some (.if_icmp .ne 20, 100) := by decide +kernel
theorem at_48_83 : am_at (am_m 48) 83 = some (.aload_n 0, 0) := by decide +kernel
theorem at_48_84 : am_at (am_m 48) 84 = some (.getfield 29, 2309) := by decide +kernel
theorem at_48_87 : am_at (am_m 48) 87 = some (.iload_n 3, 0) := by decide +kernel
theorem at_48_88 : am_at (am_m 48) 88 = some (.aload_n 0, 0) := by decide +kernel
theorem at_48_89 : am_at (am_m 48) 89 = some (.getfield 19, 2306) := by decide +kernel
theorem at_48_92 : am_at (am_m 48) 92 = some (.iastore, 0) := by decide +kernel
theorem at_48_93 : am_at (am_m 48) 93 = some (.aload_n 0, 0) := by decide +kernel
theorem at_48_94 : am_at (am_m 48) 94 = some (.invokevirtual 123, 49) := by decide +kernel
theorem at_48_97 : am_at (am_m 48) 97 = some (.goto 8, 105) := by decide +kernel
theorem at_48_100 : am_at (am_m 48) 100 = some (.aload_n 0, 0) := by decide +kernel
theorem at_48_101 : am_at (am_m 48) 101 = some (.iload_n 3, 0) := by decide +kernel
theorem at_48_102 : am_at (am_m 48) 102 = some (.invokevirtual 126, 50) := by decide +kernel
theorem at_48_105 : am_at (am_m 48) 105 = some (.iinc 3 1, 0) := by decide +kernel
theorem at_48_108 : am_at (am_m 48) 108 = some (.goto (-93), 15) := by decide +kernel
theorem at_48_111 : am_at (am_m 48) 111 = some (.return_, 0) := by decide +kernel
theorem at_49_0 : am_at (am_m 49) 0 = some (.aload_n 0, 0) := by decide +kernel
theorem at_49_1 : am_at (am_m 49) 1 = some (.invokevirtual 76, 36) := by decide +kernel
theorem at_49_4 : am_at (am_m 49) 4 = some (.istore_n 1, 0) := by decide +kernel
theorem at_49_5 : am_at (am_m 49) 5 = some (.iload_n 1, 0) := by decide +kernel
theorem at_49_6 : am_at (am_m 49) 6 = some (.bipush 45, 0) := by decide +kernel
theorem at_49_8 : am_at (am_m 49) 8 = some (.if_icmp .ne 37, 45) := by decide +kernel
theorem at_49_11 : am_at (am_m 49) 11 = some (.aload_n 0, 0) := by decide +kernel
theorem at_49_12 : am_at (am_m 49) 12 = some (.getfield 19, 2306) := by decide +kernel
theorem at_49_15 : am_at (am_m 49) 15 = some (.iconst 1, 0) := by decide +kernel
theorem at_49_16 : am_at (am_m 49) 16 = some (.iadd, 0) := by decide +kernel
theorem at_49_17 : am_at (am_m 49) 17 = some (.aload_n 0, 0) := by decide +kernel
theorem at_49_18 : am_at (am_m 49) 18 = some (.getfield 15, 2305) := by decide +kernel
theorem at_49_21 : am_at (am_m 49) 21 = some (.if_icmp .ge 24, 45) := by decide +kernel
theorem at_49_24 : am_at (am_m 49) 24 = some (.aload_n 0, 0) := by decide +kernel
theorem at_49_25 : am_at (am_m 49) 25 = some (.getfield 9, 2304) := by decide +kernel
theorem at_49_28 : am_at (am_m 49) 28 = some (.aload_n 0, 0) := by decide +kernel
theorem at_49_29 : am_at (am_m 49) 29 = some (.getfield 19, 2306) := by decide +kernel
theorem at_49_32 : am_at (am_m 49) 32 = some (.iconst 1, 0) := by decide +kernel
theorem at_49_33 : am_at (am_m 49) 33 = some (.iadd, 0) := by decide +kernel
theorem at_49_34 : am_at (am_m 49) 34 = some (.caload, 0) := by decide +kernel
theorem at_49_35 : am_at (am_m 49) 35 = some (.invokestatic 80, 45) := by decide +kernel
theorem at_49_38 : am_at (am_m 49) 38 = some (.ifCond .eq 7, 45) := by decide +kernel
theorem at_49_41 : am_at (am_m 49) 41 = some (.iconst 1, 0) := by decide +kernel
theorem at_49_42 : am_at (am_m 49) 42 = some (.goto 4, 46) := by decide +kernel
theorem at_49_45 : am_at (am_m 49) 45 = some (.iconst 0, 0) := by decide +kernel
theorem at_49_46 : am_at (am_m 49) 46 = some (.istore_n 2, 0) := by decide +kernel
theorem at_49_47 : am_at (am_m 49) 47 = some (.ldc 129, 7) := by decide +kernel
theorem at_49_49 : am_at (am_m 49) 49 = some (.iload_n 1, 0) := by decide +kernel
theorem at_49_50 : am_at (am_m 49) 50 = some (.invokevirtual 89, 10001) := by decide +kernel
theorem at_49_53 : am_at (am_m 49) 53 = some (.istore_n 3, 0) := by decide +kernel
theorem at_49_54 : am_at (am_m 49) 54 = some (.iload_n 2, 0) := by decide +kernel
theorem at_49_55 : am_at (am_m 49) 55 = some (.ifCond .ne 10, 65) := by decide +kernel
theorem at_49_58 : am_at (am_m 49) 58 = some (.iload_n 1, 0) := by decide +kernel
theorem at_49_59 : am_at (am_m 49) 59 = some (.invokestatic 80, 45) := by decide +kernel
theorem at_49_62 : am_at (am_m 49) 62 = some (.ifCond .eq 19, 81) := by decide +kernel
theorem at_49_65 : am_at (am_m 49) 65 = some (.aload_n 0, 0) := by decide +kernel
theorem at_49_66 : am_at (am_m 49) 66 = some (.getfield 25, 2308) := by decide +kernel
theorem at_49_69 : am_at (am_m 49) 69 = some (.iconst 0, 0) := by decide +kernel
theorem at_49_70 : am_at (am_m 49) 70 = some (.aload_n 0, 0) := by decide +kernel
theorem at_49_71 : am_at (am_m 49) 71 = some (.invokevirtual 105, 43) := by decide +kernel
theorem at_49_74 : am_at (am_m 49) 74 = some (.invokevirtual 101, 41) := by decide +kernel
theorem at_49_77 : am_at (am_m 49) 77 = some (.pop, 0) := by decide +kernel
theorem at_49_78 : am_at (am_m 49) 78 = some (.goto 86, 164) := by decide +kernel
theorem at_49_81 : am_at (am_m 49) 81 = some (.iload_n 3, 0) := by decide +kernel
theorem at_49_82 : am_at (am_m 49) 82 = some (.ifCond .lt 28, 110) := by decide +kernel
theorem at_49_85 : am_at (am_m 49) 85 = some (.aload_n 0, 0) := by decide +kernel
theorem at_49_86 : am_at (am_m 49) 86 = some (.dup, 0) := by decide +kernel
theorem at_49_87 : am_at (am_m 49) 87 = some (.getfield 19, 2306) := by decide +kernel
theorem at_49_90 : am_at (am_m 49) 90 = some (.iconst 1, 0) := by decide +kernel
theorem at_49_91 : am_at (am_m 49) 91 = some (.iadd, 0) := by decide +kernel
theorem at_49_92 : am_at (am_m 49) 92 = some (.putfield 19, 2306) := by decide +kernel
theorem at_49_95 : am_at (am_m 49) 95 = some (.aload_n 0, 0) := by decide +kernel
theorem at_49_96 : am_at (am_m 49) 96 = some (.getfield 25, 2308) := by decide +kernel
theorem at_49_99 : am_at (am_m 49) 99 = some (.iload_n 3, 0) := by decide +kernel
theorem at_49_100 : am_at (am_m 49) 100 = some (.iconst 1, 0) := by decide +kernel
theorem at_49_101 : am_at (am_m 49) 101 = some (.iadd, 0) := by decide +kernel
theorem at_49_102 : am_at (am_m 49) 102 = some (.iconst 0, 0) := by decide +kernel
theorem at_49_103 : am_at (am_m 49) 103 = some (.invokevirtual 101, 41) := by decide +kernel
theorem at_49_106 : am_at (am_m 49) 106 = some (.pop, 0) := by decide +kernel
theorem at_49_107 : am_at (am_m 49) 107 = some (.goto 57, 164) := by decide +kernel
theorem at_49_110 : am_at (am_m 49) 110 = some (.iload_n 1, 0) := by decide +kernel
theorem at_49_111 : am_at (am_m 49) 111 = some (.bipush 106, 0) := by decide +kernel
theorem at_49_113 : am_at (am_m 49) 113 = some (.if_icmp .eq 9, 122) := by decide +kernel
theorem at_49_116 : am_at (am_m 49) 116 = some (.iload_n 1, 0) := by decide +kernel
theorem at_49_117 : am_at (am_m 49) 117 = some (.bipush 98, 0) := by decide +kernel
theorem at_49_119 : am_at (am_m 49) 119 = some (.if_icmp .ne 41, 160) := by decide +kernel
theorem at_49_122 : am_at (am_m 49) 122 = some (.aload_n 0, 0) := by decide +kernel
theorem at_49_123 : am_at (am_m 49) 123 = some (.dup, 0) := by decide +kernel
theorem at_49_124 : am_at (am_m 49) 124 = some (.getfield 19, 2306) := by decide +kernel
theorem at_49_127 : am_at (am_m 49) 127 = some (.iconst 1, 0) := by decide +kernel
theorem at_49_128 : am_at (am_m 49) 128 = some (.iadd, 0) := by decide +kernel
theorem at_49_129 : am_at (am_m 49) 129 = some (.putfield 19, 2306) := by decide +kernel
theorem at_49_132 : am_at (am_m 49) 132 = some (.aload_n 0, 0) := by decide +kernel
theorem at_49_133 : am_at (am_m 49) 133 = some (.getfield 25, 2308) := by decide +kernel
theorem at_49_136 : am_at (am_m 49) 136 = some (.iload_n 1, 0) := by decide +kernel
theorem at_49_137 : am_at (am_m 49) 137 = some (.bipush 106, 0) := by decide +kernel
theorem at_49_139 : am_at (am_m 49) 139 = some (.if_icmp .ne 8, 147) := by decide +kernel
theorem at_49_142 : am_at (am_m 49) 142 = some (.bipush 17, 0) := by decide +kernel
theorem at_49_144 : am_at (am_m 49) 144 = some (.goto 5, 149) := by decide +kernel
theorem at_49_147 : am_at (am_m 49) 147 = some (.bipush 18, 0) := by decide +kernel
theorem at_49_149 : am_at (am_m 49) 149 = some (.aload_n 0, 0) := by decide +kernel
theorem at_49_150 : am_at (am_m 49) 150 = some (.invokevirtual 84, 44) := by decide +kernel
theorem at_49_153 : am_at (am_m 49) 153 = some (.invokevirtual 101, 41) := by decide +kernel
theorem at_49_156 : am_at (am_m 49) 156 = some (.pop, 0) := by decide +kernel
theorem at_49_157 : am_at (am_m 49) 157 = some (.goto 7, 164) := by decide +kernel
theorem at_49_160 : am_at (am_m 49) 160 = some (.aload_n 0, 0) := by decide +kernel
theorem at_49_161 : am_at (am_m 49) 161 = some (.invokevirtual 65, 39) := by decide +kernel
theorem at_49_164 : am_at (am_m 49) 164 = some (.return_, 0) := by decide +kernel
theorem at_50_0 : am_at (am_m 50) 0 = some (.aload_n 0, 0) := by decide +kernel
theorem at_50_1 : am_at (am_m 50) 1 = some (.getfield 25, 2308) := by decide +kernel
theorem at_50_4 : am_at (am_m 50) 4 = some (.aload_n 0, 0) := by decide +kernel
theorem at_50_5 : am_at (am_m 50) 5 = some (.invokevirtual 105, 43) := by decide +kernel
theorem at_50_8 : am_at (am_m 50) 8 = some (.iconst 0, 0) := by decide +kernel
theorem at_50_9 : am_at (am_m 50) 9 = some (.invokevirtual 101, 41) := by decide +kernel
theorem at_50_12 : am_at (am_m 50) 12 = some (.pop, 0) := by decide +kernel
theorem at_50_13 : am_at (am_m 50) 13 = some (.aload_n 0, 0) := by decide +kernel
theorem at_50_14 : am_at (am_m 50) 14 = some (.bipush 58, 0) := by decide +kernel
theorem at_50_16 : am_at (am_m 50) 16 = some (.invokevirtual 117, 42) := by decide +kernel
theorem at_50_19 : am_at (am_m 50) 19 = some (.pop, 0) := by decide +kernel
theorem at_50_20 : am_at (am_m 50) 20 = some (.iconst 0, 0) := by decide +kernel
theorem at_50_21 : am_at (am_m 50) 21 = some (.istore_n 2, 0) := by decide +kernel
theorem at_50_22 : am_at (am_m 50) 22 = some (.iload_n 2, 0) := by decide +kernel
theorem at_50_23 : am_at (am_m 50) 23 = some (.iconst 4, 0) := by decide +kernel
theorem at_50_24 : am_at (am_m 50) 24 = some (.if_icmp .ge 41, 65) := by decide +kernel
theorem at_50_27 : am_at (am_m 50) 27 = some (.aload_n 0, 0) := by decide +kernel
theorem at_50_28 : am_at (am_m 50) 28 = some (.getfield 29, 2309) := by decide +kernel
theorem at_50_31 : am_at (am_m 50) 31 = some (.iconst 4, 0) := by decide +kernel
theorem at_50_32 : am_at (am_m 50) 32 = some (.iload_n 1, 0) := by decide +kernel
theorem at_50_33 : am_at (am_m 50) 33 = some (.imul, 0) := by decide +kernel
theorem at_50_34 : am_at (am_m 50) 34 = some (.iload_n 2, 0) := by decide +kernel
theorem at_50_35 : am_at (am_m 50) 35 = some (.iadd, 0) := by decide +kernel
theorem at_50_36 : am_at (am_m 50) 36 = some (.aload_n 0, 0) := by decide +kernel
theorem at_50_37 : am_at (am_m 50) 37 = some (.getfield 19, 2306) := by decide +kernel
theorem at_50_40 : am_at (am_m 50) 40 = some (.iastore, 0) := by decide +kernel
theorem at_50_41 : am_at (am_m 50) 41 = some (.aload_n 0, 0) := by decide +kernel
theorem at_50_42 : am_at (am_m 50) 42 = some (.getfield 25, 2308) := by decide +kernel
theorem at_50_45 : am_at (am_m 50) 45 = some (.iload_n 1, 0) := by decide +kernel
theorem at_50_46 : am_at (am_m 50) 46 = some (.iconst 1, 0) := by decide +kernel
theorem at_50_47 : am_at (am_m 50) 47 = some (.iload_n 2, 0) := by decide +kernel
theorem at_50_48 : am_at (am_m 50) 48 = some (.iadd, 0) := by decide +kernel
theorem at_50_49 : am_at (am_m 50) 49 = some (.aload_n 0, 0) := by decide +kernel
theorem at_50_50 : am_at (am_m 50) 50 = some (.iconst 0, 0) := by decide +kernel
theorem at_50_51 : am_at (am_m 50) 51 = some (.bipush 9, 0) := by decide +kernel
theorem at_50_53 : am_at (am_m 50) 53 = some (.invokevirtual 131, 47) := by decide +kernel
theorem at_50_56 : am_at (am_m 50) 56 = some (.invokevirtual 135, 51) := by decide +kernel
theorem at_50_59 : am_at (am_m 50) 59 = some (.iinc 2 1, 0) := by decide +kernel
theorem at_50_62 : am_at (am_m 50) 62 = some (.goto (-40), 22) := by decide +kernel
theorem at_50_65 : am_at (am_m 50) 65 = some (.return_, 0) := by decide +kernel
theorem at_51_0 : am_at (am_m 51) 0 = some (.iload_n 1, 0) := by decide +kernel
theorem at_51_1 : am_at (am_m 51) 1 = some (.ifCond .lt 37, 38) := by decide +kernel
theorem at_51_4 : am_at (am_m 51) 4 = some (.iload_n 1, 0) := by decide +kernel
theorem at_51_5 : am_at (am_m 51) 5 = some (.aload_n 0, 0) := by decide +kernel
theorem at_51_6 : am_at (am_m 51) 6 = some (.getfield 18, 771) := by decide +kernel
theorem at_51_9 : am_at (am_m 51) 9 = some (.if_icmp .ge 29, 38) := by decide +kernel
theorem at_51_12 : am_at (am_m 51) 12 = some (.iload_n 2, 0) := by decide +kernel
theorem at_51_13 : am_at (am_m 51) 13 = some (.ifCond .lt 25, 38) := by decide +kernel
theorem at_51_16 : am_at (am_m 51) 16 = some (.iload_n 2, 0) := by decide +kernel
theorem at_51_17 : am_at (am_m 51) 17 = some (.aload_n 0, 0) := by decide +kernel
theorem at_51_18 : am_at (am_m 51) 18 = some (.getfield 21, 772) := by decide +kernel
theorem at_51_21 : am_at (am_m 51) 21 = some (.if_icmp .ge 17, 38) := by decide +kernel
theorem at_51_24 : am_at (am_m 51) 24 = some (.aload_n 0, 0) := by decide +kernel
theorem at_51_25 : am_at (am_m 51) 25 = some (.getfield 43, 768) := by decide +kernel
theorem at_51_28 : am_at (am_m 51) 28 = some (.iload_n 1, 0) := by decide +kernel
theorem at_51_29 : am_at (am_m 51) 29 = some (.aload_n 0, 0) := by decide +kernel
theorem at_51_30 : am_at (am_m 51) 30 = some (.getfield 21, 772) := by decide +kernel
theorem at_51_33 : am_at (am_m 51) 33 = some (.imul, 0) := by decide +kernel
theorem at_51_34 : am_at (am_m 51) 34 = some (.iload_n 2, 0) := by decide +kernel
theorem at_51_35 : am_at (am_m 51) 35 = some (.iadd, 0) := by decide +kernel
theorem at_51_36 : am_at (am_m 51) 36 = some (.iload_n 3, 0) := by decide +kernel
theorem at_51_37 : am_at (am_m 51) 37 = some (.iastore, 0) := by decide +kernel
theorem at_51_38 : am_at (am_m 51) 38 = some (.return_, 0) := by decide +kernel
theorem at_52_0 : am_at (am_m 52) 0 = some (.aload_n 0, 0) := by decide +kernel
theorem at_52_1 : am_at (am_m 52) 1 = some (.aload_n 1, 0) := by decide +kernel
theorem at_52_2 : am_at (am_m 52) 2 = some (.getfield 42, 771) := by decide +kernel
theorem at_52_5 : am_at (am_m 52) 5 = some (.putfield 34, 1799) := by decide +kernel
theorem at_52_8 : am_at (am_m 52) 8 = some (.aload_n 0, 0) := by decide +kernel
theorem at_52_9 : am_at (am_m 52) 9 = some (.getfield 34, 1799) := by decide +kernel
theorem at_52_12 : am_at (am_m 52) 12 = some (.iconst 1, 0) := by decide +kernel
theorem at_52_13 : am_at (am_m 52) 13 = some (.if_icmp .lt 12, 25) := by decide +kernel
theorem at_52_16 : am_at (am_m 52) 16 = some (.aload_n 0, 0) := by decide +kernel
theorem at_52_17 : am_at (am_m 52) 17 = some (.getfield 34, 1799) := by decide +kernel
theorem at_52_20 : am_at (am_m 52) 20 = some (.bipush 60, 0) := by decide +kernel
theorem at_52_22 : am_at (am_m 52) 22 = some (.if_icmp .le 5, 27) := by decide +kernel
theorem at_52_25 : am_at (am_m 52) 25 = some (.iconst 0, 0) := by decide +kernel
theorem at_52_26 : am_at (am_m 52) 26 = some (.ireturn, 0) := by decide +kernel
theorem at_52_27 : am_at (am_m 52) 27 = some (.aload_n 0, 0) := by decide +kernel
theorem at_52_28 : am_at (am_m 52) 28 = some (.getfield 31, 1798) := by decide +kernel
theorem at_52_31 : am_at (am_m 52) 31 = some (.iconst (-1), 0) := by decide +kernel
theorem at_52_32 : am_at (am_m 52) 32 = some (.invokestatic 71, 53) := by decide +kernel
theorem at_52_35 : am_at (am_m 52) 35 = some (.aload_n 0, 0) := by decide +kernel
theorem at_52_36 : am_at (am_m 52) 36 = some (.getfield 31, 1798) := by decide +kernel
theorem at_52_39 : am_at (am_m 52) 39 = some (.iconst 0, 0) := by decide +kernel
theorem at_52_40 : am_at (am_m 52) 40 = some (.iconst 0, 0) := by decide +kernel
theorem at_52_41 : am_at (am_m 52) 41 = some (.iastore, 0) := by decide +kernel
theorem at_52_42 : am_at (am_m 52) 42 = some (.iconst 0, 0) := by decide +kernel
theorem at_52_43 : am_at (am_m 52) 43 = some (.istore_n 2, 0) := by decide +kernel
theorem at_52_44 : am_at (am_m 52) 44 = some (.iload_n 2, 0) := by decide +kernel
theorem at_52_45 : am_at (am_m 52) 45 = some (.aload_n 0, 0) := by decide +kernel
theorem at_52_46 : am_at (am_m 52) 46 = some (.getfield 34, 1799) := by decide +kernel
theorem at_52_49 : am_at (am_m 52) 49 = some (.if_icmp .ge 94, 143) := by decide +kernel
theorem at_52_52 : am_at (am_m 52) 52 = some (.aload_n 1, 0) := by decide +kernel
theorem at_52_53 : am_at (am_m 52) 53 = some (.iload_n 2, 0) := by decide +kernel
theorem at_52_54 : am_at (am_m 52) 54 = some (.iconst 0, 0) := by decide +kernel
theorem at_52_55 : am_at (am_m 52) 55 = some (.invokevirtual 51, 54) := by decide +kernel
theorem at_52_58 : am_at (am_m 52) 58 = some (.istore_n 3, 0) := by decide +kernel
theorem at_52_59 : am_at (am_m 52) 59 = some (.aload_n 0, 0) := by decide +kernel
theorem at_52_60 : am_at (am_m 52) 60 = some (.getfield 31, 1798) := by decide +kernel
theorem at_52_63 : am_at (am_m 52) 63 = some (.iload_n 2, 0) := by decide +kernel
theorem at_52_64 : am_at (am_m 52) 64 = some (.iaload, 0) := by decide +kernel
theorem at_52_65 : am_at (am_m 52) 65 = some (.iload_n 3, 0) := by decide +kernel
theorem at_52_66 : am_at (am_m 52) 66 = some (.invokestatic 77, 55) := by decide +kernel
theorem at_52_69 : am_at (am_m 52) 69 = some (.iadd, 0) := by decide +kernel
theorem at_52_70 : am_at (am_m 52) 70 = some (.istore 4, 0) := by decide +kernel
theorem at_52_72 : am_at (am_m 52) 72 = some (.aload_n 0, 0) := by decide +kernel
theorem at_52_73 : am_at (am_m 52) 73 = some (.getfield 31, 1798) := by decide +kernel
theorem at_52_76 : am_at (am_m 52) 76 = some (.iload_n 2, 0) := by decide +kernel
theorem at_52_77 : am_at (am_m 52) 77 = some (.iaload, 0) := by decide +kernel
theorem at_52_78 : am_at (am_m 52) 78 = some (.iload_n 3, 0) := by decide +kernel
theorem at_52_79 : am_at (am_m 52) 79 = some (.invokestatic 80, 56) := by decide +kernel
theorem at_52_82 : am_at (am_m 52) 82 = some (.if_icmp .lt 53, 135) := by decide +kernel
theorem at_52_85 : am_at (am_m 52) 85 = some (.iload 4, 0) := by decide +kernel
theorem at_52_87 : am_at (am_m 52) 87 = some (.bipush 8, 0) := by decide +kernel
theorem at_52_89 : am_at (am_m 52) 89 = some (.if_icmp .gt 46, 135) := by decide +kernel
theorem at_52_92 : am_at (am_m 52) 92 = some (.iload_n 3, 0) := by decide +kernel
theorem at_52_93 : am_at (am_m 52) 93 = some (.bipush 17, 0) := by decide +kernel
theorem at_52_95 : am_at (am_m 52) 95 = some (.if_icmp .eq 15, 110) := by decide +kernel
theorem at_52_98 : am_at (am_m 52) 98 = some (.aload_n 0, 0) := by decide +kernel
theorem at_52_99 : am_at (am_m 52) 99 = some (.iload_n 2, 0) := by decide +kernel
theorem at_52_100 : am_at (am_m 52) 100 = some (.iconst 1, 0) := by decide +kernel
theorem at_52_101 : am_at (am_m 52) 101 = some (.iadd, 0) := by decide +kernel
theorem at_52_102 : am_at (am_m 52) 102 = some (.iload 4, 0) := by decide +kernel
theorem at_52_104 : am_at (am_m 52) 104 = some (.invokevirtual 83, 57) := by decide +kernel
theorem at_52_107 : am_at (am_m 52) 107 = some (.ifCond .eq 28, 135) := by decide +kernel
theorem at_52_110 : am_at (am_m 52) 110 = some (.iload_n 3, 0) := by decide +kernel
theorem at_52_111 : am_at (am_m 52) 111 = some (.bipush 17, 0) := by decide +kernel
theorem at_52_113 : am_at (am_m 52) 113 = some (.if_icmp .lt 24, 137) := by decide +kernel
theorem at_52_116 : am_at (am_m 52) 116 = some (.aload_n 0, 0) := by decide +kernel
theorem at_52_117 : am_at (am_m 52) 117 = some (.iload_n 2, 0) := by decide +kernel
theorem at_52_118 : am_at (am_m 52) 118 = some (.iconst 1, 0) := by decide +kernel
theorem at_52_119 : am_at (am_m 52) 119 = some (.iadd, 0) := by decide +kernel
theorem at_52_120 : am_at (am_m 52) 120 = some (.aload_n 1, 0) := by decide +kernel
theorem at_52_121 : am_at (am_m 52) 121 = some (.iload_n 2, 0) := by decide +kernel
theorem at_52_122 : am_at (am_m 52) 122 = some (.iconst 1, 0) := by decide +kernel
theorem at_52_123 : am_at (am_m 52) 123 = some (.invokevirtual 51, 54) := by decide +kernel
theorem at_52_126 : am_at (am_m 52) 126 = some (.iadd, 0) := by decide +kernel
theorem at_52_127 : am_at (am_m 52) 127 = some (.iload 4, 0) := by decide +kernel
theorem at_52_129 : am_at (am_m 52) 129 = some (.invokevirtual 83, 57) := by decide +kernel
theorem at_52_132 : am_at (am_m 52) 132 = some (.ifCond .ne 5, 137) := by decide +kernel
theorem at_52_135 : am_at (am_m 52) 135 = some (.iload_n 2, 0) := by decide +kernel
theorem at_52_136 : am_at (am_m 52) 136 = some (.ireturn, 0) := by decide +kernel
theorem at_52_137 : am_at (am_m 52) 137 = some (.iinc 2 1, 0) := by decide +kernel
theorem at_52_140 : am_at (am_m 52) 140 = some (.goto (-96), 44) := by decide +kernel
theorem at_52_143 : am_at (am_m 52) 143 = some (.iconst (-1), 0) := by decide +kernel
theorem at_52_144 : am_at (am_m 52) 144 = some (.ireturn, 0) := by decide +kernel
theorem at_53_0 : am_at (am_m 53) 0 = some (.iconst 0, 0) := by decide +kernel
theorem at_53_1 : am_at (am_m 53) 1 = some (.istore_n 2, 0) := by decide +kernel
theorem at_53_2 : am_at (am_m 53) 2 = some (.aload_n 0, 0) := by decide +kernel
theorem at_53_3 : am_at (am_m 53) 3 = some (.arraylength, 0) := by decide +kernel
theorem at_53_4 : am_at (am_m 53) 4 = some (.istore_n 3, 0) := by decide +kernel
theorem at_53_5 : am_at (am_m 53) 5 = some (.iload_n 2, 0) := by decide +kernel
theorem at_53_6 : am_at (am_m 53) 6 = some (.iload_n 3, 0) := by decide +kernel
theorem at_53_7 : am_at (am_m 53) 7 = some (.if_icmp .ge 13, 20) := by decide +kernel
theorem at_53_10 : am_at (am_m 53) 10 = some (.aload_n 0, 0) := by decide +kernel
theorem at_53_11 : am_at (am_m 53) 11 = some (.iload_n 2, 0) := by decide +kernel
theorem at_53_12 : am_at (am_m 53) 12 = some (.iload_n 1, 0) := by decide +kernel
theorem at_53_13 : am_at (am_m 53) 13 = some (.iastore, 0) := by decide +kernel
theorem at_53_14 : am_at (am_m 53) 14 = some (.iinc 2 1, 0) := by decide +kernel
theorem at_53_17 : am_at (am_m 53) 17 = some (.goto (-12), 5) := by decide +kernel
theorem at_53_20 : am_at (am_m 53) 20 = some (.return_, 0) := by decide +kernel
theorem at_54_0 : am_at (am_m 54) 0 = some (.iload_n 1, 0) := by decide +kernel
theorem at_54_1 : am_at (am_m 54) 1 = some (.ifCond .lt 39, 40) := by decide +kernel
theorem at_54_4 : am_at (am_m 54) 4 = some (.iload_n 1, 0) := by decide +kernel
theorem at_54_5 : am_at (am_m 54) 5 = some (.aload_n 0, 0) := by decide +kernel
theorem at_54_6 : am_at (am_m 54) 6 = some (.getfield 18, 771) := by decide +kernel
theorem at_54_9 : am_at (am_m 54) 9 = some (.if_icmp .ge 31, 40) := by decide +kernel
theorem at_54_12 : am_at (am_m 54) 12 = some (.iload_n 2, 0) := by decide +kernel
theorem at_54_13 : am_at (am_m 54) 13 = some (.ifCond .lt 27, 40) := by decide +kernel
theorem at_54_16 : am_at (am_m 54) 16 = some (.iload_n 2, 0) := by decide +kernel
theorem at_54_17 : am_at (am_m 54) 17 = some (.aload_n 0, 0) := by decide +kernel
theorem at_54_18 : am_at (am_m 54) 18 = some (.getfield 21, 772) := by decide +kernel
theorem at_54_21 : am_at (am_m 54) 21 = some (.if_icmp .ge 19, 40) := by decide +kernel
theorem at_54_24 : am_at (am_m 54) 24 = some (.aload_n 0, 0) := by decide +kernel
theorem at_54_25 : am_at (am_m 54) 25 = some (.getfield 43, 768) := by decide +kernel
theorem at_54_28 : am_at (am_m 54) 28 = some (.iload_n 1, 0) := by decide +kernel
theorem at_54_29 : am_at (am_m 54) 29 = some (.aload_n 0, 0) := by decide +kernel
theorem at_54_30 : am_at (am_m 54) 30 = some (.getfield 21, 772) := by decide +kernel
theorem at_54_33 : am_at (am_m 54) 33 = some (.imul, 0) := by decide +kernel
theorem at_54_34 : am_at (am_m 54) 34 = some (.iload_n 2, 0) := by decide +kernel
theorem at_54_35 : am_at (am_m 54) 35 = some (.iadd, 0) := by decide +kernel
theorem at_54_36 : am_at (am_m 54) 36 = some (.iaload, 0) := by decide +kernel
theorem at_54_37 : am_at (am_m 54) 37 = some (.goto 4, 41) := by decide +kernel
theorem at_54_40 : am_at (am_m 54) 40 = some (.iconst 0, 0) := by decide +kernel
theorem at_54_41 : am_at (am_m 54) 41 = some (.ireturn, 0) := by decide +kernel
theorem at_55_0 : am_at (am_m 55) 0 = some (.iload_n 0, 0) := by decide +kernel
theorem at_55_1 : am_at (am_m 55) 1 = some (.iconst 4, 0) := by decide +kernel
theorem at_55_2 : am_at (am_m 55) 2 = some (.if_icmp .le 9, 11) := by decide +kernel
theorem at_55_5 : am_at (am_m 55) 5 = some (.iload_n 0, 0) := by decide +kernel
theorem at_55_6 : am_at (am_m 55) 6 = some (.bipush 14, 0) := by decide +kernel
theorem at_55_8 : am_at (am_m 55) 8 = some (.if_icmp .ne 5, 13) := by decide +kernel
theorem at_55_11 : am_at (am_m 55) 11 = some (.iconst 1, 0) := by decide +kernel
theorem at_55_12 : am_at (am_m 55) 12 = some (.ireturn, 0) := by decide +kernel
theorem at_55_13 : am_at (am_m 55) 13 = some (.iload_n 0, 0) := by decide +kernel
theorem at_55_14 : am_at (am_m 55) 14 = some (.bipush 7, 0) := by decide +kernel
theorem at_55_16 : am_at (am_m 55) 16 = some (.if_icmp .lt 9, 25) := by decide +kernel
theorem at_55_19 : am_at (am_m 55) 19 = some (.iload_n 0, 0) := by decide +kernel
theorem at_55_20 : am_at (am_m 55) 20 = some (.bipush 13, 0) := by decide +kernel
theorem at_55_22 : am_at (am_m 55) 22 = some (.if_icmp .le 15, 37) := by decide +kernel
theorem at_55_25 : am_at (am_m 55) 25 = some (.iload_n 0, 0) := by decide +kernel
theorem at_55_26 : am_at (am_m 55) 26 = some (.bipush 16, 0) := by decide +kernel
theorem at_55_28 : am_at (am_m 55) 28 = some (.if_icmp .eq 9, 37) := by decide +kernel
theorem at_55_31 : am_at (am_m 55) 31 = some (.iload_n 0, 0) := by decide +kernel
theorem at_55_32 : am_at (am_m 55) 32 = some (.bipush 18, 0) := by decide +kernel
theorem at_55_34 : am_at (am_m 55) 34 = some (.if_icmp .ne 7, 41) := by decide +kernel
theorem at_55_37 : am_at (am_m 55) 37 = some (.iconst (-1), 0) := by decide +kernel
theorem at_55_38 : am_at (am_m 55) 38 = some (.goto 4, 42) := by decide +kernel
theorem at_55_41 : am_at (am_m 55) 41 = some (.iconst 0, 0) := by decide +kernel
theorem at_55_42 : am_at (am_m 55) 42 = some (.ireturn, 0) := by decide +kernel
theorem at_56_0 : am_at (am_m 56) 0 = some (.iload_n 0, 0) := by decide +kernel
theorem at_56_1 : am_at (am_m 56) 1 = some (.iconst 4, 0) := by decide +kernel
theorem at_56_2 : am_at (am_m 56) 2 = some (.if_icmp .le 9, 11) := by decide +kernel
theorem at_56_5 : am_at (am_m 56) 5 = some (.iload_n 0, 0) := by decide +kernel
theorem at_56_6 : am_at (am_m 56) 6 = some (.bipush 17, 0) := by decide +kernel
theorem at_56_8 : am_at (am_m 56) 8 = some (.if_icmp .ne 5, 13) := by decide +kernel
theorem at_56_11 : am_at (am_m 56) 11 = some (.iconst 0, 0) := by decide +kernel
theorem at_56_12 : am_at (am_m 56) 12 = some (.ireturn, 0) := by decide +kernel
theorem at_56_13 : am_at (am_m 56) 13 = some (.iload_n 0, 0) := by decide +kernel
theorem at_56_14 : am_at (am_m 56) 14 = some (.bipush 7, 0) := by decide +kernel
theorem at_56_16 : am_at (am_m 56) 16 = some (.if_icmp .lt 9, 25) := by decide +kernel
theorem at_56_19 : am_at (am_m 56) 19 = some (.iload_n 0, 0) := by decide +kernel
theorem at_56_20 : am_at (am_m 56) 20 = some (.bipush 13, 0) := by decide +kernel
theorem at_56_22 : am_at (am_m 56) 22 = some (.if_icmp .le 9, 31) := by decide +kernel
theorem at_56_25 : am_at (am_m 56) 25 = some (.iload_n 0, 0) := by decide +kernel
theorem at_56_26 : am_at (am_m 56) 26 = some (.bipush 15, 0) := by decide +kernel
theorem at_56_28 : am_at (am_m 56) 28 = some (.if_icmp .ne 7, 35) := by decide +kernel
theorem at_56_31 : am_at (am_m 56) 31 = some (.iconst 2, 0) := by decide +kernel
theorem at_56_32 : am_at (am_m 56) 32 = some (.goto 4, 36) := by decide +kernel
theorem at_56_35 : am_at (am_m 56) 35 = some (.iconst 1, 0) := by decide +kernel
theorem at_56_36 : am_at (am_m 56) 36 = some (.ireturn, 0) := by decide +kernel
theorem at_57_0 : am_at (am_m 57) 0 = some (.iload_n 1, 0) := by decide +kernel
theorem at_57_1 : am_at (am_m 57) 1 = some (.ifCond .lt 43, 44) := by decide +kernel
theorem at_57_4 : am_at (am_m 57) 4 = some (.iload_n 1, 0) := by decide +kernel
theorem at_57_5 : am_at (am_m 57) 5 = some (.aload_n 0, 0) := by decide +kernel
theorem at_57_6 : am_at (am_m 57) 6 = some (.getfield 34, 1799) := by decide +kernel
theorem at_57_9 : am_at (am_m 57) 9 = some (.if_icmp .gt 35, 44) := by decide +kernel
theorem at_57_12 : am_at (am_m 57) 12 = some (.iload_n 1, 0) := by decide +kernel
theorem at_57_13 : am_at (am_m 57) 13 = some (.aload_n 0, 0) := by decide +kernel
theorem at_57_14 : am_at (am_m 57) 14 = some (.getfield 34, 1799) := by decide +kernel
theorem at_57_17 : am_at (am_m 57) 17 = some (.if_icmp .ne 8, 25) := by decide +kernel
theorem at_57_20 : am_at (am_m 57) 20 = some (.iload_n 2, 0) := by decide +kernel
theorem at_57_21 : am_at (am_m 57) 21 = some (.iconst 1, 0) := by decide +kernel
theorem at_57_22 : am_at (am_m 57) 22 = some (.if_icmp .ne 22, 44) := by decide +kernel
theorem at_57_25 : am_at (am_m 57) 25 = some (.aload_n 0, 0) := by decide +kernel
theorem at_57_26 : am_at (am_m 57) 26 = some (.getfield 31, 1798) := by decide +kernel
theorem at_57_29 : am_at (am_m 57) 29 = some (.iload_n 1, 0) := by decide +kernel
theorem at_57_30 : am_at (am_m 57) 30 = some (.iaload, 0) := by decide +kernel
theorem at_57_31 : am_at (am_m 57) 31 = some (.ifCond .lt 15, 46) := by decide +kernel
theorem at_57_34 : am_at (am_m 57) 34 = some (.aload_n 0, 0) := by decide +kernel
theorem at_57_35 : am_at (am_m 57) 35 = some (.getfield 31, 1798) := by decide +kernel
theorem at_57_38 : am_at (am_m 57) 38 = some (.iload_n 1, 0) := by decide +kernel
theorem at_57_39 : am_at (am_m 57) 39 = some (.iaload, 0) := by decide +kernel
theorem at_57_40 : am_at (am_m 57) 40 = some (.iload_n 2, 0) := by decide +kernel
theorem at_57_41 : am_at (am_m 57) 41 = some (.if_icmp .eq 5, 46) := by decide +kernel
theorem at_57_44 : am_at (am_m 57) 44 = some (.iconst 0, 0) := by decide +kernel
theorem at_57_45 : am_at (am_m 57) 45 = some (.ireturn, 0) := by decide +kernel
theorem at_57_46 : am_at (am_m 57) 46 = some (.aload_n 0, 0) := by decide +kernel
theorem at_57_47 : am_at (am_m 57) 47 = some (.getfield 31, 1798) := by decide +kernel
theorem at_57_50 : am_at (am_m 57) 50 = some (.iload_n 1, 0) := by decide +kernel
theorem at_57_51 : am_at (am_m 57) 51 = some (.iload_n 2, 0) := by decide +kernel
theorem at_57_52 : am_at (am_m 57) 52 = some (.iastore, 0) := by decide +kernel
theorem at_57_53 : am_at (am_m 57) 53 = some (.iconst 1, 0) := by decide +kernel
theorem at_57_54 : am_at (am_m 57) 54 = some (.ireturn, 0) := by decide +kernel
theorem at_58_0 : am_at (am_m 58) 0 = some (.iconst 0, 0) := by decide +kernel
theorem at_58_1 : am_at (am_m 58) 1 = some (.istore_n 1, 0) := by decide +kernel
theorem at_58_2 : am_at (am_m 58) 2 = some (.iload_n 1, 0) := by decide +kernel
theorem at_58_3 : am_at (am_m 58) 3 = some (.iconst 4, 0) := by decide +kernel
theorem at_58_4 : am_at (am_m 58) 4 = some (.aload_n 0, 0) := by decide +kernel
theorem at_58_5 : am_at (am_m 58) 5 = some (.getfield 25, 2308) := by decide +kernel
theorem at_58_8 : am_at (am_m 58) 8 = some (.getfield 95, 771) := by decide +kernel
theorem at_58_11 : am_at (am_m 58) 11 = some (.imul, 0) := by decide +kernel
theorem at_58_12 : am_at (am_m 58) 12 = some (.if_icmp .ge 41, 53) := by decide +kernel
theorem at_58_15 : am_at (am_m 58) 15 = some (.aload_n 0, 0) := by decide +kernel
theorem at_58_16 : am_at (am_m 58) 16 = some (.getfield 25, 2308) := by decide +kernel
theorem at_58_19 : am_at (am_m 58) 19 = some (.iload_n 1, 0) := by decide +kernel
theorem at_58_20 : am_at (am_m 58) 20 = some (.iconst 4, 0) := by decide +kernel
theorem at_58_21 : am_at (am_m 58) 21 = some (.idiv, 0) := by decide +kernel
theorem at_58_22 : am_at (am_m 58) 22 = some (.iconst 1, 0) := by decide +kernel
theorem at_58_23 : am_at (am_m 58) 23 = some (.iload_n 1, 0) := by decide +kernel
theorem at_58_24 : am_at (am_m 58) 24 = some (.iconst 4, 0) := by decide +kernel
theorem at_58_25 : am_at (am_m 58) 25 = some (.irem, 0) := by decide +kernel
theorem at_58_26 : am_at (am_m 58) 26 = some (.iadd, 0) := by decide +kernel
theorem at_58_27 : am_at (am_m 58) 27 = some (.invokevirtual 139, 54) := by decide +kernel
theorem at_58_30 : am_at (am_m 58) 30 = some (.aload_n 0, 0) := by decide +kernel
theorem at_58_31 : am_at (am_m 58) 31 = some (.getfield 25, 2308) := by decide +kernel
theorem at_58_34 : am_at (am_m 58) 34 = some (.getfield 95, 771) := by decide +kernel
theorem at_58_37 : am_at (am_m 58) 37 = some (.if_icmp .lt 10, 47) := by decide +kernel
theorem at_58_40 : am_at (am_m 58) 40 = some (.aload_n 0, 0) := by decide +kernel
theorem at_58_41 : am_at (am_m 58) 41 = some (.getfield 29, 2309) := by decide +kernel
theorem at_58_44 : am_at (am_m 58) 44 = some (.iload_n 1, 0) := by decide +kernel
theorem at_58_45 : am_at (am_m 58) 45 = some (.iaload, 0) := by decide +kernel
theorem at_58_46 : am_at (am_m 58) 46 = some (.ireturn, 0) := by decide +kernel
theorem at_58_47 : am_at (am_m 58) 47 = some (.iinc 1 1, 0) := by decide +kernel
theorem at_58_50 : am_at (am_m 58) 50 = some (.goto (-48), 2) := by decide +kernel
theorem at_58_53 : am_at (am_m 58) 53 = some (.iconst (-1), 0) := by decide +kernel
theorem at_58_54 : am_at (am_m 58) 54 = some (.ireturn, 0) := by decide +kernel
theorem at_59_0 : am_at (am_m 59) 0 = some (.new 9, 3) := by decide +kernel
theorem at_59_3 : am_at (am_m 59) 3 = some (.dup, 0) := by decide +kernel
theorem at_59_4 : am_at (am_m 59) 4 = some (.aload_n 1, 0) := by decide +kernel
theorem at_59_5 : am_at (am_m 59) 5 = some (.getfield 147, 771) := by decide +kernel
theorem at_59_8 : am_at (am_m 59) 8 = some (.aload_n 1, 0) := by decide +kernel
theorem at_59_9 : am_at (am_m 59) 9 = some (.getfield 500, 772) := by decide +kernel
theorem at_59_12 : am_at (am_m 59) 12 = some (.imul, 0) := by decide +kernel
theorem at_59_13 : am_at (am_m 59) 13 = some (.invokespecial 87, 18) := by decide +kernel
theorem at_59_16 : am_at (am_m 59) 16 = some (.astore 9, 0) := by decide +kernel
theorem at_59_18 : am_at (am_m 59) 18 = some (.aload 9, 0) := by decide +kernel
theorem at_59_20 : am_at (am_m 59) 20 = some (.aload_n 1, 0) := by decide +kernel
theorem at_59_21 : am_at (am_m 59) 21 = some (.invokevirtual 415, 60) := by decide +kernel
theorem at_59_24 : am_at (am_m 59) 24 = some (.aload 9, 0) := by decide +kernel
theorem at_59_26 : am_at (am_m 59) 26 = some (.iload_n 2, 0) := by decide +kernel
theorem at_59_27 : am_at (am_m 59) 27 = some (.putfield 150, 773) := by decide +kernel
theorem at_59_30 : am_at (am_m 59) 30 = some (.aload 9, 0) := by decide +kernel
theorem at_59_32 : am_at (am_m 59) 32 = some (.iload_n 3, 0) := by decide +kernel
theorem at_59_33 : am_at (am_m 59) 33 = some (.putfield 153, 774) := by decide +kernel
theorem at_59_36 : am_at (am_m 59) 36 = some (.aload 9, 0) := by decide +kernel
theorem at_59_38 : am_at (am_m 59) 38 = some (.iload 4, 0) := by decide +kernel
theorem at_59_40 : am_at (am_m 59) 40 = some (.putfield 156, 775) := by decide +kernel
theorem at_59_43 : am_at (am_m 59) 43 = some (.aload 9, 0) := by decide +kernel
theorem at_59_45 : am_at (am_m 59) 45 = some (.iload 5, 0) := by decide +kernel
theorem at_59_47 : am_at (am_m 59) 47 = some (.putfield 159, 776) := by decide +kernel
theorem at_59_50 : am_at (am_m 59) 50 = some (.aload 9, 0) := by decide +kernel
theorem at_59_52 : am_at (am_m 59) 52 = some (.iload 6, 0) := by decide +kernel
theorem at_59_54 : am_at (am_m 59) 54 = some (.putfield 162, 777) := by decide +kernel
theorem at_59_57 : am_at (am_m 59) 57 = some (.aload 9, 0) := by decide +kernel
theorem at_59_59 : am_at (am_m 59) 59 = some (.lload 7, 0) := by decide +kernel
theorem at_59_61 : am_at (am_m 59) 61 = some (.putfield 173, 778) := by decide +kernel
theorem at_59_64 : am_at (am_m 59) 64 = some (.aload_n 0, 0) := by decide +kernel
theorem at_59_65 : am_at (am_m 59) 65 = some (.getfield 15, 2817) := by decide +kernel
theorem at_59_68 : am_at (am_m 59) 68 = some (.istore 10, 0) := by decide +kernel
theorem at_59_70 : am_at (am_m 59) 70 = some (.iload 10, 0) := by decide +kernel
theorem at_59_72 : am_at (am_m 59) 72 = some (.aload_n 0, 0) := by decide +kernel
theorem at_59_73 : am_at (am_m 59) 73 = some (.getfield 11, 2816) := by decide +kernel
theorem at_59_76 : am_at (am_m 59) 76 = some (.arraylength, 0) := by decide +kernel
theorem at_59_77 : am_at (am_m 59) 77 = some (.if_icmp .ge 22, 99) := by decide +kernel
theorem at_59_80 : am_at (am_m 59) 80 = some (.aload_n 0, 0) := by decide +kernel
theorem at_59_81 : am_at (am_m 59) 81 = some (.getfield 11, 2816) := by decide +kernel
theorem at_59_84 : am_at (am_m 59) 84 = some (.iload 10, 0) := by decide +kernel
theorem at_59_86 : am_at (am_m 59) 86 = some (.aload 9, 0) := by decide +kernel
theorem at_59_88 : am_at (am_m 59) 88 = some (.aastore, 0) := by decide +kernel
theorem at_59_89 : am_at (am_m 59) 89 = some (.aload_n 0, 0) := by decide +kernel
theorem at_59_90 : am_at (am_m 59) 90 = some (.dup, 0) := by decide +kernel
theorem at_59_91 : am_at (am_m 59) 91 = some (.getfield 15, 2817) := by decide +kernel
theorem at_59_94 : am_at (am_m 59) 94 = some (.iconst 1, 0) := by decide +kernel
theorem at_59_95 : am_at (am_m 59) 95 = some (.iadd, 0) := by decide +kernel
theorem at_59_96 : am_at (am_m 59) 96 = some (.putfield 15, 2817) := by decide +kernel
theorem at_59_99 : am_at (am_m 59) 99 = some (.iload 10, 0) := by decide +kernel
theorem at_59_101 : am_at (am_m 59) 101 = some (.ireturn, 0) := by decide +kernel
theorem at_60_0 : am_at (am_m 60) 0 = some (.aload_n 0, 0) := by decide +kernel
theorem at_60_1 : am_at (am_m 60) 1 = some (.aload_n 1, 0) := by decide +kernel
theorem at_60_2 : am_at (am_m 60) 2 = some (.getfield 9, 769) := by decide +kernel
theorem at_60_5 : am_at (am_m 60) 5 = some (.aload_n 1, 0) := by decide +kernel
theorem at_60_6 : am_at (am_m 60) 6 = some (.getfield 15, 770) := by decide +kernel
theorem at_60_9 : am_at (am_m 60) 9 = some (.invokevirtual 53, 34) := by decide +kernel
theorem at_60_12 : am_at (am_m 60) 12 = some (.aload_n 1, 0) := by decide +kernel
theorem at_60_13 : am_at (am_m 60) 13 = some (.getfield 18, 771) := by decide +kernel
theorem at_60_16 : am_at (am_m 60) 16 = some (.aload_n 0, 0) := by decide +kernel
theorem at_60_17 : am_at (am_m 60) 17 = some (.getfield 21, 772) := by decide +kernel
theorem at_60_20 : am_at (am_m 60) 20 = some (.imul, 0) := by decide +kernel
theorem at_60_21 : am_at (am_m 60) 21 = some (.aload_n 0, 0) := by decide +kernel
theorem at_60_22 : am_at (am_m 60) 22 = some (.getfield 43, 768) := by decide +kernel
theorem at_60_25 : am_at (am_m 60) 25 = some (.arraylength, 0) := by decide +kernel
theorem at_60_26 : am_at (am_m 60) 26 = some (.if_icmp .gt 33, 59) := by decide +kernel
theorem at_60_29 : am_at (am_m 60) 29 = some (.aload_n 0, 0) := by decide +kernel
theorem at_60_30 : am_at (am_m 60) 30 = some (.aload_n 1, 0) := by decide +kernel
theorem at_60_31 : am_at (am_m 60) 31 = some (.getfield 18, 771) := by decide +kernel
theorem at_60_34 : am_at (am_m 60) 34 = some (.putfield 18, 771) := by decide +kernel
theorem at_60_37 : am_at (am_m 60) 37 = some (.aload_n 1, 0) := by decide +kernel
theorem at_60_38 : am_at (am_m 60) 38 = some (.getfield 43, 768) := by decide +kernel
theorem at_60_41 : am_at (am_m 60) 41 = some (.iconst 0, 0) := by decide +kernel
theorem at_60_42 : am_at (am_m 60) 42 = some (.aload_n 0, 0) := by decide +kernel
theorem at_60_43 : am_at (am_m 60) 43 = some (.getfield 43, 768) := by decide +kernel
theorem at_60_46 : am_at (am_m 60) 46 = some (.iconst 0, 0) := by decide +kernel
theorem at_60_47 : am_at (am_m 60) 47 = some (.aload_n 0, 0) := by decide +kernel
theorem at_60_48 : am_at (am_m 60) 48 = some (.getfield 18, 771) := by decide +kernel
theorem at_60_51 : am_at (am_m 60) 51 = some (.aload_n 0, 0) := by decide +kernel
theorem at_60_52 : am_at (am_m 60) 52 = some (.getfield 21, 772) := by decide +kernel
theorem at_60_55 : am_at (am_m 60) 55 = some (.imul, 0) := by decide +kernel
theorem at_60_56 : am_at (am_m 60) 56 = some (.invokestatic 47, 10000) := by decide +kernel
theorem at_60_59 : am_at (am_m 60) 59 = some (.return_, 0) := by decide +kernel
theorem at_65_0 : am_at (am_m 65) 0 = some (.aload_n 0, 0) := by decide +kernel
theorem at_65_1 : am_at (am_m 65) 1 = some (.getfield 25, 2308) := by decide +kernel
theorem at_65_4 : am_at (am_m 65) 4 = some (.iload_n 1, 0) := by decide +kernel
theorem at_65_5 : am_at (am_m 65) 5 = some (.iconst 0, 0) := by decide +kernel
theorem at_65_6 : am_at (am_m 65) 6 = some (.invokevirtual 139, 54) := by decide +kernel
theorem at_65_9 : am_at (am_m 65) 9 = some (.istore_n 3, 0) := by decide +kernel
theorem at_65_10 : am_at (am_m 65) 10 = some (.iload_n 1, 0) := by decide +kernel
theorem at_65_11 : am_at (am_m 65) 11 = some (.iconst 1, 0) := by decide +kernel
theorem at_65_12 : am_at (am_m 65) 12 = some (.iadd, 0) := by decide +kernel
theorem at_65_13 : am_at (am_m 65) 13 = some (.istore 4, 0) := by decide +kernel
theorem at_65_15 : am_at (am_m 65) 15 = some (.iload_n 3, 0) := by decide +kernel
theorem at_65_16 : am_at (am_m 65) 16 = some (.ifCond .ne 19, 35) := by decide +kernel
theorem at_65_19 : am_at (am_m 65) 19 = some (.aload_n 0, 0) := by decide +kernel
theorem at_65_20 : am_at (am_m 65) 20 = some (.aload_n 0, 0) := by decide +kernel
theorem at_65_21 : am_at (am_m 65) 21 = some (.getfield 25, 2308) := by decide +kernel
theorem at_65_24 : am_at (am_m 65) 24 = some (.iload_n 1, 0) := by decide +kernel
theorem at_65_25 : am_at (am_m 65) 25 = some (.iconst 1, 0) := by decide +kernel
theorem at_65_26 : am_at (am_m 65) 26 = some (.invokevirtual 139, 54) := by decide +kernel
theorem at_65_29 : am_at (am_m 65) 29 = some (.invokevirtual 163, 66) := by decide +kernel
theorem at_65_32 : am_at (am_m 65) 32 = some (.goto 90, 122) := by decide +kernel
theorem at_65_35 : am_at (am_m 65) 35 = some (.iload_n 3, 0) := by decide +kernel
theorem at_65_36 : am_at (am_m 65) 36 = some (.bipush 7, 0) := by decide +kernel
theorem at_65_38 : am_at (am_m 65) 38 = some (.if_icmp .ge 18, 56) := by decide +kernel
theorem at_65_41 : am_at (am_m 65) 41 = some (.aload_n 0, 0) := by decide +kernel
theorem at_65_42 : am_at (am_m 65) 42 = some (.ldc 87, 5) := by decide +kernel
theorem at_65_44 : am_at (am_m 65) 44 = some (.iload_n 3, 0) := by decide +kernel
theorem at_65_45 : am_at (am_m 65) 45 = some (.iconst 1, 0) := by decide +kernel
theorem at_65_46 : am_at (am_m 65) 46 = some (.isub, 0) := by decide +kernel
theorem at_65_47 : am_at (am_m 65) 47 = some (.invokevirtual 166, 10002) := by decide +kernel
theorem at_65_50 : am_at (am_m 65) 50 = some (.invokevirtual 151, 68) := by decide +kernel
theorem at_65_53 : am_at (am_m 65) 53 = some (.goto 69, 122) := by decide +kernel
theorem at_65_56 : am_at (am_m 65) 56 = some (.aload_n 0, 0) := by decide +kernel
theorem at_65_57 : am_at (am_m 65) 57 = some (.bipush 40, 0) := by decide +kernel
theorem at_65_59 : am_at (am_m 65) 59 = some (.invokevirtual 151, 68) := by decide +kernel
theorem at_65_62 : am_at (am_m 65) 62 = some (.aload_n 0, 0) := by decide +kernel
theorem at_65_63 : am_at (am_m 65) 63 = some (.ldc 108, 6) := by decide +kernel
theorem at_65_65 : am_at (am_m 65) 65 = some (.iload_n 3, 0) := by decide +kernel
theorem at_65_66 : am_at (am_m 65) 66 = some (.bipush 7, 0) := by decide +kernel
theorem at_65_68 : am_at (am_m 65) 68 = some (.isub, 0) := by decide +kernel
theorem at_65_69 : am_at (am_m 65) 69 = some (.invokevirtual 166, 10002) := by decide +kernel
theorem at_65_72 : am_at (am_m 65) 72 = some (.invokevirtual 151, 68) := by decide +kernel
theorem at_65_75 : am_at (am_m 65) 75 = some (.iconst 0, 0) := by decide +kernel
theorem at_65_76 : am_at (am_m 65) 76 = some (.istore 5, 0) := by decide +kernel
theorem at_65_78 : am_at (am_m 65) 78 = some (.iload 5, 0) := by decide +kernel
theorem at_65_80 : am_at (am_m 65) 80 = some (.iload_n 3, 0) := by decide +kernel
theorem at_65_81 : am_at (am_m 65) 81 = some (.invokestatic 114, 14) := by decide +kernel
theorem at_65_84 : am_at (am_m 65) 84 = some (.if_icmp .ge 32, 116) := by decide +kernel
theorem at_65_87 : am_at (am_m 65) 87 = some (.iload_n 2, 0) := by decide +kernel
theorem at_65_88 : am_at (am_m 65) 88 = some (.bipush 12, 0) := by decide +kernel
theorem at_65_90 : am_at (am_m 65) 90 = some (.if_icmp .gt 26, 116) := by decide +kernel
theorem at_65_93 : am_at (am_m 65) 93 = some (.aload_n 0, 0) := by decide +kernel
theorem at_65_94 : am_at (am_m 65) 94 = some (.bipush 32, 0) := by decide +kernel
theorem at_65_96 : am_at (am_m 65) 96 = some (.invokevirtual 151, 68) := by decide +kernel
theorem at_65_99 : am_at (am_m 65) 99 = some (.aload_n 0, 0) := by decide +kernel
theorem at_65_100 : am_at (am_m 65) 100 = some (.iload 4, 0) := by decide +kernel
theorem at_65_102 : am_at (am_m 65) 102 = some (.iload_n 2, 0) := by decide +kernel
theorem at_65_103 : am_at (am_m 65) 103 = some (.iconst 1, 0) := by decide +kernel
theorem at_65_104 : am_at (am_m 65) 104 = some (.iadd, 0) := by decide +kernel
theorem at_65_105 : am_at (am_m 65) 105 = some (.invokevirtual 145, 65) := by decide +kernel
theorem at_65_108 : am_at (am_m 65) 108 = some (.istore 4, 0) := by decide +kernel
theorem at_65_110 : am_at (am_m 65) 110 = some (.iinc 5 1, 0) := by decide +kernel
theorem at_65_113 : am_at (am_m 65) 113 = some (.goto (-35), 78) := by decide +kernel
theorem at_65_116 : am_at (am_m 65) 116 = some (.aload_n 0, 0) := by decide +kernel
theorem at_65_117 : am_at (am_m 65) 117 = some (.bipush 41, 0) := by decide +kernel
theorem at_65_119 : am_at (am_m 65) 119 = some (.invokevirtual 151, 68) := by decide +kernel
theorem at_65_122 : am_at (am_m 65) 122 = some (.iload 4, 0) := by decide +kernel
theorem at_65_124 : am_at (am_m 65) 124 = some (.ireturn, 0) := by decide +kernel
theorem at_66_0 : am_at (am_m 66) 0 = some (.iload_n 1, 0) := by decide +kernel
theorem at_66_1 : am_at (am_m 66) 1 = some (.invokestatic 158, 67) := by decide +kernel
theorem at_66_4 : am_at (am_m 66) 4 = some (.istore_n 2, 0) := by decide +kernel
theorem at_66_5 : am_at (am_m 66) 5 = some (.iload_n 1, 0) := by decide +kernel
theorem at_66_6 : am_at (am_m 66) 6 = some (.ifCond .ge 9, 15) := by decide +kernel
theorem at_66_9 : am_at (am_m 66) 9 = some (.aload_n 0, 0) := by decide +kernel
theorem at_66_10 : am_at (am_m 66) 10 = some (.bipush 45, 0) := by decide +kernel
theorem at_66_12 : am_at (am_m 66) 12 = some (.invokevirtual 151, 68) := by decide +kernel
theorem at_66_15 : am_at (am_m 66) 15 = some (.iload_n 2, 0) := by decide +kernel
theorem at_66_16 : am_at (am_m 66) 16 = some (.bipush 9, 0) := by decide +kernel
theorem at_66_18 : am_at (am_m 66) 18 = some (.if_icmp .le 18, 36) := by decide +kernel
theorem at_66_21 : am_at (am_m 66) 21 = some (.aload_n 0, 0) := by decide +kernel
theorem at_66_22 : am_at (am_m 66) 22 = some (.bipush 48, 0) := by decide +kernel
theorem at_66_24 : am_at (am_m 66) 24 = some (.iload_n 2, 0) := by decide +kernel
theorem at_66_25 : am_at (am_m 66) 25 = some (.bipush 10, 0) := by decide +kernel
theorem at_66_27 : am_at (am_m 66) 27 = some (.idiv, 0) := by decide +kernel
theorem at_66_28 : am_at (am_m 66) 28 = some (.bipush 10, 0) := by decide +kernel
theorem at_66_30 : am_at (am_m 66) 30 = some (.irem, 0) := by decide +kernel
theorem at_66_31 : am_at (am_m 66) 31 = some (.iadd, 0) := by decide +kernel
theorem at_66_32 : am_at (am_m 66) 32 = some (.i2c, 0) := by decide +kernel
theorem at_66_33 : am_at (am_m 66) 33 = some (.invokevirtual 151, 68) := by decide +kernel
theorem at_66_36 : am_at (am_m 66) 36 = some (.aload_n 0, 0) := by decide +kernel
theorem at_66_37 : am_at (am_m 66) 37 = some (.bipush 48, 0) := by decide +kernel
theorem at_66_39 : am_at (am_m 66) 39 = some (.iload_n 2, 0) := by decide +kernel
theorem at_66_40 : am_at (am_m 66) 40 = some (.bipush 10, 0) := by decide +kernel
theorem at_66_42 : am_at (am_m 66) 42 = some (.irem, 0) := by decide +kernel
theorem at_66_43 : am_at (am_m 66) 43 = some (.iadd, 0) := by decide +kernel
theorem at_66_44 : am_at (am_m 66) 44 = some (.i2c, 0) := by decide +kernel
theorem at_66_45 : am_at (am_m 66) 45 = some (.invokevirtual 151, 68) := by decide +kernel
theorem at_66_48 : am_at (am_m 66) 48 = some (.return_, 0) := by decide +kernel
theorem at_67_0 : am_at (am_m 67) 0 = some (.iload_n 0, 0) := by decide +kernel
theorem at_67_1 : am_at (am_m 67) 1 = some (.ifCond .ge 8, 9) := by decide +kernel
theorem at_67_4 : am_at (am_m 67) 4 = some (.iload_n 0, 0) := by decide +kernel
theorem at_67_5 : am_at (am_m 67) 5 = some (.ineg, 0) := by decide +kernel
theorem at_67_6 : am_at (am_m 67) 6 = some (.goto 4, 10) := by decide +kernel
theorem at_67_9 : am_at (am_m 67) 9 = some (.iload_n 0, 0) := by decide +kernel
theorem at_67_10 : am_at (am_m 67) 10 = some (.ireturn, 0) := by decide +kernel
theorem at_68_0 : am_at (am_m 68) 0 = some (.aload_n 0, 0) := by decide +kernel
theorem at_68_1 : am_at (am_m 68) 1 = some (.getfield 43, 2312) := by decide +kernel
theorem at_68_4 : am_at (am_m 68) 4 = some (.aload_n 0, 0) := by decide +kernel
theorem at_68_5 : am_at (am_m 68) 5 = some (.getfield 40, 2311) := by decide +kernel
theorem at_68_8 : am_at (am_m 68) 8 = some (.arraylength, 0) := by decide +kernel
theorem at_68_9 : am_at (am_m 68) 9 = some (.if_icmp .ge 23, 32) := by decide +kernel
theorem at_68_12 : am_at (am_m 68) 12 = some (.aload_n 0, 0) := by decide +kernel
theorem at_68_13 : am_at (am_m 68) 13 = some (.getfield 40, 2311) := by decide +kernel
theorem at_68_16 : am_at (am_m 68) 16 = some (.aload_n 0, 0) := by decide +kernel
theorem at_68_17 : am_at (am_m 68) 17 = some (.getfield 43, 2312) := by decide +kernel
theorem at_68_20 : am_at (am_m 68) 20 = some (.iload_n 1, 0) := by decide +kernel
theorem at_68_21 : am_at (am_m 68) 21 = some (.castore, 0) := by decide +kernel
theorem at_68_22 : am_at (am_m 68) 22 = some (.aload_n 0, 0) := by decide +kernel
theorem at_68_23 : am_at (am_m 68) 23 = some (.dup, 0) := by decide +kernel
theorem at_68_24 : am_at (am_m 68) 24 = some (.getfield 43, 2312) := by decide +kernel
theorem at_68_27 : am_at (am_m 68) 27 = some (.iconst 1, 0) := by decide +kernel
theorem at_68_28 : am_at (am_m 68) 28 = some (.iadd, 0) := by decide +kernel
theorem at_68_29 : am_at (am_m 68) 29 = some (.putfield 43, 2312) := by decide +kernel
theorem at_68_32 : am_at (am_m 68) 32 = some (.return_, 0) := by decide +kernel
theorem at_106_0 : am_at (am_m 106) 0 = some (.aload_n 2, 0) := by decide +kernel
theorem at_106_1 : am_at (am_m 106) 1 = some (.iconst 0, 0) := by decide +kernel
theorem at_106_2 : am_at (am_m 106) 2 = some (.aload_n 0, 0) := by decide +kernel
theorem at_106_3 : am_at (am_m 106) 3 = some (.iload_n 1, 0) := by decide +kernel
theorem at_106_4 : am_at (am_m 106) 4 = some (.invokevirtual 55, 107) := by decide +kernel
theorem at_106_7 : am_at (am_m 106) 7 = some (.i2l, 0) := by decide +kernel
theorem at_106_8 : am_at (am_m 106) 8 = some (.lastore, 0) := by decide +kernel
theorem at_106_9 : am_at (am_m 106) 9 = some (.goto 6, 15) := by decide +kernel
theorem at_106_13 : am_at (am_m 106) 13 = some (.iconst 1, 0) := by decide +kernel
theorem at_106_14 : am_at (am_m 106) 14 = some (.ireturn, 0) := by decide +kernel
theorem at_106_15 : am_at (am_m 106) 15 = some (.iconst 0, 0) := by decide +kernel
theorem at_106_16 : am_at (am_m 106) 16 = some (.ireturn, 0) := by decide +kernel
theorem at_107_0 : am_at (am_m 107) 0 = some (.aload_n 0, 0) := by decide +kernel
theorem at_107_1 : am_at (am_m 107) 1 = some (.iload_n 1, 0) := by decide +kernel
theorem at_107_2 : am_at (am_m 107) 2 = some (.invokevirtual 228, 108) := by decide +kernel
theorem at_107_5 : am_at (am_m 107) 5 = some (.aload_n 0, 0) := by decide +kernel
theorem at_107_6 : am_at (am_m 107) 6 = some (.getfield 29, 2819) := by decide +kernel
theorem at_107_9 : am_at (am_m 107) 9 = some (.iload_n 1, 0) := by decide +kernel
theorem at_107_10 : am_at (am_m 107) 10 = some (.invokevirtual 231, 109) := by decide +kernel
theorem at_107_13 : am_at (am_m 107) 13 = some (.aload_n 0, 0) := by decide +kernel
theorem at_107_14 : am_at (am_m 107) 14 = some (.getfield 29, 2819) := by decide +kernel
theorem at_107_17 : am_at (am_m 107) 17 = some (.getfield 210, 513) := by decide +kernel
theorem at_107_20 : am_at (am_m 107) 20 = some (.ireturn, 0) := by decide +kernel
theorem at_108_0 : am_at (am_m 108) 0 = some (.iload_n 1, 0) := by decide +kernel
theorem at_108_1 : am_at (am_m 108) 1 = some (.ifCond .lt 14, 15) := by decide +kernel
theorem at_108_4 : am_at (am_m 108) 4 = some (.iload_n 1, 0) := by decide +kernel
theorem at_108_5 : am_at (am_m 108) 5 = some (.aload_n 0, 0) := by decide +kernel
theorem at_108_6 : am_at (am_m 108) 6 = some (.getfield 29, 2819) := by decide +kernel
theorem at_108_9 : am_at (am_m 108) 9 = some (.getfield 210, 513) := by decide +kernel
theorem at_108_12 : am_at (am_m 108) 12 = some (.if_icmp .lt 14, 26) := by decide +kernel
theorem at_108_15 : am_at (am_m 108) 15 = some (.new 177, 102) := by decide +kernel
theorem at_108_26 : am_at (am_m 108) 26 = some (.return_, 0) := by decide +kernel
theorem at_109_0 : am_at (am_m 109) 0 = some (.aload_n 0, 0) := by decide +kernel
theorem at_109_1 : am_at (am_m 109) 1 = some (.getfield 9, 512) := by decide +kernel
theorem at_109_4 : am_at (am_m 109) 4 = some (.iload_n 1, 0) := by decide +kernel
theorem at_109_5 : am_at (am_m 109) 5 = some (.iconst 1, 0) := by decide +kernel
theorem at_109_6 : am_at (am_m 109) 6 = some (.iadd, 0) := by decide +kernel
theorem at_109_7 : am_at (am_m 109) 7 = some (.bipush 15, 0) := by decide +kernel
theorem at_109_9 : am_at (am_m 109) 9 = some (.imul, 0) := by decide +kernel
theorem at_109_10 : am_at (am_m 109) 10 = some (.aload_n 0, 0) := by decide +kernel
theorem at_109_11 : am_at (am_m 109) 11 = some (.getfield 9, 512) := by decide +kernel
theorem at_109_14 : am_at (am_m 109) 14 = some (.iload_n 1, 0) := by decide +kernel
theorem at_109_15 : am_at (am_m 109) 15 = some (.bipush 15, 0) := by decide +kernel
theorem at_109_17 : am_at (am_m 109) 17 = some (.imul, 0) := by decide +kernel
theorem at_109_18 : am_at (am_m 109) 18 = some (.aload_n 0, 0) := by decide +kernel
theorem at_109_19 : am_at (am_m 109) 19 = some (.getfield 15, 513) := by decide +kernel
theorem at_109_22 : am_at (am_m 109) 22 = some (.iconst 1, 0) := by decide +kernel
theorem at_109_23 : am_at (am_m 109) 23 = some (.isub, 0) := by decide +kernel
theorem at_109_24 : am_at (am_m 109) 24 = some (.iload_n 1, 0) := by decide +kernel
theorem at_109_25 : am_at (am_m 109) 25 = some (.isub, 0) := by decide +kernel
theorem at_109_26 : am_at (am_m 109) 26 = some (.bipush 15, 0) := by decide +kernel
theorem at_109_28 : am_at (am_m 109) 28 = some (.imul, 0) := by decide +kernel
theorem at_109_29 : am_at (am_m 109) 29 = some (.invokestatic 39, 10000) := by decide +kernel
theorem at_109_32 : am_at (am_m 109) 32 = some (.aload_n 0, 0) := by decide +kernel
theorem at_109_33 : am_at (am_m 109) 33 = some (.dup, 0) := by decide +kernel
theorem at_109_34 : am_at (am_m 109) 34 = some (.getfield 15, 513) := by decide +kernel
theorem at_109_37 : am_at (am_m 109) 37 = some (.iconst 1, 0) := by decide +kernel
theorem at_109_38 : am_at (am_m 109) 38 = some (.isub, 0) := by decide +kernel
theorem at_109_39 : am_at (am_m 109) 39 = some (.putfield 15, 513) := by decide +kernel
theorem at_109_42 : am_at (am_m 109) 42 = some (.return_, 0) := by decide +kernel
theorem at_154_0 : am_at (am_m 154) 0 = some (.iload_n 1, 0) := by decide +kernel
theorem at_154_1 : am_at (am_m 154) 1 = some (.ifCond .lt 30, 31) := by decide +kernel
theorem at_154_4 : am_at (am_m 154) 4 = some (.iload_n 1, 0) := by decide +kernel
theorem at_154_5 : am_at (am_m 154) 5 = some (.aload_n 0, 0) := by decide +kernel
theorem at_154_6 : am_at (am_m 154) 6 = some (.getfield 33, 2820) := by decide +kernel
theorem at_154_9 : am_at (am_m 154) 9 = some (.arraylength, 0) := by decide +kernel
theorem at_154_10 : am_at (am_m 154) 10 = some (.if_icmp .ge 21, 31) := by decide +kernel
theorem at_154_13 : am_at (am_m 154) 13 = some (.iload_n 2, 0) := by decide +kernel
theorem at_154_14 : am_at (am_m 154) 14 = some (.getstatic 293, 16) := by decide +kernel
theorem at_154_17 : am_at (am_m 154) 17 = some (.iload_n 1, 0) := by decide +kernel
theorem at_154_18 : am_at (am_m 154) 18 = some (.iaload, 0) := by decide +kernel
theorem at_154_19 : am_at (am_m 154) 19 = some (.if_icmp .lt 12, 31) := by decide +kernel
theorem at_154_22 : am_at (am_m 154) 22 = some (.iload_n 2, 0) := by decide +kernel
theorem at_154_23 : am_at (am_m 154) 23 = some (.getstatic 296, 17) := by decide +kernel
theorem at_154_26 : am_at (am_m 154) 26 = some (.iload_n 1, 0) := by decide +kernel
theorem at_154_27 : am_at (am_m 154) 27 = some (.iaload, 0) := by decide +kernel
theorem at_154_28 : am_at (am_m 154) 28 = some (.if_icmp .le 14, 42) := by decide +kernel
theorem at_154_31 : am_at (am_m 154) 31 = some (.new 114, 100) := by decide +kernel
theorem at_154_42 : am_at (am_m 154) 42 = some (.aload_n 0, 0) := by decide +kernel
theorem at_154_43 : am_at (am_m 154) 43 = some (.getfield 33, 2820) := by decide +kernel
theorem at_154_46 : am_at (am_m 154) 46 = some (.iload_n 1, 0) := by decide +kernel
theorem at_154_47 : am_at (am_m 154) 47 = some (.iaload, 0) := by decide +kernel
theorem at_154_48 : am_at (am_m 154) 48 = some (.istore_n 3, 0) := by decide +kernel
theorem at_154_49 : am_at (am_m 154) 49 = some (.aload_n 0, 0) := by decide +kernel
theorem at_154_50 : am_at (am_m 154) 50 = some (.getfield 33, 2820) := by decide +kernel
theorem at_154_53 : am_at (am_m 154) 53 = some (.iload_n 1, 0) := by decide +kernel
theorem at_154_54 : am_at (am_m 154) 54 = some (.iload_n 2, 0) := by decide +kernel
theorem at_154_55 : am_at (am_m 154) 55 = some (.iastore, 0) := by decide +kernel
theorem at_154_56 : am_at (am_m 154) 56 = some (.aload_n 0, 0) := by decide +kernel
theorem at_154_57 : am_at (am_m 154) 57 = some (.getfield 29, 2819) := by decide +kernel
theorem at_154_60 : am_at (am_m 154) 60 = some (.aload_n 0, 0) := by decide +kernel
theorem at_154_61 : am_at (am_m 154) 61 = some (.getfield 33, 2820) := by decide +kernel
theorem at_154_64 : am_at (am_m 154) 64 = some (.iconst 0, 0) := by decide +kernel
theorem at_154_65 : am_at (am_m 154) 65 = some (.iaload, 0) := by decide +kernel
theorem at_154_66 : am_at (am_m 154) 66 = some (.invokevirtual 301, 155) := by decide +kernel
theorem at_154_69 : am_at (am_m 154) 69 = some (.iload_n 3, 0) := by decide +kernel
theorem at_154_70 : am_at (am_m 154) 70 = some (.ireturn, 0) := by decide +kernel
theorem at_155_0 : am_at (am_m 155) 0 = some (.aload_n 0, 0) := by decide +kernel
theorem at_155_1 : am_at (am_m 155) 1 = some (.getfield 22, 514) := by decide +kernel
theorem at_155_4 : am_at (am_m 155) 4 = some (.iload_n 1, 0) := by decide +kernel
theorem at_155_5 : am_at (am_m 155) 5 = some (.putfield 36, 1536) := by decide +kernel
theorem at_155_8 : am_at (am_m 155) 8 = some (.aload_n 0, 0) := by decide +kernel
theorem at_155_9 : am_at (am_m 155) 9 = some (.getfield 26, 515) := by decide +kernel
theorem at_155_12 : am_at (am_m 155) 12 = some (.iload_n 1, 0) := by decide +kernel
theorem at_155_13 : am_at (am_m 155) 13 = some (.putfield 36, 1536) := by decide +kernel
theorem at_155_16 : am_at (am_m 155) 16 = some (.return_, 0) := by decide +kernel
theorem at_160_0 : am_at (am_m 160) 0 = some (.aload_n 0, 0) := by decide +kernel
theorem at_160_1 : am_at (am_m 160) 1 = some (.getfield 36, 5) := by decide +kernel
theorem at_160_4 : am_at (am_m 160) 4 = some (.getfield 80, 771) := by decide +kernel
theorem at_160_7 : am_at (am_m 160) 7 = some (.istore_n 2, 0) := by decide +kernel
theorem at_160_8 : am_at (am_m 160) 8 = some (.aload_n 0, 0) := by decide +kernel
theorem at_160_9 : am_at (am_m 160) 9 = some (.aload_n 0, 0) := by decide +kernel
theorem at_160_10 : am_at (am_m 160) 10 = some (.getfield 36, 5) := by decide +kernel
theorem at_160_13 : am_at (am_m 160) 13 = some (.getfield 61, 769) := by decide +kernel
theorem at_160_16 : am_at (am_m 160) 16 = some (.iconst 2, 0) := by decide +kernel
theorem at_160_17 : am_at (am_m 160) 17 = some (.if_icmp .ne 7, 24) := by decide +kernel
theorem at_160_20 : am_at (am_m 160) 20 = some (.iload_n 2, 0) := by decide +kernel
theorem at_160_21 : am_at (am_m 160) 21 = some (.goto 37, 58) := by decide +kernel
theorem at_160_24 : am_at (am_m 160) 24 = some (.aload_n 0, 0) := by decide +kernel
theorem at_160_25 : am_at (am_m 160) 25 = some (.getfield 36, 5) := by decide +kernel
theorem at_160_28 : am_at (am_m 160) 28 = some (.getfield 61, 769) := by decide +kernel
theorem at_160_31 : am_at (am_m 160) 31 = some (.iconst 3, 0) := by decide +kernel
theorem at_160_32 : am_at (am_m 160) 32 = some (.if_icmp .ne 25, 57) := by decide +kernel
theorem at_160_35 : am_at (am_m 160) 35 = some (.aload_n 0, 0) := by decide +kernel
theorem at_160_36 : am_at (am_m 160) 36 = some (.getfield 36, 5) := by decide +kernel
theorem at_160_39 : am_at (am_m 160) 39 = some (.getfield 83, 770) := by decide +kernel
theorem at_160_42 : am_at (am_m 160) 42 = some (.aload_n 0, 0) := by decide +kernel
theorem at_160_43 : am_at (am_m 160) 43 = some (.getfield 36, 5) := by decide +kernel
theorem at_160_46 : am_at (am_m 160) 46 = some (.getfield 83, 770) := by decide +kernel
theorem at_160_49 : am_at (am_m 160) 49 = some (.iconst 1, 0) := by decide +kernel
theorem at_160_50 : am_at (am_m 160) 50 = some (.isub, 0) := by decide +kernel
theorem at_160_51 : am_at (am_m 160) 51 = some (.imul, 0) := by decide +kernel
theorem at_160_52 : am_at (am_m 160) 52 = some (.iconst 2, 0) := by decide +kernel
theorem at_160_53 : am_at (am_m 160) 53 = some (.idiv, 0) := by decide +kernel
theorem at_160_54 : am_at (am_m 160) 54 = some (.goto 4, 58) := by decide +kernel
theorem at_160_57 : am_at (am_m 160) 57 = some (.iconst 1, 0) := by decide +kernel
theorem at_160_58 : am_at (am_m 160) 58 = some (.putfield 46, 8) := by decide +kernel
theorem at_160_61 : am_at (am_m 160) 61 = some (.aload_n 0, 0) := by decide +kernel
theorem at_160_62 : am_at (am_m 160) 62 = some (.getfield 42, 7) := by decide +kernel
theorem at_160_65 : am_at (am_m 160) 65 = some (.tableswitch 151 1 17 #[83, 88, 88, 151, 151, 92, 88, 97, 151, 151, 103, 109, 151, 151, 123, 130, 132], 0) := by decide +kernel
theorem at_160_148 : am_at (am_m 160) 148 = some (.bipush 21, 0) := by decide +kernel
theorem at_160_150 : am_at (am_m 160) 150 = some (.iload_n 2, 0) := by decide +kernel
theorem at_160_151 : am_at (am_m 160) 151 = some (.imul, 0) := by decide +kernel
theorem at_160_152 : am_at (am_m 160) 152 = some (.ireturn, 0) := by decide +kernel
theorem at_160_153 : am_at (am_m 160) 153 = some (.iconst 3, 0) := by decide +kernel
theorem at_160_154 : am_at (am_m 160) 154 = some (.iload_n 2, 0) := by decide +kernel
theorem at_160_155 : am_at (am_m 160) 155 = some (.imul, 0) := by decide +kernel
theorem at_160_156 : am_at (am_m 160) 156 = some (.ireturn, 0) := by decide +kernel
theorem at_160_157 : am_at (am_m 160) 157 = some (.bipush 14, 0) := by decide +kernel
theorem at_160_159 : am_at (am_m 160) 159 = some (.iload_n 2, 0) := by decide +kernel
theorem at_160_160 : am_at (am_m 160) 160 = some (.imul, 0) := by decide +kernel
theorem at_160_161 : am_at (am_m 160) 161 = some (.ireturn, 0) := by decide +kernel
theorem at_160_162 : am_at (am_m 160) 162 = some (.iconst 5, 0) := by decide +kernel
theorem at_160_163 : am_at (am_m 160) 163 = some (.iload_n 2, 0) := by decide +kernel
theorem at_160_164 : am_at (am_m 160) 164 = some (.iconst 1, 0) := by decide +kernel
theorem at_160_165 : am_at (am_m 160) 165 = some (.iadd, 0) := by decide +kernel
theorem at_160_166 : am_at (am_m 160) 166 = some (.imul, 0) := by decide +kernel
theorem at_160_167 : am_at (am_m 160) 167 = some (.ireturn, 0) := by decide +kernel
theorem at_160_168 : am_at (am_m 160) 168 = some (.iconst 4, 0) := by decide +kernel
theorem at_160_169 : am_at (am_m 160) 169 = some (.iload_n 2, 0) := by decide +kernel
theorem at_160_170 : am_at (am_m 160) 170 = some (.imul, 0) := by decide +kernel
theorem at_160_171 : am_at (am_m 160) 171 = some (.iload_n 2, 0) := by decide +kernel
theorem at_160_172 : am_at (am_m 160) 172 = some (.imul, 0) := by decide +kernel
theorem at_160_173 : am_at (am_m 160) 173 = some (.ireturn, 0) := by decide +kernel
theorem at_160_174 : am_at (am_m 160) 174 = some (.iload_n 2, 0) := by decide +kernel
theorem at_160_175 : am_at (am_m 160) 175 = some (.bipush 6, 0) := by decide +kernel
theorem at_160_177 : am_at (am_m 160) 177 = some (.if_icmp .ge 9, 186) := by decide +kernel
theorem at_160_180 : am_at (am_m 160) 180 = some (.iconst 4, 0) := by decide +kernel
theorem at_160_181 : am_at (am_m 160) 181 = some (.iload_n 2, 0) := by decide +kernel
theorem at_160_182 : am_at (am_m 160) 182 = some (.imul, 0) := by decide +kernel
theorem at_160_183 : am_at (am_m 160) 183 = some (.goto 4, 187) := by decide +kernel
theorem at_160_186 : am_at (am_m 160) 186 = some (.iconst 0, 0) := by decide +kernel
theorem at_160_187 : am_at (am_m 160) 187 = some (.ireturn, 0) := by decide +kernel
theorem at_160_188 : am_at (am_m 160) 188 = some (.iload_n 2, 0) := by decide +kernel
theorem at_160_189 : am_at (am_m 160) 189 = some (.aload_n 0, 0) := by decide +kernel
theorem at_160_190 : am_at (am_m 160) 190 = some (.getfield 46, 8) := by decide +kernel
theorem at_160_193 : am_at (am_m 160) 193 = some (.imul, 0) := by decide +kernel
theorem at_160_194 : am_at (am_m 160) 194 = some (.ireturn, 0) := by decide +kernel
theorem at_160_195 : am_at (am_m 160) 195 = some (.iload_n 2, 0) := by decide +kernel
theorem at_160_196 : am_at (am_m 160) 196 = some (.ireturn, 0) := by decide +kernel
theorem at_160_197 : am_at (am_m 160) 197 = some (.iload_n 2, 0) := by decide +kernel
theorem at_160_198 : am_at (am_m 160) 198 = some (.bipush 40, 0) := by decide +kernel
theorem at_160_200 : am_at (am_m 160) 200 = some (.if_icmp .ge 14, 214) := by decide +kernel
theorem at_160_203 : am_at (am_m 160) 203 = some (.iload_n 2, 0) := by decide +kernel
theorem at_160_204 : am_at (am_m 160) 204 = some (.iconst 1, 0) := by decide +kernel
theorem at_160_205 : am_at (am_m 160) 205 = some (.iadd, 0) := by decide +kernel
theorem at_160_206 : am_at (am_m 160) 206 = some (.aload_n 0, 0) := by decide +kernel
theorem at_160_207 : am_at (am_m 160) 207 = some (.getfield 46, 8) := by decide +kernel
theorem at_160_210 : am_at (am_m 160) 210 = some (.imul, 0) := by decide +kernel
theorem at_160_211 : am_at (am_m 160) 211 = some (.goto 4, 215) := by decide +kernel
theorem at_160_214 : am_at (am_m 160) 214 = some (.iconst 0, 0) := by decide +kernel
theorem at_160_215 : am_at (am_m 160) 215 = some (.ireturn, 0) := by decide +kernel
theorem at_160_216 : am_at (am_m 160) 216 = some (.iload_n 1, 0) := by decide +kernel
theorem at_160_217 : am_at (am_m 160) 217 = some (.ifCond .ne 9, 226) := by decide +kernel
theorem at_160_220 : am_at (am_m 160) 220 = some (.iconst 5, 0) := by decide +kernel
theorem at_160_221 : am_at (am_m 160) 221 = some (.iload_n 2, 0) := by decide +kernel
theorem at_160_222 : am_at (am_m 160) 222 = some (.imul, 0) := by decide +kernel
theorem at_160_223 : am_at (am_m 160) 223 = some (.goto 6, 229) := by decide +kernel
theorem at_160_226 : am_at (am_m 160) 226 = some (.iload_n 2, 0) := by decide +kernel
theorem at_160_227 : am_at (am_m 160) 227 = some (.iconst 1, 0) := by decide +kernel
theorem at_160_228 : am_at (am_m 160) 228 = some (.isub, 0) := by decide +kernel
theorem at_160_229 : am_at (am_m 160) 229 = some (.ireturn, 0) := by decide +kernel
theorem at_327_0 : am_at (am_m 327) 0 = some (.lload_n 0, 0) := by decide +kernel
theorem at_327_1 : am_at (am_m 327) 1 = some (.lload_n 2, 0) := by decide +kernel
theorem at_327_2 : am_at (am_m 327) 2 = some (.lcmp, 0) := by decide +kernel
theorem at_327_3 : am_at (am_m 327) 3 = some (.ifCond .lt 14, 17) := by decide +kernel
theorem at_327_6 : am_at (am_m 327) 6 = some (.lload_n 0, 0) := by decide +kernel
theorem at_327_7 : am_at (am_m 327) 7 = some (.lload 4, 0) := by decide +kernel
theorem at_327_9 : am_at (am_m 327) 9 = some (.lcmp, 0) := by decide +kernel
theorem at_327_10 : am_at (am_m 327) 10 = some (.ifCond .gt 7, 17) := by decide +kernel
theorem at_327_13 : am_at (am_m 327) 13 = some (.iconst 1, 0) := by decide +kernel
theorem at_327_14 : am_at (am_m 327) 14 = some (.goto 4, 18) := by decide +kernel
theorem at_327_17 : am_at (am_m 327) 17 = some (.iconst 0, 0) := by decide +kernel
theorem at_327_18 : am_at (am_m 327) 18 = some (.ireturn, 0) := by decide +kernel
theorem at_330_0 : am_at (am_m 330) 0 = some (.iload_n 0, 0) := by decide +kernel
theorem at_330_1 : am_at (am_m 330) 1 = some (.bipush 9, 0) := by decide +kernel
theorem at_330_3 : am_at (am_m 330) 3 = some (.if_icmp .eq 25, 28) := by decide +kernel
theorem at_330_6 : am_at (am_m 330) 6 = some (.iload_n 0, 0) := by decide +kernel
theorem at_330_7 : am_at (am_m 330) 7 = some (.bipush 17, 0) := by decide +kernel
theorem at_330_9 : am_at (am_m 330) 9 = some (.if_icmp .eq 19, 28) := by decide +kernel
theorem at_330_12 : am_at (am_m 330) 12 = some (.iload_n 0, 0) := by decide +kernel
theorem at_330_13 : am_at (am_m 330) 13 = some (.bipush 18, 0) := by decide +kernel
theorem at_330_15 : am_at (am_m 330) 15 = some (.if_icmp .eq 13, 28) := by decide +kernel
theorem at_330_18 : am_at (am_m 330) 18 = some (.iload_n 0, 0) := by decide +kernel
theorem at_330_19 : am_at (am_m 330) 19 = some (.bipush 20, 0) := by decide +kernel
theorem at_330_21 : am_at (am_m 330) 21 = some (.if_icmp .ne 11, 32) := by decide +kernel
theorem at_330_24 : am_at (am_m 330) 24 = some (.iload_n 1, 0) := by decide +kernel
theorem at_330_25 : am_at (am_m 330) 25 = some (.ifCond .ne 7, 32) := by decide +kernel
theorem at_330_28 : am_at (am_m 330) 28 = some (.iconst 1, 0) := by decide +kernel
theorem at_330_29 : am_at (am_m 330) 29 = some (.goto 4, 33) := by decide +kernel
theorem at_330_32 : am_at (am_m 330) 32 = some (.iconst 0, 0) := by decide +kernel
theorem at_330_33 : am_at (am_m 330) 33 = some (.ireturn, 0) := by decide +kernel
theorem at_334_0 : am_at (am_m 334) 0 = some (.iload_n 0, 0) := by decide +kernel
theorem at_334_1 : am_at (am_m 334) 1 = some (.bipush 9, 0) := by decide +kernel
theorem at_334_3 : am_at (am_m 334) 3 = some (.if_icmp .eq 15, 18) := by decide +kernel
theorem at_334_6 : am_at (am_m 334) 6 = some (.iload_n 0, 0) := by decide +kernel
theorem at_334_7 : am_at (am_m 334) 7 = some (.bipush 15, 0) := by decide +kernel
theorem at_334_9 : am_at (am_m 334) 9 = some (.if_icmp .lt 13, 22) := by decide +kernel
theorem at_334_12 : am_at (am_m 334) 12 = some (.iload_n 0, 0) := by decide +kernel
theorem at_334_13 : am_at (am_m 334) 13 = some (.bipush 18, 0) := by decide +kernel
theorem at_334_15 : am_at (am_m 334) 15 = some (.if_icmp .gt 7, 22) := by decide +kernel
theorem at_334_18 : am_at (am_m 334) 18 = some (.iconst 1, 0) := by decide +kernel
theorem at_334_19 : am_at (am_m 334) 19 = some (.goto 4, 23) := by decide +kernel
theorem at_334_22 : am_at (am_m 334) 22 = some (.iconst 0, 0) := by decide +kernel
theorem at_334_23 : am_at (am_m 334) 23 = some (.ireturn, 0) := by decide +kernel
theorem at_335_0 : am_at (am_m 335) 0 = some (.aload_n 0, 0) := by decide +kernel
theorem at_335_1 : am_at (am_m 335) 1 = some (.getfield 45, 3088) := by decide +kernel
theorem at_335_4 : am_at (am_m 335) 4 = some (.aload_n 0, 0) := by decide +kernel
theorem at_335_5 : am_at (am_m 335) 5 = some (.getfield 306, 3086) := by decide +kernel
theorem at_335_8 : am_at (am_m 335) 8 = some (.iload_n 1, 0) := by decide +kernel
theorem at_335_9 : am_at (am_m 335) 9 = some (.iastore, 0) := by decide +kernel
theorem at_335_10 : am_at (am_m 335) 10 = some (.aload_n 0, 0) := by decide +kernel
theorem at_335_11 : am_at (am_m 335) 11 = some (.getfield 48, 3089) := by decide +kernel
theorem at_335_14 : am_at (am_m 335) 14 = some (.aload_n 0, 0) := by decide +kernel
theorem at_335_15 : am_at (am_m 335) 15 = some (.getfield 306, 3086) := by decide +kernel
theorem at_335_18 : am_at (am_m 335) 18 = some (.iload_n 2, 0) := by decide +kernel
theorem at_335_19 : am_at (am_m 335) 19 = some (.iastore, 0) := by decide +kernel
theorem at_335_20 : am_at (am_m 335) 20 = some (.aload_n 0, 0) := by decide +kernel
theorem at_335_21 : am_at (am_m 335) 21 = some (.dup, 0) := by decide +kernel
theorem at_335_22 : am_at (am_m 335) 22 = some (.getfield 306, 3086) := by decide +kernel
theorem at_335_25 : am_at (am_m 335) 25 = some (.iconst 1, 0) := by decide +kernel
theorem at_335_26 : am_at (am_m 335) 26 = some (.iadd, 0) := by decide +kernel
theorem at_335_27 : am_at (am_m 335) 27 = some (.putfield 306, 3086) := by decide +kernel
theorem at_335_30 : am_at (am_m 335) 30 = some (.return_, 0) := by decide +kernel
theorem at_343_0 : am_at (am_m 343) 0 = some (.iload_n 0, 0) := by decide +kernel
theorem at_343_1 : am_at (am_m 343) 1 = some (.bipush 7, 0) := by decide +kernel
theorem at_343_3 : am_at (am_m 343) 3 = some (.if_icmp .ge 7, 10) := by decide +kernel
theorem at_343_6 : am_at (am_m 343) 6 = some (.iconst 0, 0) := by decide +kernel
theorem at_343_7 : am_at (am_m 343) 7 = some (.goto 24, 31) := by decide +kernel
theorem at_343_10 : am_at (am_m 343) 10 = some (.iload_n 0, 0) := by decide +kernel
theorem at_343_11 : am_at (am_m 343) 11 = some (.bipush 10, 0) := by decide +kernel
theorem at_343_13 : am_at (am_m 343) 13 = some (.if_icmp .ge 7, 20) := by decide +kernel
theorem at_343_16 : am_at (am_m 343) 16 = some (.iconst 1, 0) := by decide +kernel
theorem at_343_17 : am_at (am_m 343) 17 = some (.goto 14, 31) := by decide +kernel
theorem at_343_20 : am_at (am_m 343) 20 = some (.iload_n 0, 0) := by decide +kernel
theorem at_343_21 : am_at (am_m 343) 21 = some (.bipush 20, 0) := by decide +kernel
theorem at_343_23 : am_at (am_m 343) 23 = some (.if_icmp .ge 7, 30) := by decide +kernel
theorem at_343_26 : am_at (am_m 343) 26 = some (.iconst 2, 0) := by decide +kernel
theorem at_343_27 : am_at (am_m 343) 27 = some (.goto 4, 31) := by decide +kernel
theorem at_343_30 : am_at (am_m 343) 30 = some (.iconst 3, 0) := by decide +kernel
theorem at_343_31 : am_at (am_m 343) 31 = some (.ireturn, 0) := by decide +kernel
theorem at_347_0 : am_at (am_m 347) 0 = some (.iconst 0, 0) := by decide +kernel
theorem at_347_1 : am_at (am_m 347) 1 = some (.istore_n 1, 0) := by decide +kernel
theorem at_347_2 : am_at (am_m 347) 2 = some (.iload_n 1, 0) := by decide +kernel
theorem at_347_3 : am_at (am_m 347) 3 = some (.aload_n 0, 0) := by decide +kernel
theorem at_347_4 : am_at (am_m 347) 4 = some (.getfield 306, 3086) := by decide +kernel
theorem at_347_7 : am_at (am_m 347) 7 = some (.if_icmp .gt 16, 23) := by decide +kernel
theorem at_347_10 : am_at (am_m 347) 10 = some (.aload_n 0, 0) := by decide +kernel
theorem at_347_11 : am_at (am_m 347) 11 = some (.getfield 121, 3119) := by decide +kernel
theorem at_347_14 : am_at (am_m 347) 14 = some (.iload_n 1, 0) := by decide +kernel
theorem at_347_15 : am_at (am_m 347) 15 = some (.iconst (-1), 0) := by decide +kernel
theorem at_347_16 : am_at (am_m 347) 16 = some (.iastore, 0) := by decide +kernel
theorem at_347_17 : am_at (am_m 347) 17 = some (.iinc 1 1, 0) := by decide +kernel
theorem at_347_20 : am_at (am_m 347) 20 = some (.goto (-18), 2) := by decide +kernel
theorem at_347_23 : am_at (am_m 347) 23 = some (.aload_n 0, 0) := by decide +kernel
theorem at_347_24 : am_at (am_m 347) 24 = some (.getfield 121, 3119) := by decide +kernel
theorem at_347_27 : am_at (am_m 347) 27 = some (.iconst 0, 0) := by decide +kernel
theorem at_347_28 : am_at (am_m 347) 28 = some (.iconst 0, 0) := by decide +kernel
theorem at_347_29 : am_at (am_m 347) 29 = some (.iastore, 0) := by decide +kernel
theorem at_347_30 : am_at (am_m 347) 30 = some (.iconst 0, 0) := by decide +kernel
theorem at_347_31 : am_at (am_m 347) 31 = some (.istore_n 1, 0) := by decide +kernel
theorem at_347_32 : am_at (am_m 347) 32 = some (.iload_n 1, 0) := by decide +kernel
theorem at_347_33 : am_at (am_m 347) 33 = some (.aload_n 0, 0) := by decide +kernel
theorem at_347_34 : am_at (am_m 347) 34 = some (.getfield 306, 3086) := by decide +kernel
theorem at_347_37 : am_at (am_m 347) 37 = some (.if_icmp .ge 116, 153) := by decide +kernel
theorem at_347_40 : am_at (am_m 347) 40 = some (.aload_n 0, 0) := by decide +kernel
theorem at_347_41 : am_at (am_m 347) 41 = some (.getfield 121, 3119) := by decide +kernel
theorem at_347_44 : am_at (am_m 347) 44 = some (.iload_n 1, 0) := by decide +kernel
theorem at_347_45 : am_at (am_m 347) 45 = some (.iaload, 0) := by decide +kernel
theorem at_347_46 : am_at (am_m 347) 46 = some (.istore_n 2, 0) := by decide +kernel
theorem at_347_47 : am_at (am_m 347) 47 = some (.iload_n 2, 0) := by decide +kernel
theorem at_347_48 : am_at (am_m 347) 48 = some (.aload_n 0, 0) := by decide +kernel
theorem at_347_49 : am_at (am_m 347) 49 = some (.getfield 45, 3088) := by decide +kernel
theorem at_347_52 : am_at (am_m 347) 52 = some (.iload_n 1, 0) := by decide +kernel
theorem at_347_53 : am_at (am_m 347) 53 = some (.iaload, 0) := by decide +kernel
theorem at_347_54 : am_at (am_m 347) 54 = some (.invokestatic 346, 348) := by decide +kernel
theorem at_347_57 : am_at (am_m 347) 57 = some (.if_icmp .ge 5, 62) := by decide +kernel
theorem at_347_60 : am_at (am_m 347) 60 = some (.iload_n 1, 0) := by decide +kernel
theorem at_347_61 : am_at (am_m 347) 61 = some (.ireturn, 0) := by decide +kernel
theorem at_347_62 : am_at (am_m 347) 62 = some (.iload_n 2, 0) := by decide +kernel
theorem at_347_63 : am_at (am_m 347) 63 = some (.aload_n 0, 0) := by decide +kernel
theorem at_347_64 : am_at (am_m 347) 64 = some (.getfield 45, 3088) := by decide +kernel
theorem at_347_67 : am_at (am_m 347) 67 = some (.iload_n 1, 0) := by decide +kernel
theorem at_347_68 : am_at (am_m 347) 68 = some (.iaload, 0) := by decide +kernel
theorem at_347_69 : am_at (am_m 347) 69 = some (.invokestatic 346, 348) := by decide +kernel
theorem at_347_72 : am_at (am_m 347) 72 = some (.isub, 0) := by decide +kernel
theorem at_347_73 : am_at (am_m 347) 73 = some (.aload_n 0, 0) := by decide +kernel
theorem at_347_74 : am_at (am_m 347) 74 = some (.getfield 45, 3088) := by decide +kernel
theorem at_347_77 : am_at (am_m 347) 77 = some (.iload_n 1, 0) := by decide +kernel
theorem at_347_78 : am_at (am_m 347) 78 = some (.iaload, 0) := by decide +kernel
theorem at_347_79 : am_at (am_m 347) 79 = some (.invokestatic 349, 349) := by decide +kernel
theorem at_347_82 : am_at (am_m 347) 82 = some (.iadd, 0) := by decide +kernel
theorem at_347_83 : am_at (am_m 347) 83 = some (.istore_n 2, 0) := by decide +kernel
theorem at_347_84 : am_at (am_m 347) 84 = some (.iload_n 2, 0) := by decide +kernel
theorem at_347_85 : am_at (am_m 347) 85 = some (.bipush 8, 0) := by decide +kernel
theorem at_347_87 : am_at (am_m 347) 87 = some (.if_icmp .le 5, 92) := by decide +kernel
theorem at_347_90 : am_at (am_m 347) 90 = some (.iload_n 1, 0) := by decide +kernel
theorem at_347_91 : am_at (am_m 347) 91 = some (.ireturn, 0) := by decide +kernel
theorem at_347_92 : am_at (am_m 347) 92 = some (.aload_n 0, 0) := by decide +kernel
theorem at_347_93 : am_at (am_m 347) 93 = some (.getfield 45, 3088) := by decide +kernel
theorem at_347_96 : am_at (am_m 347) 96 = some (.iload_n 1, 0) := by decide +kernel
theorem at_347_97 : am_at (am_m 347) 97 = some (.iaload, 0) := by decide +kernel
theorem at_347_98 : am_at (am_m 347) 98 = some (.bipush 17, 0) := by decide +kernel
theorem at_347_100 : am_at (am_m 347) 100 = some (.if_icmp .eq 16, 116) := by decide +kernel
theorem at_347_103 : am_at (am_m 347) 103 = some (.aload_n 0, 0) := by decide +kernel
theorem at_347_104 : am_at (am_m 347) 104 = some (.iload_n 1, 0) := by decide +kernel
theorem at_347_105 : am_at (am_m 347) 105 = some (.iconst 1, 0) := by decide +kernel
theorem at_347_106 : am_at (am_m 347) 106 = some (.iadd, 0) := by decide +kernel
theorem at_347_107 : am_at (am_m 347) 107 = some (.iload_n 2, 0) := by decide +kernel
theorem at_347_108 : am_at (am_m 347) 108 = some (.invokevirtual 352, 350) := by decide +kernel
theorem at_347_111 : am_at (am_m 347) 111 = some (.ifCond .ne 5, 116) := by decide +kernel
theorem at_347_114 : am_at (am_m 347) 114 = some (.iload_n 1, 0) := by decide +kernel
theorem at_347_115 : am_at (am_m 347) 115 = some (.ireturn, 0) := by decide +kernel
theorem at_347_116 : am_at (am_m 347) 116 = some (.aload_n 0, 0) := by decide +kernel
theorem at_347_117 : am_at (am_m 347) 117 = some (.getfield 45, 3088) := by decide +kernel
theorem at_347_120 : am_at (am_m 347) 120 = some (.iload_n 1, 0) := by decide +kernel
theorem at_347_121 : am_at (am_m 347) 121 = some (.iaload, 0) := by decide +kernel
theorem at_347_122 : am_at (am_m 347) 122 = some (.bipush 16, 0) := by decide +kernel
theorem at_347_124 : am_at (am_m 347) 124 = some (.if_icmp .le 23, 147) := by decide +kernel
theorem at_347_127 : am_at (am_m 347) 127 = some (.aload_n 0, 0) := by decide +kernel
theorem at_347_128 : am_at (am_m 347) 128 = some (.iload_n 1, 0) := by decide +kernel
theorem at_347_129 : am_at (am_m 347) 129 = some (.iconst 1, 0) := by decide +kernel
theorem at_347_130 : am_at (am_m 347) 130 = some (.iadd, 0) := by decide +kernel
theorem at_347_131 : am_at (am_m 347) 131 = some (.aload_n 0, 0) := by decide +kernel
theorem at_347_132 : am_at (am_m 347) 132 = some (.getfield 48, 3089) := by decide +kernel
theorem at_347_135 : am_at (am_m 347) 135 = some (.iload_n 1, 0) := by decide +kernel
theorem at_347_136 : am_at (am_m 347) 136 = some (.iaload, 0) := by decide +kernel
theorem at_347_137 : am_at (am_m 347) 137 = some (.iadd, 0) := by decide +kernel
theorem at_347_138 : am_at (am_m 347) 138 = some (.iload_n 2, 0) := by decide +kernel
theorem at_347_139 : am_at (am_m 347) 139 = some (.invokevirtual 352, 350) := by decide +kernel
theorem at_347_142 : am_at (am_m 347) 142 = some (.ifCond .ne 5, 147) := by decide +kernel
theorem at_347_145 : am_at (am_m 347) 145 = some (.iload_n 1, 0) := by decide +kernel
theorem at_347_146 : am_at (am_m 347) 146 = some (.ireturn, 0) := by decide +kernel
theorem at_347_147 : am_at (am_m 347) 147 = some (.iinc 1 1, 0) := by decide +kernel
theorem at_347_150 : am_at (am_m 347) 150 = some (.goto (-118), 32) := by decide +kernel
theorem at_347_153 : am_at (am_m 347) 153 = some (.iconst (-1), 0) := by decide +kernel
theorem at_347_154 : am_at (am_m 347) 154 = some (.ireturn, 0) := by decide +kernel
theorem at_348_0 : am_at (am_m 348) 0 = some (.iload_n 0, 0) := by decide +kernel
theorem at_348_1 : am_at (am_m 348) 1 = some (.iconst 5, 0) := by decide +kernel
theorem at_348_2 : am_at (am_m 348) 2 = some (.if_icmp .ge 7, 9) := by decide +kernel
theorem at_348_5 : am_at (am_m 348) 5 = some (.iconst 0, 0) := by decide +kernel
theorem at_348_6 : am_at (am_m 348) 6 = some (.goto 44, 50) := by decide +kernel
theorem at_348_9 : am_at (am_m 348) 9 = some (.iload_n 0, 0) := by decide +kernel
theorem at_348_10 : am_at (am_m 348) 10 = some (.bipush 7, 0) := by decide +kernel
theorem at_348_12 : am_at (am_m 348) 12 = some (.if_icmp .ge 7, 19) := by decide +kernel
theorem at_348_15 : am_at (am_m 348) 15 = some (.iconst 1, 0) := by decide +kernel
theorem at_348_16 : am_at (am_m 348) 16 = some (.goto 34, 50) := by decide +kernel
theorem at_348_19 : am_at (am_m 348) 19 = some (.iload_n 0, 0) := by decide +kernel
theorem at_348_20 : am_at (am_m 348) 20 = some (.bipush 14, 0) := by decide +kernel
theorem at_348_22 : am_at (am_m 348) 22 = some (.if_icmp .ge 7, 29) := by decide +kernel
theorem at_348_25 : am_at (am_m 348) 25 = some (.iconst 2, 0) := by decide +kernel
theorem at_348_26 : am_at (am_m 348) 26 = some (.goto 24, 50) := by decide +kernel
theorem at_348_29 : am_at (am_m 348) 29 = some (.iload_n 0, 0) := by decide +kernel
theorem at_348_30 : am_at (am_m 348) 30 = some (.bipush 15, 0) := by decide +kernel
theorem at_348_32 : am_at (am_m 348) 32 = some (.if_icmp .ne 7, 39) := by decide +kernel
theorem at_348_35 : am_at (am_m 348) 35 = some (.iconst 2, 0) := by decide +kernel
theorem at_348_36 : am_at (am_m 348) 36 = some (.goto 14, 50) := by decide +kernel
theorem at_348_39 : am_at (am_m 348) 39 = some (.iload_n 0, 0) := by decide +kernel
theorem at_348_40 : am_at (am_m 348) 40 = some (.bipush 17, 0) := by decide +kernel
theorem at_348_42 : am_at (am_m 348) 42 = some (.if_icmp .ne 7, 49) := by decide +kernel
theorem at_348_45 : am_at (am_m 348) 45 = some (.iconst 0, 0) := by decide +kernel
theorem at_348_46 : am_at (am_m 348) 46 = some (.goto 4, 50) := by decide +kernel
theorem at_348_49 : am_at (am_m 348) 49 = some (.iconst 1, 0) := by decide +kernel
theorem at_348_50 : am_at (am_m 348) 50 = some (.ireturn, 0) := by decide +kernel
theorem at_349_0 : am_at (am_m 349) 0 = some (.iload_n 0, 0) := by decide +kernel
theorem at_349_1 : am_at (am_m 349) 1 = some (.bipush 14, 0) := by decide +kernel
theorem at_349_3 : am_at (am_m 349) 3 = some (.if_icmp .ge 7, 10) := by decide +kernel
theorem at_349_6 : am_at (am_m 349) 6 = some (.iconst 1, 0) := by decide +kernel
theorem at_349_7 : am_at (am_m 349) 7 = some (.goto 14, 21) := by decide +kernel
theorem at_349_10 : am_at (am_m 349) 10 = some (.iload_n 0, 0) := by decide +kernel
theorem at_349_11 : am_at (am_m 349) 11 = some (.bipush 16, 0) := by decide +kernel
theorem at_349_13 : am_at (am_m 349) 13 = some (.if_icmp .ge 7, 20) := by decide +kernel
theorem at_349_16 : am_at (am_m 349) 16 = some (.iconst 2, 0) := by decide +kernel
theorem at_349_17 : am_at (am_m 349) 17 = some (.goto 4, 21) := by decide +kernel
theorem at_349_20 : am_at (am_m 349) 20 = some (.iconst 0, 0) := by decide +kernel
theorem at_349_21 : am_at (am_m 349) 21 = some (.ireturn, 0) := by decide +kernel
theorem at_350_0 : am_at (am_m 350) 0 = some (.iload_n 1, 0) := by decide +kernel
theorem at_350_1 : am_at (am_m 350) 1 = some (.aload_n 0, 0) := by decide +kernel
theorem at_350_2 : am_at (am_m 350) 2 = some (.getfield 306, 3086) := by decide +kernel
theorem at_350_5 : am_at (am_m 350) 5 = some (.if_icmp .gt 16, 21) := by decide +kernel
theorem at_350_8 : am_at (am_m 350) 8 = some (.iload_n 1, 0) := by decide +kernel
theorem at_350_9 : am_at (am_m 350) 9 = some (.aload_n 0, 0) := by decide +kernel
theorem at_350_10 : am_at (am_m 350) 10 = some (.getfield 306, 3086) := by decide +kernel
theorem at_350_13 : am_at (am_m 350) 13 = some (.if_icmp .ne 10, 23) := by decide +kernel
theorem at_350_16 : am_at (am_m 350) 16 = some (.iload_n 2, 0) := by decide +kernel
theorem at_350_17 : am_at (am_m 350) 17 = some (.iconst 1, 0) := by decide +kernel
theorem at_350_18 : am_at (am_m 350) 18 = some (.if_icmp .eq 5, 23) := by decide +kernel
theorem at_350_21 : am_at (am_m 350) 21 = some (.iconst 0, 0) := by decide +kernel
theorem at_350_22 : am_at (am_m 350) 22 = some (.ireturn, 0) := by decide +kernel
theorem at_350_23 : am_at (am_m 350) 23 = some (.aload_n 0, 0) := by decide +kernel
theorem at_350_24 : am_at (am_m 350) 24 = some (.getfield 121, 3119) := by decide +kernel
theorem at_350_27 : am_at (am_m 350) 27 = some (.iload_n 1, 0) := by decide +kernel
theorem at_350_28 : am_at (am_m 350) 28 = some (.iaload, 0) := by decide +kernel
theorem at_350_29 : am_at (am_m 350) 29 = some (.iconst (-1), 0) := by decide +kernel
theorem at_350_30 : am_at (am_m 350) 30 = some (.if_icmp .ne 10, 40) := by decide +kernel
theorem at_350_33 : am_at (am_m 350) 33 = some (.aload_n 0, 0) := by decide +kernel
theorem at_350_34 : am_at (am_m 350) 34 = some (.getfield 121, 3119) := by decide +kernel
theorem at_350_37 : am_at (am_m 350) 37 = some (.iload_n 1, 0) := by decide +kernel
theorem at_350_38 : am_at (am_m 350) 38 = some (.iload_n 2, 0) := by decide +kernel
theorem at_350_39 : am_at (am_m 350) 39 = some (.iastore, 0) := by decide +kernel
theorem at_350_40 : am_at (am_m 350) 40 = some (.aload_n 0, 0) := by decide +kernel
theorem at_350_41 : am_at (am_m 350) 41 = some (.getfield 121, 3119) := by decide +kernel
theorem at_350_44 : am_at (am_m 350) 44 = some (.iload_n 1, 0) := by decide +kernel
theorem at_350_45 : am_at (am_m 350) 45 = some (.iaload, 0) := by decide +kernel
theorem at_350_46 : am_at (am_m 350) 46 = some (.iload_n 2, 0) := by decide +kernel
theorem at_350_47 : am_at (am_m 350) 47 = some (.if_icmp .ne 7, 54) := by decide +kernel
theorem at_350_50 : am_at (am_m 350) 50 = some (.iconst 1, 0) := by decide +kernel
theorem at_350_51 : am_at (am_m 350) 51 = some (.goto 4, 55) := by decide +kernel
theorem at_350_54 : am_at (am_m 350) 54 = some (.iconst 0, 0) := by decide +kernel
theorem at_350_55 : am_at (am_m 350) 55 = some (.ireturn, 0) := by decide +kernel
theorem at_353_0 : am_at (am_m 353) 0 = some (.iload_n 0, 0) := by decide +kernel
theorem at_353_1 : am_at (am_m 353) 1 = some (.bipush 7, 0) := by decide +kernel
theorem at_353_3 : am_at (am_m 353) 3 = some (.iconst 3, 0) := by decide +kernel
theorem at_353_4 : am_at (am_m 353) 4 = some (.iload_n 1, 0) := by decide +kernel
theorem at_353_5 : am_at (am_m 353) 5 = some (.imul, 0) := by decide +kernel
theorem at_353_6 : am_at (am_m 353) 6 = some (.ishl, 0) := by decide +kernel
theorem at_353_7 : am_at (am_m 353) 7 = some (.iconst (-1), 0) := by decide +kernel
theorem at_353_8 : am_at (am_m 353) 8 = some (.ixor, 0) := by decide +kernel
theorem at_353_9 : am_at (am_m 353) 9 = some (.iand, 0) := by decide +kernel
theorem at_353_10 : am_at (am_m 353) 10 = some (.iload_n 2, 0) := by decide +kernel
theorem at_353_11 : am_at (am_m 353) 11 = some (.iconst 3, 0) := by decide +kernel
theorem at_353_12 : am_at (am_m 353) 12 = some (.iload_n 1, 0) := by decide +kernel
theorem at_353_13 : am_at (am_m 353) 13 = some (.imul, 0) := by decide +kernel
theorem at_353_14 : am_at (am_m 353) 14 = some (.ishl, 0) := by decide +kernel
theorem at_353_15 : am_at (am_m 353) 15 = some (.ior, 0) := by decide +kernel
theorem at_353_16 : am_at (am_m 353) 16 = some (.ireturn, 0) := by decide +kernel
theorem at_367_0 : am_at (am_m 367) 0 = some (.iload_n 0, 0) := by decide +kernel
theorem at_367_1 : am_at (am_m 367) 1 = some (.iconst 3, 0) := by decide +kernel
theorem at_367_2 : am_at (am_m 367) 2 = some (.iload_n 1, 0) := by decide +kernel
theorem at_367_3 : am_at (am_m 367) 3 = some (.imul, 0) := by decide +kernel
theorem at_367_4 : am_at (am_m 367) 4 = some (.ishr, 0) := by decide +kernel
theorem at_367_5 : am_at (am_m 367) 5 = some (.bipush 7, 0) := by decide +kernel
theorem at_367_7 : am_at (am_m 367) 7 = some (.iand, 0) := by decide +kernel
theorem at_367_8 : am_at (am_m 367) 8 = some (.ireturn, 0) := by decide +kernel
theorem at_393_0 : am_at (am_m 393) 0 = some (.iload_n 1, 0) := by decide +kernel
theorem at_393_1 : am_at (am_m 393) 1 = some (.iconst 1, 0) := by decide +kernel
theorem at_393_2 : am_at (am_m 393) 2 = some (.iadd, 0) := by decide +kernel
theorem at_393_3 : am_at (am_m 393) 3 = some (.istore_n 3, 0) := by decide +kernel
theorem at_393_4 : am_at (am_m 393) 4 = some (.iconst 0, 0) := by decide +kernel
theorem at_393_5 : am_at (am_m 393) 5 = some (.istore 4, 0) := by decide +kernel
theorem at_393_7 : am_at (am_m 393) 7 = some (.iload 4, 0) := by decide +kernel
theorem at_393_9 : am_at (am_m 393) 9 = some (.iload_n 2, 0) := by decide +kernel
theorem at_393_10 : am_at (am_m 393) 10 = some (.if_icmp .ge 18, 28) := by decide +kernel
theorem at_393_13 : am_at (am_m 393) 13 = some (.iload_n 3, 0) := by decide +kernel
theorem at_393_14 : am_at (am_m 393) 14 = some (.aload_n 0, 0) := by decide +kernel
theorem at_393_15 : am_at (am_m 393) 15 = some (.getfield 63, 3098) := by decide +kernel
theorem at_393_18 : am_at (am_m 393) 18 = some (.iload_n 3, 0) := by decide +kernel
theorem at_393_19 : am_at (am_m 393) 19 = some (.iaload, 0) := by decide +kernel
theorem at_393_20 : am_at (am_m 393) 20 = some (.iadd, 0) := by decide +kernel
theorem at_393_21 : am_at (am_m 393) 21 = some (.istore_n 3, 0) := by decide +kernel
theorem at_393_22 : am_at (am_m 393) 22 = some (.iinc 4 1, 0) := by decide +kernel
theorem at_393_25 : am_at (am_m 393) 25 = some (.goto (-18), 7) := by decide +kernel
theorem at_393_28 : am_at (am_m 393) 28 = some (.iload_n 3, 0) := by decide +kernel
theorem at_393_29 : am_at (am_m 393) 29 = some (.ireturn, 0) := by decide +kernel
theorem at_439_0 : am_at (am_m 439) 0 = some (.aload_n 0, 0) := by decide +kernel
theorem at_439_1 : am_at (am_m 439) 1 = some (.iload_n 2, 0) := by decide +kernel
theorem at_439_2 : am_at (am_m 439) 2 = some (.putfield 729, 3165) := by decide +kernel
theorem at_439_5 : am_at (am_m 439) 5 = some (.aload_n 0, 0) := by decide +kernel
theorem at_439_6 : am_at (am_m 439) 6 = some (.iconst 0, 0) := by decide +kernel
theorem at_439_7 : am_at (am_m 439) 7 = some (.putfield 726, 3166) := by decide +kernel
theorem at_439_10 : am_at (am_m 439) 10 = some (.aload_n 0, 0) := by decide +kernel
theorem at_439_11 : am_at (am_m 439) 11 = some (.iconst 0, 0) := by decide +kernel
theorem at_439_12 : am_at (am_m 439) 12 = some (.putfield 732, 3167) := by decide +kernel
theorem at_439_15 : am_at (am_m 439) 15 = some (.bipush 10, 0) := by decide +kernel
theorem at_439_17 : am_at (am_m 439) 17 = some (.aload_n 0, 0) := by decide +kernel
theorem at_439_18 : am_at (am_m 439) 18 = some (.getfield 312, 3092) := by decide +kernel
theorem at_439_21 : am_at (am_m 439) 21 = some (.imul, 0) := by decide +kernel
theorem at_439_22 : am_at (am_m 439) 22 = some (.iload_n 1, 0) := by decide +kernel
theorem at_439_23 : am_at (am_m 439) 23 = some (.iadd, 0) := by decide +kernel
theorem at_439_24 : am_at (am_m 439) 24 = some (.tableswitch 246 0 32 #[148, 155, 162, 169, 246, 246, 246, 246, 246, 246, 148, 176, 183, 190, 246, 246, 246, 246, 246, 246, 197, 204, 211, 218, 246, 246, 246, 246, 246, 246, 225, 232, 239], 0) := by decide +kernel
theorem at_439_172 : am_at (am_m 439) 172 = some (.aload_n 0, 0) := by decide +kernel
theorem at_439_173 : am_at (am_m 439) 173 = some (.invokevirtual 772, 440) := by decide +kernel
theorem at_439_176 : am_at (am_m 439) 176 = some (.goto 98, 274) := by decide +kernel
theorem at_439_179 : am_at (am_m 439) 179 = some (.aload_n 0, 0) := by decide +kernel
theorem at_439_180 : am_at (am_m 439) 180 = some (.invokevirtual 775, 447) := by decide +kernel
theorem at_439_183 : am_at (am_m 439) 183 = some (.goto 91, 274) := by decide +kernel
theorem at_439_186 : am_at (am_m 439) 186 = some (.aload_n 0, 0) := by decide +kernel
theorem at_439_187 : am_at (am_m 439) 187 = some (.invokevirtual 778, 449) := by decide +kernel
theorem at_439_190 : am_at (am_m 439) 190 = some (.goto 84, 274) := by decide +kernel
theorem at_439_193 : am_at (am_m 439) 193 = some (.aload_n 0, 0) := by decide +kernel
theorem at_439_194 : am_at (am_m 439) 194 = some (.invokevirtual 781, 452) := by decide +kernel
theorem at_439_197 : am_at (am_m 439) 197 = some (.goto 77, 274) := by decide +kernel
theorem at_439_200 : am_at (am_m 439) 200 = some (.aload_n 0, 0) := by decide +kernel
theorem at_439_201 : am_at (am_m 439) 201 = some (.invokevirtual 784, 453) := by decide +kernel
theorem at_439_204 : am_at (am_m 439) 204 = some (.goto 70, 274) := by decide +kernel
theorem at_439_207 : am_at (am_m 439) 207 = some (.aload_n 0, 0) := by decide +kernel
theorem at_439_208 : am_at (am_m 439) 208 = some (.invokevirtual 787, 455) := by decide +kernel
theorem at_439_211 : am_at (am_m 439) 211 = some (.goto 63, 274) := by decide +kernel
theorem at_439_214 : am_at (am_m 439) 214 = some (.aload_n 0, 0) := by decide +kernel
theorem at_439_215 : am_at (am_m 439) 215 = some (.invokevirtual 790, 457) := by decide +kernel
theorem at_439_218 : am_at (am_m 439) 218 = some (.goto 56, 274) := by decide +kernel
theorem at_439_221 : am_at (am_m 439) 221 = some (.aload_n 0, 0) := by decide +kernel
theorem at_439_222 : am_at (am_m 439) 222 = some (.invokevirtual 793, 460) := by decide +kernel
theorem at_439_225 : am_at (am_m 439) 225 = some (.goto 49, 274) := by decide +kernel
theorem at_439_228 : am_at (am_m 439) 228 = some (.aload_n 0, 0) := by decide +kernel
theorem at_439_229 : am_at (am_m 439) 229 = some (.invokevirtual 796, 462) := by decide +kernel
theorem at_439_232 : am_at (am_m 439) 232 = some (.goto 42, 274) := by decide +kernel
theorem at_439_235 : am_at (am_m 439) 235 = some (.aload_n 0, 0) := by decide +kernel
theorem at_439_236 : am_at (am_m 439) 236 = some (.invokevirtual 799, 463) := by decide +kernel
theorem at_439_239 : am_at (am_m 439) 239 = some (.goto 35, 274) := by decide +kernel
theorem at_439_242 : am_at (am_m 439) 242 = some (.aload_n 0, 0) := by decide +kernel
theorem at_439_243 : am_at (am_m 439) 243 = some (.invokevirtual 802, 464) := by decide +kernel
theorem at_439_246 : am_at (am_m 439) 246 = some (.goto 28, 274) := by decide +kernel
theorem at_439_249 : am_at (am_m 439) 249 = some (.aload_n 0, 0) := by decide +kernel
theorem at_439_250 : am_at (am_m 439) 250 = some (.invokevirtual 805, 465) := by decide +kernel
theorem at_439_253 : am_at (am_m 439) 253 = some (.goto 21, 274) := by decide +kernel
theorem at_439_256 : am_at (am_m 439) 256 = some (.aload_n 0, 0) := by decide +kernel
theorem at_439_257 : am_at (am_m 439) 257 = some (.invokevirtual 808, 466) := by decide +kernel
theorem at_439_260 : am_at (am_m 439) 260 = some (.goto 14, 274) := by decide +kernel
theorem at_439_263 : am_at (am_m 439) 263 = some (.aload_n 0, 0) := by decide +kernel
theorem at_439_264 : am_at (am_m 439) 264 = some (.invokevirtual 811, 467) := by decide +kernel
theorem at_439_267 : am_at (am_m 439) 267 = some (.goto 7, 274) := by decide +kernel
theorem at_439_270 : am_at (am_m 439) 270 = some (.aload_n 0, 0) := by decide +kernel
theorem at_439_271 : am_at (am_m 439) 271 = some (.invokevirtual 814, 468) := by decide +kernel
theorem at_439_274 : am_at (am_m 439) 274 = some (.aload_n 0, 0) := by decide +kernel
theorem at_439_275 : am_at (am_m 439) 275 = some (.getfield 726, 3166) := by decide +kernel
theorem at_439_278 : am_at (am_m 439) 278 = some (.ireturn, 0) := by decide +kernel
theorem at_440_0 : am_at (am_m 440) 0 = some (.iconst 0, 0) := by decide +kernel
theorem at_440_1 : am_at (am_m 440) 1 = some (.istore_n 1, 0) := by decide +kernel
theorem at_440_2 : am_at (am_m 440) 2 = some (.iload_n 1, 0) := by decide +kernel
theorem at_440_3 : am_at (am_m 440) 3 = some (.aload_n 0, 0) := by decide +kernel
theorem at_440_4 : am_at (am_m 440) 4 = some (.getfield 315, 3090) := by decide +kernel
theorem at_440_7 : am_at (am_m 440) 7 = some (.if_icmp .ge 89, 96) := by decide +kernel
theorem at_440_10 : am_at (am_m 440) 10 = some (.aload_n 0, 0) := by decide +kernel
theorem at_440_11 : am_at (am_m 440) 11 = some (.getfield 732, 3167) := by decide +kernel
theorem at_440_14 : am_at (am_m 440) 14 = some (.ifCond .ne 82, 96) := by decide +kernel
theorem at_440_17 : am_at (am_m 440) 17 = some (.aload_n 0, 0) := by decide +kernel
theorem at_440_18 : am_at (am_m 440) 18 = some (.getfield 54, 3094) := by decide +kernel
theorem at_440_21 : am_at (am_m 440) 21 = some (.iload_n 1, 0) := by decide +kernel
theorem at_440_22 : am_at (am_m 440) 22 = some (.iaload, 0) := by decide +kernel
theorem at_440_23 : am_at (am_m 440) 23 = some (.istore_n 2, 0) := by decide +kernel
theorem at_440_24 : am_at (am_m 440) 24 = some (.aload_n 0, 0) := by decide +kernel
theorem at_440_25 : am_at (am_m 440) 25 = some (.getfield 51, 3093) := by decide +kernel
theorem at_440_28 : am_at (am_m 440) 28 = some (.iload_n 1, 0) := by decide +kernel
theorem at_440_29 : am_at (am_m 440) 29 = some (.iaload, 0) := by decide +kernel
theorem at_440_30 : am_at (am_m 440) 30 = some (.ifCond .ne 60, 90) := by decide +kernel
theorem at_440_33 : am_at (am_m 440) 33 = some (.aload_n 0, 0) := by decide +kernel
theorem at_440_34 : am_at (am_m 440) 34 = some (.iload_n 1, 0) := by decide +kernel
theorem at_440_35 : am_at (am_m 440) 35 = some (.iload_n 2, 0) := by decide +kernel
theorem at_440_36 : am_at (am_m 440) 36 = some (.iconst 1, 0) := by decide +kernel
theorem at_440_37 : am_at (am_m 440) 37 = some (.iadd, 0) := by decide +kernel
theorem at_440_38 : am_at (am_m 440) 38 = some (.invokevirtual 744, 441) := by decide +kernel
theorem at_440_41 : am_at (am_m 440) 41 = some (.ifCond .ne 49, 90) := by decide +kernel
theorem at_440_44 : am_at (am_m 440) 44 = some (.aload_n 0, 0) := by decide +kernel
theorem at_440_45 : am_at (am_m 440) 45 = some (.iload_n 1, 0) := by decide +kernel
theorem at_440_46 : am_at (am_m 440) 46 = some (.iload_n 2, 0) := by decide +kernel
theorem at_440_47 : am_at (am_m 440) 47 = some (.iconst 1, 0) := by decide +kernel
theorem at_440_48 : am_at (am_m 440) 48 = some (.isub, 0) := by decide +kernel
theorem at_440_49 : am_at (am_m 440) 49 = some (.invokevirtual 744, 441) := by decide +kernel
theorem at_440_52 : am_at (am_m 440) 52 = some (.ifCond .ne 38, 90) := by decide +kernel
theorem at_440_55 : am_at (am_m 440) 55 = some (.aload_n 0, 0) := by decide +kernel
theorem at_440_56 : am_at (am_m 440) 56 = some (.iload_n 1, 0) := by decide +kernel
theorem at_440_57 : am_at (am_m 440) 57 = some (.iload_n 2, 0) := by decide +kernel
theorem at_440_58 : am_at (am_m 440) 58 = some (.bipush 10, 0) := by decide +kernel
theorem at_440_60 : am_at (am_m 440) 60 = some (.iadd, 0) := by decide +kernel
theorem at_440_61 : am_at (am_m 440) 61 = some (.invokevirtual 744, 441) := by decide +kernel
theorem at_440_64 : am_at (am_m 440) 64 = some (.ifCond .ne 26, 90) := by decide +kernel
theorem at_440_67 : am_at (am_m 440) 67 = some (.aload_n 0, 0) := by decide +kernel
theorem at_440_68 : am_at (am_m 440) 68 = some (.iload_n 1, 0) := by decide +kernel
theorem at_440_69 : am_at (am_m 440) 69 = some (.iload_n 2, 0) := by decide +kernel
theorem at_440_70 : am_at (am_m 440) 70 = some (.bipush 10, 0) := by decide +kernel
theorem at_440_72 : am_at (am_m 440) 72 = some (.isub, 0) := by decide +kernel
theorem at_440_73 : am_at (am_m 440) 73 = some (.invokevirtual 744, 441) := by decide +kernel
theorem at_440_76 : am_at (am_m 440) 76 = some (.ifCond .ne 14, 90) := by decide +kernel
theorem at_440_79 : am_at (am_m 440) 79 = some (.aload_n 0, 0) := by decide +kernel
theorem at_440_80 : am_at (am_m 440) 80 = some (.aload_n 0, 0) := by decide +kernel
theorem at_440_81 : am_at (am_m 440) 81 = some (.iload_n 1, 0) := by decide +kernel
theorem at_440_82 : am_at (am_m 440) 82 = some (.iload_n 2, 0) := by decide +kernel
theorem at_440_83 : am_at (am_m 440) 83 = some (.ineg, 0) := by decide +kernel
theorem at_440_84 : am_at (am_m 440) 84 = some (.invokevirtual 744, 441) := by decide +kernel
theorem at_440_87 : am_at (am_m 440) 87 = some (.putfield 732, 3167) := by decide +kernel
theorem at_440_90 : am_at (am_m 440) 90 = some (.iinc 1 1, 0) := by decide +kernel
theorem at_440_93 : am_at (am_m 440) 93 = some (.goto (-91), 2) := by decide +kernel
theorem at_440_96 : am_at (am_m 440) 96 = some (.return_, 0) := by decide +kernel
theorem at_441_0 : am_at (am_m 441) 0 = some (.iload_n 2, 0) := by decide +kernel
theorem at_441_1 : am_at (am_m 441) 1 = some (.i2l, 0) := by decide +kernel
theorem at_441_2 : am_at (am_m 441) 2 = some (.ldc2_w 735, 61) := by decide +kernel
theorem at_441_5 : am_at (am_m 441) 5 = some (.ldc2_w 737, 62) := by decide +kernel
theorem at_441_8 : am_at (am_m 441) 8 = some (.invokestatic 299, 327) := by decide +kernel
theorem at_441_11 : am_at (am_m 441) 11 = some (.ifCond .eq 13, 24) := by decide +kernel
theorem at_441_14 : am_at (am_m 441) 14 = some (.iload_n 2, 0) := by decide +kernel
theorem at_441_15 : am_at (am_m 441) 15 = some (.aload_n 0, 0) := by decide +kernel
theorem at_441_16 : am_at (am_m 441) 16 = some (.getfield 54, 3094) := by decide +kernel
theorem at_441_19 : am_at (am_m 441) 19 = some (.iload_n 1, 0) := by decide +kernel
theorem at_441_20 : am_at (am_m 441) 20 = some (.iaload, 0) := by decide +kernel
theorem at_441_21 : am_at (am_m 441) 21 = some (.if_icmp .ne 5, 26) := by decide +kernel
theorem at_441_24 : am_at (am_m 441) 24 = some (.iconst 0, 0) := by decide +kernel
theorem at_441_25 : am_at (am_m 441) 25 = some (.ireturn, 0) := by decide +kernel
theorem at_441_26 : am_at (am_m 441) 26 = some (.aload_n 0, 0) := by decide +kernel
theorem at_441_27 : am_at (am_m 441) 27 = some (.invokevirtual 739, 442) := by decide +kernel
theorem at_441_30 : am_at (am_m 441) 30 = some (.aload_n 0, 0) := by decide +kernel
theorem at_441_31 : am_at (am_m 441) 31 = some (.getfield 48, 3089) := by decide +kernel
theorem at_441_34 : am_at (am_m 441) 34 = some (.iload_n 1, 0) := by decide +kernel
theorem at_441_35 : am_at (am_m 441) 35 = some (.iload_n 2, 0) := by decide +kernel
theorem at_441_36 : am_at (am_m 441) 36 = some (.iastore, 0) := by decide +kernel
theorem at_441_37 : am_at (am_m 441) 37 = some (.aload_n 0, 0) := by decide +kernel
theorem at_441_38 : am_at (am_m 441) 38 = some (.invokevirtual 742, 444) := by decide +kernel
theorem at_441_41 : am_at (am_m 441) 41 = some (.ireturn, 0) := by decide +kernel
theorem at_442_0 : am_at (am_m 442) 0 = some (.aload_n 0, 0) := by decide +kernel
theorem at_442_1 : am_at (am_m 442) 1 = some (.aload_n 0, 0) := by decide +kernel
theorem at_442_2 : am_at (am_m 442) 2 = some (.getfield 312, 3092) := by decide +kernel
theorem at_442_5 : am_at (am_m 442) 5 = some (.putfield 303, 3085) := by decide +kernel
theorem at_442_8 : am_at (am_m 442) 8 = some (.aload_n 0, 0) := by decide +kernel
theorem at_442_9 : am_at (am_m 442) 9 = some (.iconst 0, 0) := by decide +kernel
theorem at_442_10 : am_at (am_m 442) 10 = some (.putfield 306, 3086) := by decide +kernel
theorem at_442_13 : am_at (am_m 442) 13 = some (.aload_n 0, 0) := by decide +kernel
theorem at_442_14 : am_at (am_m 442) 14 = some (.aload_n 0, 0) := by decide +kernel
theorem at_442_15 : am_at (am_m 442) 15 = some (.getfield 318, 3091) := by decide +kernel
theorem at_442_18 : am_at (am_m 442) 18 = some (.putfield 309, 3087) := by decide +kernel
theorem at_442_21 : am_at (am_m 442) 21 = some (.aload_n 0, 0) := by decide +kernel
theorem at_442_22 : am_at (am_m 442) 22 = some (.iconst 0, 0) := by decide +kernel
theorem at_442_23 : am_at (am_m 442) 23 = some (.aload_n 0, 0) := by decide +kernel
theorem at_442_24 : am_at (am_m 442) 24 = some (.getfield 315, 3090) := by decide +kernel
theorem at_442_27 : am_at (am_m 442) 27 = some (.invokevirtual 331, 443) := by decide +kernel
theorem at_442_30 : am_at (am_m 442) 30 = some (.return_, 0) := by decide +kernel
theorem at_443_0 : am_at (am_m 443) 0 = some (.iload_n 1, 0) := by decide +kernel
theorem at_443_1 : am_at (am_m 443) 1 = some (.istore_n 3, 0) := by decide +kernel
theorem at_443_2 : am_at (am_m 443) 2 = some (.iload_n 3, 0) := by decide +kernel
theorem at_443_3 : am_at (am_m 443) 3 = some (.iload_n 2, 0) := by decide +kernel
theorem at_443_4 : am_at (am_m 443) 4 = some (.if_icmp .ge 25, 29) := by decide +kernel
theorem at_443_7 : am_at (am_m 443) 7 = some (.aload_n 0, 0) := by decide +kernel
theorem at_443_8 : am_at (am_m 443) 8 = some (.aload_n 0, 0) := by decide +kernel
theorem at_443_9 : am_at (am_m 443) 9 = some (.getfield 51, 3093) := by decide +kernel
theorem at_443_12 : am_at (am_m 443) 12 = some (.iload_n 3, 0) := by decide +kernel
theorem at_443_13 : am_at (am_m 443) 13 = some (.iaload, 0) := by decide +kernel
theorem at_443_14 : am_at (am_m 443) 14 = some (.aload_n 0, 0) := by decide +kernel
theorem at_443_15 : am_at (am_m 443) 15 = some (.getfield 54, 3094) := by decide +kernel
theorem at_443_18 : am_at (am_m 443) 18 = some (.iload_n 3, 0) := by decide +kernel
theorem at_443_19 : am_at (am_m 443) 19 = some (.iaload, 0) := by decide +kernel
theorem at_443_20 : am_at (am_m 443) 20 = some (.invokevirtual 335, 335) := by decide +kernel
theorem at_443_23 : am_at (am_m 443) 23 = some (.iinc 3 1, 0) := by decide +kernel
theorem at_443_26 : am_at (am_m 443) 26 = some (.goto (-24), 2) := by decide +kernel
theorem at_443_29 : am_at (am_m 443) 29 = some (.return_, 0) := by decide +kernel
theorem at_444_0 : am_at (am_m 444) 0 = some (.aload_n 0, 0) := by decide +kernel
theorem at_444_1 : am_at (am_m 444) 1 = some (.invokevirtual 723, 445) := by decide +kernel
theorem at_444_4 : am_at (am_m 444) 4 = some (.ifCond .ne 5, 9) := by decide +kernel
theorem at_444_7 : am_at (am_m 444) 7 = some (.iconst 0, 0) := by decide +kernel
theorem at_444_8 : am_at (am_m 444) 8 = some (.ireturn, 0) := by decide +kernel
theorem at_444_9 : am_at (am_m 444) 9 = some (.aload_n 0, 0) := by decide +kernel
theorem at_444_10 : am_at (am_m 444) 10 = some (.dup, 0) := by decide +kernel
theorem at_444_11 : am_at (am_m 444) 11 = some (.getfield 726, 3166) := by decide +kernel
theorem at_444_14 : am_at (am_m 444) 14 = some (.iconst 1, 0) := by decide +kernel
theorem at_444_15 : am_at (am_m 444) 15 = some (.iadd, 0) := by decide +kernel
theorem at_444_16 : am_at (am_m 444) 16 = some (.putfield 726, 3166) := by decide +kernel
theorem at_444_19 : am_at (am_m 444) 19 = some (.aload_n 0, 0) := by decide +kernel
theorem at_444_20 : am_at (am_m 444) 20 = some (.aload_n 0, 0) := by decide +kernel
theorem at_444_21 : am_at (am_m 444) 21 = some (.getfield 726, 3166) := by decide +kernel
theorem at_444_24 : am_at (am_m 444) 24 = some (.iconst 1, 0) := by decide +kernel
theorem at_444_25 : am_at (am_m 444) 25 = some (.isub, 0) := by decide +kernel
theorem at_444_26 : am_at (am_m 444) 26 = some (.aload_n 0, 0) := by decide +kernel
theorem at_444_27 : am_at (am_m 444) 27 = some (.getfield 729, 3165) := by decide +kernel
theorem at_444_30 : am_at (am_m 444) 30 = some (.if_icmp .ne 7, 37) := by decide +kernel
theorem at_444_33 : am_at (am_m 444) 33 = some (.iconst 1, 0) := by decide +kernel
theorem at_444_34 : am_at (am_m 444) 34 = some (.goto 4, 38) := by decide +kernel
theorem at_444_37 : am_at (am_m 444) 37 = some (.iconst 0, 0) := by decide +kernel
theorem at_444_38 : am_at (am_m 444) 38 = some (.putfield 732, 3167) := by decide +kernel
theorem at_444_41 : am_at (am_m 444) 41 = some (.aload_n 0, 0) := by decide +kernel
theorem at_444_42 : am_at (am_m 444) 42 = some (.getfield 732, 3167) := by decide +kernel
theorem at_444_45 : am_at (am_m 444) 45 = some (.ireturn, 0) := by decide +kernel
theorem at_445_0 : am_at (am_m 445) 0 = some (.aload_n 0, 0) := by decide +kernel
theorem at_445_1 : am_at (am_m 445) 1 = some (.getfield 303, 3085) := by decide +kernel
theorem at_445_4 : am_at (am_m 445) 4 = some (.ifCond .ne 10, 14) := by decide +kernel
theorem at_445_7 : am_at (am_m 445) 7 = some (.aload_n 0, 0) := by decide +kernel
theorem at_445_8 : am_at (am_m 445) 8 = some (.iconst 0, 0) := by decide +kernel
theorem at_445_9 : am_at (am_m 445) 9 = some (.iconst 0, 0) := by decide +kernel
theorem at_445_10 : am_at (am_m 445) 10 = some (.invokevirtual 355, 446) := by decide +kernel
theorem at_445_13 : am_at (am_m 445) 13 = some (.ireturn, 0) := by decide +kernel
theorem at_445_14 : am_at (am_m 445) 14 = some (.aload_n 0, 0) := by decide +kernel
theorem at_445_15 : am_at (am_m 445) 15 = some (.getfield 303, 3085) := by decide +kernel
theorem at_445_18 : am_at (am_m 445) 18 = some (.iconst 1, 0) := by decide +kernel
theorem at_445_19 : am_at (am_m 445) 19 = some (.if_icmp .ne 32, 51) := by decide +kernel
theorem at_445_22 : am_at (am_m 445) 22 = some (.aload_n 0, 0) := by decide +kernel
theorem at_445_23 : am_at (am_m 445) 23 = some (.getfield 306, 3086) := by decide +kernel
theorem at_445_26 : am_at (am_m 445) 26 = some (.i2l, 0) := by decide +kernel
theorem at_445_27 : am_at (am_m 445) 27 = some (.lconst 1, 0) := by decide +kernel
theorem at_445_28 : am_at (am_m 445) 28 = some (.ldc2_w 359, 63) := by decide +kernel
theorem at_445_31 : am_at (am_m 445) 31 = some (.invokestatic 299, 327) := by decide +kernel
theorem at_445_34 : am_at (am_m 445) 34 = some (.ifCond .eq 15, 49) := by decide +kernel
theorem at_445_37 : am_at (am_m 445) 37 = some (.aload_n 0, 0) := by decide +kernel
theorem at_445_38 : am_at (am_m 445) 38 = some (.invokevirtual 361, 347) := by decide +kernel
theorem at_445_41 : am_at (am_m 445) 41 = some (.iconst (-1), 0) := by decide +kernel
theorem at_445_42 : am_at (am_m 445) 42 = some (.if_icmp .ne 7, 49) := by decide +kernel
theorem at_445_45 : am_at (am_m 445) 45 = some (.iconst 1, 0) := by decide +kernel
theorem at_445_46 : am_at (am_m 445) 46 = some (.goto 4, 50) := by decide +kernel
theorem at_445_49 : am_at (am_m 445) 49 = some (.iconst 0, 0) := by decide +kernel
theorem at_445_50 : am_at (am_m 445) 50 = some (.ireturn, 0) := by decide +kernel
theorem at_445_51 : am_at (am_m 445) 51 = some (.aload_n 0, 0) := by decide +kernel
theorem at_445_52 : am_at (am_m 445) 52 = some (.getfield 303, 3085) := by decide +kernel
theorem at_445_55 : am_at (am_m 445) 55 = some (.iconst 2, 0) := by decide +kernel
theorem at_445_56 : am_at (am_m 445) 56 = some (.if_icmp .ne 16, 72) := by decide +kernel
theorem at_445_59 : am_at (am_m 445) 59 = some (.aload_n 0, 0) := by decide +kernel
theorem at_445_60 : am_at (am_m 445) 60 = some (.getfield 306, 3086) := by decide +kernel
theorem at_445_63 : am_at (am_m 445) 63 = some (.i2l, 0) := by decide +kernel
theorem at_445_64 : am_at (am_m 445) 64 = some (.lconst 1, 0) := by decide +kernel
theorem at_445_65 : am_at (am_m 445) 65 = some (.ldc2_w 365, 64) := by decide +kernel
theorem at_445_68 : am_at (am_m 445) 68 = some (.invokestatic 299, 327) := by decide +kernel
theorem at_445_71 : am_at (am_m 445) 71 = some (.ireturn, 0) := by decide +kernel
theorem at_445_72 : am_at (am_m 445) 72 = some (.aload_n 0, 0) := by decide +kernel
theorem at_445_73 : am_at (am_m 445) 73 = some (.getfield 306, 3086) := by decide +kernel
theorem at_445_76 : am_at (am_m 445) 76 = some (.bipush 40, 0) := by decide +kernel
theorem at_445_78 : am_at (am_m 445) 78 = some (.if_icmp .gt 7, 85) := by decide +kernel
theorem at_445_81 : am_at (am_m 445) 81 = some (.iconst 1, 0) := by decide +kernel
theorem at_445_82 : am_at (am_m 445) 82 = some (.goto 4, 86) := by decide +kernel
theorem at_445_85 : am_at (am_m 445) 85 = some (.iconst 0, 0) := by decide +kernel
theorem at_445_86 : am_at (am_m 445) 86 = some (.ireturn, 0) := by decide +kernel
theorem at_446_0 : am_at (am_m 446) 0 = some (.aload_n 0, 0) := by decide +kernel
theorem at_446_1 : am_at (am_m 446) 1 = some (.getfield 306, 3086) := by decide +kernel
theorem at_446_4 : am_at (am_m 446) 4 = some (.bipush 60, 0) := by decide +kernel
theorem at_446_6 : am_at (am_m 446) 6 = some (.if_icmp .le 5, 11) := by decide +kernel
theorem at_446_9 : am_at (am_m 446) 9 = some (.iconst 0, 0) := by decide +kernel
theorem at_446_10 : am_at (am_m 446) 10 = some (.ireturn, 0) := by decide +kernel
theorem at_446_11 : am_at (am_m 446) 11 = some (.iconst 1, 0) := by decide +kernel
theorem at_446_12 : am_at (am_m 446) 12 = some (.istore_n 3, 0) := by decide +kernel
theorem at_446_13 : am_at (am_m 446) 13 = some (.aload_n 0, 0) := by decide +kernel
theorem at_446_14 : am_at (am_m 446) 14 = some (.getfield 69, 3100) := by decide +kernel
theorem at_446_17 : am_at (am_m 446) 17 = some (.iconst 0, 0) := by decide +kernel
theorem at_446_18 : am_at (am_m 446) 18 = some (.iload_n 1, 0) := by decide +kernel
theorem at_446_19 : am_at (am_m 446) 19 = some (.ifCond .eq 7, 26) := by decide +kernel
theorem at_446_22 : am_at (am_m 446) 22 = some (.iconst 1, 0) := by decide +kernel
theorem at_446_23 : am_at (am_m 446) 23 = some (.goto 4, 27) := by decide +kernel
theorem at_446_26 : am_at (am_m 446) 26 = some (.iconst 0, 0) := by decide +kernel
theorem at_446_27 : am_at (am_m 446) 27 = some (.iastore, 0) := by decide +kernel
theorem at_446_28 : am_at (am_m 446) 28 = some (.aload_n 0, 0) := by decide +kernel
theorem at_446_29 : am_at (am_m 446) 29 = some (.getfield 72, 3101) := by decide +kernel
theorem at_446_32 : am_at (am_m 446) 32 = some (.iconst 0, 0) := by decide +kernel
theorem at_446_33 : am_at (am_m 446) 33 = some (.iconst 1, 0) := by decide +kernel
theorem at_446_34 : am_at (am_m 446) 34 = some (.iastore, 0) := by decide +kernel
theorem at_446_35 : am_at (am_m 446) 35 = some (.aload_n 0, 0) := by decide +kernel
theorem at_446_36 : am_at (am_m 446) 36 = some (.getfield 75, 3102) := by decide +kernel
theorem at_446_39 : am_at (am_m 446) 39 = some (.iconst 0, 0) := by decide +kernel
theorem at_446_40 : am_at (am_m 446) 40 = some (.iload_n 2, 0) := by decide +kernel
theorem at_446_41 : am_at (am_m 446) 41 = some (.ifCond .eq 7, 48) := by decide +kernel
theorem at_446_44 : am_at (am_m 446) 44 = some (.iconst 1, 0) := by decide +kernel
theorem at_446_45 : am_at (am_m 446) 45 = some (.goto 4, 49) := by decide +kernel
theorem at_446_48 : am_at (am_m 446) 48 = some (.iconst 0, 0) := by decide +kernel
theorem at_446_49 : am_at (am_m 446) 49 = some (.iastore, 0) := by decide +kernel
theorem at_446_50 : am_at (am_m 446) 50 = some (.iconst 0, 0) := by decide +kernel
theorem at_446_51 : am_at (am_m 446) 51 = some (.istore 4, 0) := by decide +kernel
theorem at_446_53 : am_at (am_m 446) 53 = some (.iload 4, 0) := by decide +kernel
theorem at_446_55 : am_at (am_m 446) 55 = some (.aload_n 0, 0) := by decide +kernel
theorem at_446_56 : am_at (am_m 446) 56 = some (.getfield 306, 3086) := by decide +kernel
theorem at_446_59 : am_at (am_m 446) 59 = some (.if_icmp .ge 195, 254) := by decide +kernel
theorem at_446_62 : am_at (am_m 446) 62 = some (.iinc 3 (-1), 0) := by decide +kernel
theorem at_446_65 : am_at (am_m 446) 65 = some (.aload_n 0, 0) := by decide +kernel
theorem at_446_66 : am_at (am_m 446) 66 = some (.getfield 69, 3100) := by decide +kernel
theorem at_446_69 : am_at (am_m 446) 69 = some (.iload_n 3, 0) := by decide +kernel
theorem at_446_70 : am_at (am_m 446) 70 = some (.iaload, 0) := by decide +kernel
theorem at_446_71 : am_at (am_m 446) 71 = some (.iconst 1, 0) := by decide +kernel
theorem at_446_72 : am_at (am_m 446) 72 = some (.if_icmp .ne 7, 79) := by decide +kernel
theorem at_446_75 : am_at (am_m 446) 75 = some (.iconst 1, 0) := by decide +kernel
theorem at_446_76 : am_at (am_m 446) 76 = some (.goto 4, 80) := by decide +kernel
theorem at_446_79 : am_at (am_m 446) 79 = some (.iconst 0, 0) := by decide +kernel
theorem at_446_80 : am_at (am_m 446) 80 = some (.istore 5, 0) := by decide +kernel
theorem at_446_82 : am_at (am_m 446) 82 = some (.aload_n 0, 0) := by decide +kernel
theorem at_446_83 : am_at (am_m 446) 83 = some (.getfield 72, 3101) := by decide +kernel
theorem at_446_86 : am_at (am_m 446) 86 = some (.iload_n 3, 0) := by decide +kernel
theorem at_446_87 : am_at (am_m 446) 87 = some (.iaload, 0) := by decide +kernel
theorem at_446_88 : am_at (am_m 446) 88 = some (.istore 6, 0) := by decide +kernel
theorem at_446_90 : am_at (am_m 446) 90 = some (.aload_n 0, 0) := by decide +kernel
theorem at_446_91 : am_at (am_m 446) 91 = some (.getfield 75, 3102) := by decide +kernel
theorem at_446_94 : am_at (am_m 446) 94 = some (.iload_n 3, 0) := by decide +kernel
theorem at_446_95 : am_at (am_m 446) 95 = some (.iaload, 0) := by decide +kernel
theorem at_446_96 : am_at (am_m 446) 96 = some (.iconst 1, 0) := by decide +kernel
theorem at_446_97 : am_at (am_m 446) 97 = some (.if_icmp .ne 7, 104) := by decide +kernel
theorem at_446_100 : am_at (am_m 446) 100 = some (.iconst 1, 0) := by decide +kernel
theorem at_446_101 : am_at (am_m 446) 101 = some (.goto 4, 105) := by decide +kernel
theorem at_446_104 : am_at (am_m 446) 104 = some (.iconst 0, 0) := by decide +kernel
theorem at_446_105 : am_at (am_m 446) 105 = some (.istore 7, 0) := by decide +kernel
theorem at_446_107 : am_at (am_m 446) 107 = some (.aload_n 0, 0) := by decide +kernel
theorem at_446_108 : am_at (am_m 446) 108 = some (.getfield 45, 3088) := by decide +kernel
theorem at_446_111 : am_at (am_m 446) 111 = some (.iload 4, 0) := by decide +kernel
theorem at_446_113 : am_at (am_m 446) 113 = some (.iaload, 0) := by decide +kernel
theorem at_446_114 : am_at (am_m 446) 114 = some (.istore 8, 0) := by decide +kernel
theorem at_446_116 : am_at (am_m 446) 116 = some (.iload 8, 0) := by decide +kernel
theorem at_446_118 : am_at (am_m 446) 118 = some (.invokestatic 338, 334) := by decide +kernel
theorem at_446_121 : am_at (am_m 446) 121 = some (.iload 5, 0) := by decide +kernel
theorem at_446_123 : am_at (am_m 446) 123 = some (.if_icmp .ne 40, 163) := by decide +kernel
theorem at_446_126 : am_at (am_m 446) 126 = some (.iload 6, 0) := by decide +kernel
theorem at_446_128 : am_at (am_m 446) 128 = some (.bipush 12, 0) := by decide +kernel
theorem at_446_130 : am_at (am_m 446) 130 = some (.if_icmp .gt 33, 163) := by decide +kernel
theorem at_446_133 : am_at (am_m 446) 133 = some (.iload 7, 0) := by decide +kernel
theorem at_446_135 : am_at (am_m 446) 135 = some (.ifCond .ne 16, 151) := by decide +kernel
theorem at_446_138 : am_at (am_m 446) 138 = some (.iload 8, 0) := by decide +kernel
theorem at_446_140 : am_at (am_m 446) 140 = some (.iconst 5, 0) := by decide +kernel
theorem at_446_141 : am_at (am_m 446) 141 = some (.if_icmp .eq 22, 163) := by decide +kernel
theorem at_446_144 : am_at (am_m 446) 144 = some (.iload 8, 0) := by decide +kernel
theorem at_446_146 : am_at (am_m 446) 146 = some (.bipush 6, 0) := by decide +kernel
theorem at_446_148 : am_at (am_m 446) 148 = some (.if_icmp .eq 15, 163) := by decide +kernel
theorem at_446_151 : am_at (am_m 446) 151 = some (.iload 7, 0) := by decide +kernel
theorem at_446_153 : am_at (am_m 446) 153 = some (.ifCond .eq 12, 165) := by decide +kernel
theorem at_446_156 : am_at (am_m 446) 156 = some (.iload 8, 0) := by decide +kernel
theorem at_446_158 : am_at (am_m 446) 158 = some (.bipush 19, 0) := by decide +kernel
theorem at_446_160 : am_at (am_m 446) 160 = some (.if_icmp .ne 5, 165) := by decide +kernel
theorem at_446_163 : am_at (am_m 446) 163 = some (.iconst 0, 0) := by decide +kernel
theorem at_446_164 : am_at (am_m 446) 164 = some (.ireturn, 0) := by decide +kernel
theorem at_446_165 : am_at (am_m 446) 165 = some (.iload 8, 0) := by decide +kernel
theorem at_446_167 : am_at (am_m 446) 167 = some (.invokestatic 327, 343) := by decide +kernel
theorem at_446_170 : am_at (am_m 446) 170 = some (.iconst 1, 0) := by decide +kernel
theorem at_446_171 : am_at (am_m 446) 171 = some (.isub, 0) := by decide +kernel
theorem at_446_172 : am_at (am_m 446) 172 = some (.istore 9, 0) := by decide +kernel
theorem at_446_174 : am_at (am_m 446) 174 = some (.iload 9, 0) := by decide +kernel
theorem at_446_176 : am_at (am_m 446) 176 = some (.ifCond .lt 72, 248) := by decide +kernel
theorem at_446_179 : am_at (am_m 446) 179 = some (.aload_n 0, 0) := by decide +kernel
theorem at_446_180 : am_at (am_m 446) 180 = some (.getfield 69, 3100) := by decide +kernel
theorem at_446_183 : am_at (am_m 446) 183 = some (.iload_n 3, 0) := by decide +kernel
theorem at_446_184 : am_at (am_m 446) 184 = some (.iload 8, 0) := by decide +kernel
theorem at_446_186 : am_at (am_m 446) 186 = some (.iload 9, 0) := by decide +kernel
theorem at_446_188 : am_at (am_m 446) 188 = some (.invokestatic 342, 330) := by decide +kernel
theorem at_446_191 : am_at (am_m 446) 191 = some (.ifCond .eq 7, 198) := by decide +kernel
theorem at_446_194 : am_at (am_m 446) 194 = some (.iconst 1, 0) := by decide +kernel
theorem at_446_195 : am_at (am_m 446) 195 = some (.goto 4, 199) := by decide +kernel
theorem at_446_198 : am_at (am_m 446) 198 = some (.iconst 0, 0) := by decide +kernel
theorem at_446_199 : am_at (am_m 446) 199 = some (.iastore, 0) := by decide +kernel
theorem at_446_200 : am_at (am_m 446) 200 = some (.aload_n 0, 0) := by decide +kernel
theorem at_446_201 : am_at (am_m 446) 201 = some (.getfield 72, 3101) := by decide +kernel
theorem at_446_204 : am_at (am_m 446) 204 = some (.iload_n 3, 0) := by decide +kernel
theorem at_446_205 : am_at (am_m 446) 205 = some (.iload 6, 0) := by decide +kernel
theorem at_446_207 : am_at (am_m 446) 207 = some (.iconst 1, 0) := by decide +kernel
theorem at_446_208 : am_at (am_m 446) 208 = some (.iadd, 0) := by decide +kernel
theorem at_446_209 : am_at (am_m 446) 209 = some (.iastore, 0) := by decide +kernel
theorem at_446_210 : am_at (am_m 446) 210 = some (.aload_n 0, 0) := by decide +kernel
theorem at_446_211 : am_at (am_m 446) 211 = some (.getfield 75, 3102) := by decide +kernel
theorem at_446_214 : am_at (am_m 446) 214 = some (.iload_n 3, 0) := by decide +kernel
theorem at_446_215 : am_at (am_m 446) 215 = some (.iload 7, 0) := by decide +kernel
theorem at_446_217 : am_at (am_m 446) 217 = some (.ifCond .ne 16, 233) := by decide +kernel
theorem at_446_220 : am_at (am_m 446) 220 = some (.iload 8, 0) := by decide +kernel
theorem at_446_222 : am_at (am_m 446) 222 = some (.bipush 19, 0) := by decide +kernel
theorem at_446_224 : am_at (am_m 446) 224 = some (.if_icmp .ne 13, 237) := by decide +kernel
theorem at_446_227 : am_at (am_m 446) 227 = some (.iload 9, 0) := by decide +kernel
theorem at_446_229 : am_at (am_m 446) 229 = some (.iconst 1, 0) := by decide +kernel
theorem at_446_230 : am_at (am_m 446) 230 = some (.if_icmp .ne 7, 237) := by decide +kernel
theorem at_446_233 : am_at (am_m 446) 233 = some (.iconst 1, 0) := by decide +kernel
theorem at_446_234 : am_at (am_m 446) 234 = some (.goto 4, 238) := by decide +kernel
theorem at_446_237 : am_at (am_m 446) 237 = some (.iconst 0, 0) := by decide +kernel
theorem at_446_238 : am_at (am_m 446) 238 = some (.iastore, 0) := by decide +kernel
theorem at_446_239 : am_at (am_m 446) 239 = some (.iinc 3 1, 0) := by decide +kernel
theorem at_446_242 : am_at (am_m 446) 242 = some (.iinc 9 (-1), 0) := by decide +kernel
theorem at_446_245 : am_at (am_m 446) 245 = some (.goto (-71), 174) := by decide +kernel
theorem at_446_248 : am_at (am_m 446) 248 = some (.iinc 4 1, 0) := by decide +kernel
theorem at_446_251 : am_at (am_m 446) 251 = some (.goto (-198), 53) := by decide +kernel
theorem at_446_254 : am_at (am_m 446) 254 = some (.iload_n 3, 0) := by decide +kernel
theorem at_446_255 : am_at (am_m 446) 255 = some (.ifCond .ne 7, 262) := by decide +kernel
theorem at_446_258 : am_at (am_m 446) 258 = some (.iconst 1, 0) := by decide +kernel
theorem at_446_259 : am_at (am_m 446) 259 = some (.goto 4, 263) := by decide +kernel
theorem at_446_262 : am_at (am_m 446) 262 = some (.iconst 0, 0) := by decide +kernel
theorem at_446_263 : am_at (am_m 446) 263 = some (.ireturn, 0) := by decide +kernel
theorem at_447_0 : am_at (am_m 447) 0 = some (.iconst 0, 0) := by decide +kernel
theorem at_447_1 : am_at (am_m 447) 1 = some (.istore_n 1, 0) := by decide +kernel
theorem at_447_2 : am_at (am_m 447) 2 = some (.iload_n 1, 0) := by decide +kernel
theorem at_447_3 : am_at (am_m 447) 3 = some (.aload_n 0, 0) := by decide +kernel
theorem at_447_4 : am_at (am_m 447) 4 = some (.getfield 315, 3090) := by decide +kernel
theorem at_447_7 : am_at (am_m 447) 7 = some (.if_icmp .ge 97, 104) := by decide +kernel
theorem at_447_10 : am_at (am_m 447) 10 = some (.aload_n 0, 0) := by decide +kernel
theorem at_447_11 : am_at (am_m 447) 11 = some (.getfield 732, 3167) := by decide +kernel
theorem at_447_14 : am_at (am_m 447) 14 = some (.ifCond .ne 90, 104) := by decide +kernel
theorem at_447_17 : am_at (am_m 447) 17 = some (.iconst 0, 0) := by decide +kernel
theorem at_447_18 : am_at (am_m 447) 18 = some (.istore_n 2, 0) := by decide +kernel
theorem at_447_19 : am_at (am_m 447) 19 = some (.iload_n 2, 0) := by decide +kernel
theorem at_447_20 : am_at (am_m 447) 20 = some (.bipush 21, 0) := by decide +kernel
theorem at_447_22 : am_at (am_m 447) 22 = some (.if_icmp .ge 76, 98) := by decide +kernel
theorem at_447_25 : am_at (am_m 447) 25 = some (.aload_n 0, 0) := by decide +kernel
theorem at_447_26 : am_at (am_m 447) 26 = some (.getfield 732, 3167) := by decide +kernel
theorem at_447_29 : am_at (am_m 447) 29 = some (.ifCond .ne 69, 98) := by decide +kernel
theorem at_447_32 : am_at (am_m 447) 32 = some (.iload_n 2, 0) := by decide +kernel
theorem at_447_33 : am_at (am_m 447) 33 = some (.aload_n 0, 0) := by decide +kernel
theorem at_447_34 : am_at (am_m 447) 34 = some (.getfield 51, 3093) := by decide +kernel
theorem at_447_37 : am_at (am_m 447) 37 = some (.iload_n 1, 0) := by decide +kernel
theorem at_447_38 : am_at (am_m 447) 38 = some (.iaload, 0) := by decide +kernel
theorem at_447_39 : am_at (am_m 447) 39 = some (.if_icmp .eq 53, 92) := by decide +kernel
theorem at_447_42 : am_at (am_m 447) 42 = some (.iload_n 2, 0) := by decide +kernel
theorem at_447_43 : am_at (am_m 447) 43 = some (.aload_n 0, 0) := by decide +kernel
theorem at_447_44 : am_at (am_m 447) 44 = some (.getfield 51, 3093) := by decide +kernel
theorem at_447_47 : am_at (am_m 447) 47 = some (.iload_n 1, 0) := by decide +kernel
theorem at_447_48 : am_at (am_m 447) 48 = some (.iaload, 0) := by decide +kernel
theorem at_447_49 : am_at (am_m 447) 49 = some (.invokestatic 750, 448) := by decide +kernel
theorem at_447_52 : am_at (am_m 447) 52 = some (.ifCond .ne 6, 58) := by decide +kernel
theorem at_447_55 : am_at (am_m 447) 55 = some (.goto 37, 92) := by decide +kernel
theorem at_447_58 : am_at (am_m 447) 58 = some (.aload_n 0, 0) := by decide +kernel
theorem at_447_59 : am_at (am_m 447) 59 = some (.invokevirtual 739, 442) := by decide +kernel
theorem at_447_62 : am_at (am_m 447) 62 = some (.aload_n 0, 0) := by decide +kernel
theorem at_447_63 : am_at (am_m 447) 63 = some (.getfield 45, 3088) := by decide +kernel
theorem at_447_66 : am_at (am_m 447) 66 = some (.iload_n 1, 0) := by decide +kernel
theorem at_447_67 : am_at (am_m 447) 67 = some (.iload_n 2, 0) := by decide +kernel
theorem at_447_68 : am_at (am_m 447) 68 = some (.iastore, 0) := by decide +kernel
theorem at_447_69 : am_at (am_m 447) 69 = some (.aload_n 0, 0) := by decide +kernel
theorem at_447_70 : am_at (am_m 447) 70 = some (.getfield 48, 3089) := by decide +kernel
theorem at_447_73 : am_at (am_m 447) 73 = some (.iload_n 1, 0) := by decide +kernel
theorem at_447_74 : am_at (am_m 447) 74 = some (.iload_n 2, 0) := by decide +kernel
theorem at_447_75 : am_at (am_m 447) 75 = some (.ifCond .ne 7, 82) := by decide +kernel
theorem at_447_78 : am_at (am_m 447) 78 = some (.iconst 1, 0) := by decide +kernel
theorem at_447_79 : am_at (am_m 447) 79 = some (.goto 4, 83) := by decide +kernel
theorem at_447_82 : am_at (am_m 447) 82 = some (.iconst 0, 0) := by decide +kernel
theorem at_447_83 : am_at (am_m 447) 83 = some (.iastore, 0) := by decide +kernel
theorem at_447_84 : am_at (am_m 447) 84 = some (.aload_n 0, 0) := by decide +kernel
theorem at_447_85 : am_at (am_m 447) 85 = some (.aload_n 0, 0) := by decide +kernel
theorem at_447_86 : am_at (am_m 447) 86 = some (.invokevirtual 742, 444) := by decide +kernel
theorem at_447_89 : am_at (am_m 447) 89 = some (.putfield 732, 3167) := by decide +kernel
theorem at_447_92 : am_at (am_m 447) 92 = some (.iinc 2 1, 0) := by decide +kernel
theorem at_447_95 : am_at (am_m 447) 95 = some (.goto (-76), 19) := by decide +kernel
theorem at_447_98 : am_at (am_m 447) 98 = some (.iinc 1 1, 0) := by decide +kernel
theorem at_447_101 : am_at (am_m 447) 101 = some (.goto (-99), 2) := by decide +kernel
theorem at_447_104 : am_at (am_m 447) 104 = some (.return_, 0) := by decide +kernel
theorem at_448_0 : am_at (am_m 448) 0 = some (.iload_n 0, 0) := by decide +kernel
theorem at_448_1 : am_at (am_m 448) 1 = some (.invokestatic 327, 343) := by decide +kernel
theorem at_448_4 : am_at (am_m 448) 4 = some (.iload_n 1, 0) := by decide +kernel
theorem at_448_5 : am_at (am_m 448) 5 = some (.invokestatic 327, 343) := by decide +kernel
theorem at_448_8 : am_at (am_m 448) 8 = some (.if_icmp .ne 18, 26) := by decide +kernel
theorem at_448_11 : am_at (am_m 448) 11 = some (.iload_n 0, 0) := by decide +kernel
theorem at_448_12 : am_at (am_m 448) 12 = some (.invokestatic 338, 334) := by decide +kernel
theorem at_448_15 : am_at (am_m 448) 15 = some (.iload_n 1, 0) := by decide +kernel
theorem at_448_16 : am_at (am_m 448) 16 = some (.invokestatic 338, 334) := by decide +kernel
theorem at_448_19 : am_at (am_m 448) 19 = some (.if_icmp .ne 7, 26) := by decide +kernel
theorem at_448_22 : am_at (am_m 448) 22 = some (.iconst 1, 0) := by decide +kernel
theorem at_448_23 : am_at (am_m 448) 23 = some (.goto 4, 27) := by decide +kernel
theorem at_448_26 : am_at (am_m 448) 26 = some (.iconst 0, 0) := by decide +kernel
theorem at_448_27 : am_at (am_m 448) 27 = some (.istore_n 2, 0) := by decide +kernel
theorem at_448_28 : am_at (am_m 448) 28 = some (.iconst 0, 0) := by decide +kernel
theorem at_448_29 : am_at (am_m 448) 29 = some (.istore_n 3, 0) := by decide +kernel
theorem at_448_30 : am_at (am_m 448) 30 = some (.iload_n 3, 0) := by decide +kernel
theorem at_448_31 : am_at (am_m 448) 31 = some (.iload_n 0, 0) := by decide +kernel
theorem at_448_32 : am_at (am_m 448) 32 = some (.invokestatic 327, 343) := by decide +kernel
theorem at_448_35 : am_at (am_m 448) 35 = some (.if_icmp .ge 32, 67) := by decide +kernel
theorem at_448_38 : am_at (am_m 448) 38 = some (.iload_n 2, 0) := by decide +kernel
theorem at_448_39 : am_at (am_m 448) 39 = some (.ifCond .eq 20, 59) := by decide +kernel
theorem at_448_42 : am_at (am_m 448) 42 = some (.iload_n 0, 0) := by decide +kernel
theorem at_448_43 : am_at (am_m 448) 43 = some (.iload_n 3, 0) := by decide +kernel
theorem at_448_44 : am_at (am_m 448) 44 = some (.invokestatic 342, 330) := by decide +kernel
theorem at_448_47 : am_at (am_m 448) 47 = some (.iload_n 1, 0) := by decide +kernel
theorem at_448_48 : am_at (am_m 448) 48 = some (.iload_n 3, 0) := by decide +kernel
theorem at_448_49 : am_at (am_m 448) 49 = some (.invokestatic 342, 330) := by decide +kernel
theorem at_448_52 : am_at (am_m 448) 52 = some (.if_icmp .ne 7, 59) := by decide +kernel
theorem at_448_55 : am_at (am_m 448) 55 = some (.iconst 1, 0) := by decide +kernel
theorem at_448_56 : am_at (am_m 448) 56 = some (.goto 4, 60) := by decide +kernel
theorem at_448_59 : am_at (am_m 448) 59 = some (.iconst 0, 0) := by decide +kernel
theorem at_448_60 : am_at (am_m 448) 60 = some (.istore_n 2, 0) := by decide +kernel
theorem at_448_61 : am_at (am_m 448) 61 = some (.iinc 3 1, 0) := by decide +kernel
theorem at_448_64 : am_at (am_m 448) 64 = some (.goto (-34), 30) := by decide +kernel
theorem at_448_67 : am_at (am_m 448) 67 = some (.iload_n 2, 0) := by decide +kernel
theorem at_448_68 : am_at (am_m 448) 68 = some (.ireturn, 0) := by decide +kernel
theorem at_449_0 : am_at (am_m 449) 0 = some (.iconst 0, 0) := by decide +kernel
theorem at_449_1 : am_at (am_m 449) 1 = some (.istore_n 1, 0) := by decide +kernel
theorem at_449_2 : am_at (am_m 449) 2 = some (.iload_n 1, 0) := by decide +kernel
theorem at_449_3 : am_at (am_m 449) 3 = some (.aload_n 0, 0) := by decide +kernel
theorem at_449_4 : am_at (am_m 449) 4 = some (.getfield 315, 3090) := by decide +kernel
theorem at_449_7 : am_at (am_m 449) 7 = some (.if_icmp .ge 47, 54) := by decide +kernel
theorem at_449_10 : am_at (am_m 449) 10 = some (.aload_n 0, 0) := by decide +kernel
theorem at_449_11 : am_at (am_m 449) 11 = some (.getfield 732, 3167) := by decide +kernel
theorem at_449_14 : am_at (am_m 449) 14 = some (.ifCond .ne 40, 54) := by decide +kernel
theorem at_449_17 : am_at (am_m 449) 17 = some (.aload_n 0, 0) := by decide +kernel
theorem at_449_18 : am_at (am_m 449) 18 = some (.iload_n 1, 0) := by decide +kernel
theorem at_449_19 : am_at (am_m 449) 19 = some (.iconst 0, 0) := by decide +kernel
theorem at_449_20 : am_at (am_m 449) 20 = some (.iconst 0, 0) := by decide +kernel
theorem at_449_21 : am_at (am_m 449) 21 = some (.invokevirtual 756, 450) := by decide +kernel
theorem at_449_24 : am_at (am_m 449) 24 = some (.ifCond .ne 24, 48) := by decide +kernel
theorem at_449_27 : am_at (am_m 449) 27 = some (.aload_n 0, 0) := by decide +kernel
theorem at_449_28 : am_at (am_m 449) 28 = some (.iload_n 1, 0) := by decide +kernel
theorem at_449_29 : am_at (am_m 449) 29 = some (.iconst 1, 0) := by decide +kernel
theorem at_449_30 : am_at (am_m 449) 30 = some (.iconst 0, 0) := by decide +kernel
theorem at_449_31 : am_at (am_m 449) 31 = some (.invokevirtual 756, 450) := by decide +kernel
theorem at_449_34 : am_at (am_m 449) 34 = some (.ifCond .ne 14, 48) := by decide +kernel
theorem at_449_37 : am_at (am_m 449) 37 = some (.aload_n 0, 0) := by decide +kernel
theorem at_449_38 : am_at (am_m 449) 38 = some (.aload_n 0, 0) := by decide +kernel
theorem at_449_39 : am_at (am_m 449) 39 = some (.iload_n 1, 0) := by decide +kernel
theorem at_449_40 : am_at (am_m 449) 40 = some (.iconst 0, 0) := by decide +kernel
theorem at_449_41 : am_at (am_m 449) 41 = some (.iconst 1, 0) := by decide +kernel
theorem at_449_42 : am_at (am_m 449) 42 = some (.invokevirtual 756, 450) := by decide +kernel
theorem at_449_45 : am_at (am_m 449) 45 = some (.putfield 732, 3167) := by decide +kernel
theorem at_449_48 : am_at (am_m 449) 48 = some (.iinc 1 1, 0) := by decide +kernel
theorem at_449_51 : am_at (am_m 449) 51 = some (.goto (-49), 2) := by decide +kernel
theorem at_449_54 : am_at (am_m 449) 54 = some (.return_, 0) := by decide +kernel
theorem at_450_0 : am_at (am_m 450) 0 = some (.aload_n 0, 0) := by decide +kernel
theorem at_450_1 : am_at (am_m 450) 1 = some (.getfield 51, 3093) := by decide +kernel
theorem at_450_4 : am_at (am_m 450) 4 = some (.iload_n 1, 0) := by decide +kernel
theorem at_450_5 : am_at (am_m 450) 5 = some (.iaload, 0) := by decide +kernel
theorem at_450_6 : am_at (am_m 450) 6 = some (.invokestatic 338, 334) := by decide +kernel
theorem at_450_9 : am_at (am_m 450) 9 = some (.ifCond .ne 23, 32) := by decide +kernel
theorem at_450_12 : am_at (am_m 450) 12 = some (.aload_n 0, 0) := by decide +kernel
theorem at_450_13 : am_at (am_m 450) 13 = some (.getfield 51, 3093) := by decide +kernel
theorem at_450_16 : am_at (am_m 450) 16 = some (.iload_n 1, 0) := by decide +kernel
theorem at_450_17 : am_at (am_m 450) 17 = some (.iaload, 0) := by decide +kernel
theorem at_450_18 : am_at (am_m 450) 18 = some (.iload_n 2, 0) := by decide +kernel
theorem at_450_19 : am_at (am_m 450) 19 = some (.if_icmp .ne 15, 34) := by decide +kernel
theorem at_450_22 : am_at (am_m 450) 22 = some (.aload_n 0, 0) := by decide +kernel
theorem at_450_23 : am_at (am_m 450) 23 = some (.getfield 54, 3094) := by decide +kernel
theorem at_450_26 : am_at (am_m 450) 26 = some (.iload_n 1, 0) := by decide +kernel
theorem at_450_27 : am_at (am_m 450) 27 = some (.iaload, 0) := by decide +kernel
theorem at_450_28 : am_at (am_m 450) 28 = some (.iload_n 3, 0) := by decide +kernel
theorem at_450_29 : am_at (am_m 450) 29 = some (.if_icmp .ne 5, 34) := by decide +kernel
theorem at_450_32 : am_at (am_m 450) 32 = some (.iconst 0, 0) := by decide +kernel
theorem at_450_33 : am_at (am_m 450) 33 = some (.ireturn, 0) := by decide +kernel
theorem at_450_34 : am_at (am_m 450) 34 = some (.aload_n 0, 0) := by decide +kernel
theorem at_450_35 : am_at (am_m 450) 35 = some (.invokevirtual 753, 451) := by decide +kernel
theorem at_450_38 : am_at (am_m 450) 38 = some (.aload_n 0, 0) := by decide +kernel
theorem at_450_39 : am_at (am_m 450) 39 = some (.iconst 0, 0) := by decide +kernel
theorem at_450_40 : am_at (am_m 450) 40 = some (.iload_n 1, 0) := by decide +kernel
theorem at_450_41 : am_at (am_m 450) 41 = some (.invokevirtual 331, 443) := by decide +kernel
theorem at_450_44 : am_at (am_m 450) 44 = some (.aload_n 0, 0) := by decide +kernel
theorem at_450_45 : am_at (am_m 450) 45 = some (.iload_n 2, 0) := by decide +kernel
theorem at_450_46 : am_at (am_m 450) 46 = some (.iload_n 3, 0) := by decide +kernel
theorem at_450_47 : am_at (am_m 450) 47 = some (.invokevirtual 335, 335) := by decide +kernel
theorem at_450_50 : am_at (am_m 450) 50 = some (.aload_n 0, 0) := by decide +kernel
theorem at_450_51 : am_at (am_m 450) 51 = some (.iload_n 1, 0) := by decide +kernel
theorem at_450_52 : am_at (am_m 450) 52 = some (.aload_n 0, 0) := by decide +kernel
theorem at_450_53 : am_at (am_m 450) 53 = some (.getfield 63, 3098) := by decide +kernel
theorem at_450_56 : am_at (am_m 450) 56 = some (.iload_n 1, 0) := by decide +kernel
theorem at_450_57 : am_at (am_m 450) 57 = some (.iaload, 0) := by decide +kernel
theorem at_450_58 : am_at (am_m 450) 58 = some (.iadd, 0) := by decide +kernel
theorem at_450_59 : am_at (am_m 450) 59 = some (.aload_n 0, 0) := by decide +kernel
theorem at_450_60 : am_at (am_m 450) 60 = some (.getfield 315, 3090) := by decide +kernel
theorem at_450_63 : am_at (am_m 450) 63 = some (.invokevirtual 331, 443) := by decide +kernel
theorem at_450_66 : am_at (am_m 450) 66 = some (.aload_n 0, 0) := by decide +kernel
theorem at_450_67 : am_at (am_m 450) 67 = some (.invokevirtual 742, 444) := by decide +kernel
theorem at_450_70 : am_at (am_m 450) 70 = some (.ireturn, 0) := by decide +kernel
theorem at_451_0 : am_at (am_m 451) 0 = some (.aload_n 0, 0) := by decide +kernel
theorem at_451_1 : am_at (am_m 451) 1 = some (.aload_n 0, 0) := by decide +kernel
theorem at_451_2 : am_at (am_m 451) 2 = some (.getfield 312, 3092) := by decide +kernel
theorem at_451_5 : am_at (am_m 451) 5 = some (.putfield 303, 3085) := by decide +kernel
theorem at_451_8 : am_at (am_m 451) 8 = some (.aload_n 0, 0) := by decide +kernel
theorem at_451_9 : am_at (am_m 451) 9 = some (.aload_n 0, 0) := by decide +kernel
theorem at_451_10 : am_at (am_m 451) 10 = some (.getfield 318, 3091) := by decide +kernel
theorem at_451_13 : am_at (am_m 451) 13 = some (.putfield 309, 3087) := by decide +kernel
theorem at_451_16 : am_at (am_m 451) 16 = some (.aload_n 0, 0) := by decide +kernel
theorem at_451_17 : am_at (am_m 451) 17 = some (.iconst 0, 0) := by decide +kernel
theorem at_451_18 : am_at (am_m 451) 18 = some (.putfield 306, 3086) := by decide +kernel
theorem at_451_21 : am_at (am_m 451) 21 = some (.return_, 0) := by decide +kernel
theorem at_452_0 : am_at (am_m 452) 0 = some (.iconst 0, 0) := by decide +kernel
theorem at_452_1 : am_at (am_m 452) 1 = some (.istore_n 1, 0) := by decide +kernel
theorem at_452_2 : am_at (am_m 452) 2 = some (.iload_n 1, 0) := by decide +kernel
theorem at_452_3 : am_at (am_m 452) 3 = some (.aload_n 0, 0) := by decide +kernel
theorem at_452_4 : am_at (am_m 452) 4 = some (.getfield 315, 3090) := by decide +kernel
theorem at_452_7 : am_at (am_m 452) 7 = some (.if_icmp .ge 123, 130) := by decide +kernel
theorem at_452_10 : am_at (am_m 452) 10 = some (.aload_n 0, 0) := by decide +kernel
theorem at_452_11 : am_at (am_m 452) 11 = some (.getfield 732, 3167) := by decide +kernel
theorem at_452_14 : am_at (am_m 452) 14 = some (.ifCond .ne 116, 130) := by decide +kernel
theorem at_452_17 : am_at (am_m 452) 17 = some (.iconst 0, 0) := by decide +kernel
theorem at_452_18 : am_at (am_m 452) 18 = some (.istore_n 2, 0) := by decide +kernel
theorem at_452_19 : am_at (am_m 452) 19 = some (.iload_n 2, 0) := by decide +kernel
theorem at_452_20 : am_at (am_m 452) 20 = some (.aload_n 0, 0) := by decide +kernel
theorem at_452_21 : am_at (am_m 452) 21 = some (.getfield 51, 3093) := by decide +kernel
theorem at_452_24 : am_at (am_m 452) 24 = some (.iload_n 1, 0) := by decide +kernel
theorem at_452_25 : am_at (am_m 452) 25 = some (.iaload, 0) := by decide +kernel
theorem at_452_26 : am_at (am_m 452) 26 = some (.invokestatic 327, 343) := by decide +kernel
theorem at_452_29 : am_at (am_m 452) 29 = some (.if_icmp .ge 95, 124) := by decide +kernel
theorem at_452_32 : am_at (am_m 452) 32 = some (.aload_n 0, 0) := by decide +kernel
theorem at_452_33 : am_at (am_m 452) 33 = some (.getfield 732, 3167) := by decide +kernel
theorem at_452_36 : am_at (am_m 452) 36 = some (.ifCond .ne 88, 124) := by decide +kernel
theorem at_452_39 : am_at (am_m 452) 39 = some (.aload_n 0, 0) := by decide +kernel
theorem at_452_40 : am_at (am_m 452) 40 = some (.getfield 51, 3093) := by decide +kernel
theorem at_452_43 : am_at (am_m 452) 43 = some (.iload_n 1, 0) := by decide +kernel
theorem at_452_44 : am_at (am_m 452) 44 = some (.iaload, 0) := by decide +kernel
theorem at_452_45 : am_at (am_m 452) 45 = some (.iload_n 2, 0) := by decide +kernel
theorem at_452_46 : am_at (am_m 452) 46 = some (.invokestatic 342, 330) := by decide +kernel
theorem at_452_49 : am_at (am_m 452) 49 = some (.aload_n 0, 0) := by decide +kernel
theorem at_452_50 : am_at (am_m 452) 50 = some (.getfield 51, 3093) := by decide +kernel
theorem at_452_53 : am_at (am_m 452) 53 = some (.iload_n 1, 0) := by decide +kernel
theorem at_452_54 : am_at (am_m 452) 54 = some (.iaload, 0) := by decide +kernel
theorem at_452_55 : am_at (am_m 452) 55 = some (.invokestatic 338, 334) := by decide +kernel
theorem at_452_58 : am_at (am_m 452) 58 = some (.if_icmp .eq 6, 64) := by decide +kernel
theorem at_452_61 : am_at (am_m 452) 61 = some (.goto 57, 118) := by decide +kernel
theorem at_452_64 : am_at (am_m 452) 64 = some (.aload_n 0, 0) := by decide +kernel
theorem at_452_65 : am_at (am_m 452) 65 = some (.iload_n 1, 0) := by decide +kernel
theorem at_452_66 : am_at (am_m 452) 66 = some (.iload_n 2, 0) := by decide +kernel
theorem at_452_67 : am_at (am_m 452) 67 = some (.invokevirtual 642, 393) := by decide +kernel
theorem at_452_70 : am_at (am_m 452) 70 = some (.istore_n 3, 0) := by decide +kernel
theorem at_452_71 : am_at (am_m 452) 71 = some (.aload_n 0, 0) := by decide +kernel
theorem at_452_72 : am_at (am_m 452) 72 = some (.invokevirtual 753, 451) := by decide +kernel
theorem at_452_75 : am_at (am_m 452) 75 = some (.aload_n 0, 0) := by decide +kernel
theorem at_452_76 : am_at (am_m 452) 76 = some (.iconst 0, 0) := by decide +kernel
theorem at_452_77 : am_at (am_m 452) 77 = some (.iload_n 1, 0) := by decide +kernel
theorem at_452_78 : am_at (am_m 452) 78 = some (.invokevirtual 331, 443) := by decide +kernel
theorem at_452_81 : am_at (am_m 452) 81 = some (.aload_n 0, 0) := by decide +kernel
theorem at_452_82 : am_at (am_m 452) 82 = some (.iload_n 3, 0) := by decide +kernel
theorem at_452_83 : am_at (am_m 452) 83 = some (.iload_n 3, 0) := by decide +kernel
theorem at_452_84 : am_at (am_m 452) 84 = some (.aload_n 0, 0) := by decide +kernel
theorem at_452_85 : am_at (am_m 452) 85 = some (.getfield 63, 3098) := by decide +kernel
theorem at_452_88 : am_at (am_m 452) 88 = some (.iload_n 3, 0) := by decide +kernel
theorem at_452_89 : am_at (am_m 452) 89 = some (.iaload, 0) := by decide +kernel
theorem at_452_90 : am_at (am_m 452) 90 = some (.iadd, 0) := by decide +kernel
theorem at_452_91 : am_at (am_m 452) 91 = some (.invokevirtual 331, 443) := by decide +kernel
theorem at_452_94 : am_at (am_m 452) 94 = some (.aload_n 0, 0) := by decide +kernel
theorem at_452_95 : am_at (am_m 452) 95 = some (.iload_n 1, 0) := by decide +kernel
theorem at_452_96 : am_at (am_m 452) 96 = some (.aload_n 0, 0) := by decide +kernel
theorem at_452_97 : am_at (am_m 452) 97 = some (.getfield 63, 3098) := by decide +kernel
theorem at_452_100 : am_at (am_m 452) 100 = some (.iload_n 1, 0) := by decide +kernel
theorem at_452_101 : am_at (am_m 452) 101 = some (.iaload, 0) := by decide +kernel
theorem at_452_102 : am_at (am_m 452) 102 = some (.iadd, 0) := by decide +kernel
theorem at_452_103 : am_at (am_m 452) 103 = some (.aload_n 0, 0) := by decide +kernel
theorem at_452_104 : am_at (am_m 452) 104 = some (.getfield 315, 3090) := by decide +kernel
theorem at_452_107 : am_at (am_m 452) 107 = some (.invokevirtual 331, 443) := by decide +kernel
theorem at_452_110 : am_at (am_m 452) 110 = some (.aload_n 0, 0) := by decide +kernel
theorem at_452_111 : am_at (am_m 452) 111 = some (.aload_n 0, 0) := by decide +kernel
theorem at_452_112 : am_at (am_m 452) 112 = some (.invokevirtual 742, 444) := by decide +kernel
theorem at_452_115 : am_at (am_m 452) 115 = some (.putfield 732, 3167) := by decide +kernel
theorem at_452_118 : am_at (am_m 452) 118 = some (.iinc 2 1, 0) := by decide +kernel
theorem at_452_121 : am_at (am_m 452) 121 = some (.goto (-102), 19) := by decide +kernel
theorem at_452_124 : am_at (am_m 452) 124 = some (.iinc 1 1, 0) := by decide +kernel
theorem at_452_127 : am_at (am_m 452) 127 = some (.goto (-125), 2) := by decide +kernel
theorem at_452_130 : am_at (am_m 452) 130 = some (.return_, 0) := by decide +kernel
theorem at_453_0 : am_at (am_m 453) 0 = some (.iconst 0, 0) := by decide +kernel
theorem at_453_1 : am_at (am_m 453) 1 = some (.istore_n 1, 0) := by decide +kernel
theorem at_453_2 : am_at (am_m 453) 2 = some (.iload_n 1, 0) := by decide +kernel
theorem at_453_3 : am_at (am_m 453) 3 = some (.aload_n 0, 0) := by decide +kernel
theorem at_453_4 : am_at (am_m 453) 4 = some (.getfield 315, 3090) := by decide +kernel
theorem at_453_7 : am_at (am_m 453) 7 = some (.if_icmp .ge 100, 107) := by decide +kernel
theorem at_453_10 : am_at (am_m 453) 10 = some (.aload_n 0, 0) := by decide +kernel
theorem at_453_11 : am_at (am_m 453) 11 = some (.getfield 732, 3167) := by decide +kernel
theorem at_453_14 : am_at (am_m 453) 14 = some (.ifCond .ne 93, 107) := by decide +kernel
theorem at_453_17 : am_at (am_m 453) 17 = some (.iconst 0, 0) := by decide +kernel
theorem at_453_18 : am_at (am_m 453) 18 = some (.istore_n 2, 0) := by decide +kernel
theorem at_453_19 : am_at (am_m 453) 19 = some (.iload_n 2, 0) := by decide +kernel
theorem at_453_20 : am_at (am_m 453) 20 = some (.bipush 14, 0) := by decide +kernel
theorem at_453_22 : am_at (am_m 453) 22 = some (.if_icmp .ge 79, 101) := by decide +kernel
theorem at_453_25 : am_at (am_m 453) 25 = some (.aload_n 0, 0) := by decide +kernel
theorem at_453_26 : am_at (am_m 453) 26 = some (.getfield 732, 3167) := by decide +kernel
theorem at_453_29 : am_at (am_m 453) 29 = some (.ifCond .ne 72, 101) := by decide +kernel
theorem at_453_32 : am_at (am_m 453) 32 = some (.iload_n 2, 0) := by decide +kernel
theorem at_453_33 : am_at (am_m 453) 33 = some (.aload_n 0, 0) := by decide +kernel
theorem at_453_34 : am_at (am_m 453) 34 = some (.getfield 51, 3093) := by decide +kernel
theorem at_453_37 : am_at (am_m 453) 37 = some (.iload_n 1, 0) := by decide +kernel
theorem at_453_38 : am_at (am_m 453) 38 = some (.iaload, 0) := by decide +kernel
theorem at_453_39 : am_at (am_m 453) 39 = some (.if_icmp .eq 56, 95) := by decide +kernel
theorem at_453_42 : am_at (am_m 453) 42 = some (.iload_n 2, 0) := by decide +kernel
theorem at_453_43 : am_at (am_m 453) 43 = some (.invokestatic 760, 454) := by decide +kernel
theorem at_453_46 : am_at (am_m 453) 46 = some (.aload_n 0, 0) := by decide +kernel
theorem at_453_47 : am_at (am_m 453) 47 = some (.getfield 51, 3093) := by decide +kernel
theorem at_453_50 : am_at (am_m 453) 50 = some (.iload_n 1, 0) := by decide +kernel
theorem at_453_51 : am_at (am_m 453) 51 = some (.iaload, 0) := by decide +kernel
theorem at_453_52 : am_at (am_m 453) 52 = some (.invokestatic 760, 454) := by decide +kernel
theorem at_453_55 : am_at (am_m 453) 55 = some (.if_icmp .eq 6, 61) := by decide +kernel
theorem at_453_58 : am_at (am_m 453) 58 = some (.goto 37, 95) := by decide +kernel
theorem at_453_61 : am_at (am_m 453) 61 = some (.aload_n 0, 0) := by decide +kernel
theorem at_453_62 : am_at (am_m 453) 62 = some (.invokevirtual 739, 442) := by decide +kernel
theorem at_453_65 : am_at (am_m 453) 65 = some (.aload_n 0, 0) := by decide +kernel
theorem at_453_66 : am_at (am_m 453) 66 = some (.getfield 45, 3088) := by decide +kernel
theorem at_453_69 : am_at (am_m 453) 69 = some (.iload_n 1, 0) := by decide +kernel
theorem at_453_70 : am_at (am_m 453) 70 = some (.iload_n 2, 0) := by decide +kernel
theorem at_453_71 : am_at (am_m 453) 71 = some (.iastore, 0) := by decide +kernel
theorem at_453_72 : am_at (am_m 453) 72 = some (.aload_n 0, 0) := by decide +kernel
theorem at_453_73 : am_at (am_m 453) 73 = some (.getfield 48, 3089) := by decide +kernel
theorem at_453_76 : am_at (am_m 453) 76 = some (.iload_n 1, 0) := by decide +kernel
theorem at_453_77 : am_at (am_m 453) 77 = some (.iload_n 2, 0) := by decide +kernel
theorem at_453_78 : am_at (am_m 453) 78 = some (.ifCond .ne 7, 85) := by decide +kernel
theorem at_453_81 : am_at (am_m 453) 81 = some (.iconst 1, 0) := by decide +kernel
theorem at_453_82 : am_at (am_m 453) 82 = some (.goto 4, 86) := by decide +kernel
theorem at_453_85 : am_at (am_m 453) 85 = some (.iconst 0, 0) := by decide +kernel
theorem at_453_86 : am_at (am_m 453) 86 = some (.iastore, 0) := by decide +kernel
theorem at_453_87 : am_at (am_m 453) 87 = some (.aload_n 0, 0) := by decide +kernel
theorem at_453_88 : am_at (am_m 453) 88 = some (.aload_n 0, 0) := by decide +kernel
theorem at_453_89 : am_at (am_m 453) 89 = some (.invokevirtual 742, 444) := by decide +kernel
theorem at_453_92 : am_at (am_m 453) 92 = some (.putfield 732, 3167) := by decide +kernel
theorem at_453_95 : am_at (am_m 453) 95 = some (.iinc 2 1, 0) := by decide +kernel
theorem at_453_98 : am_at (am_m 453) 98 = some (.goto (-79), 19) := by decide +kernel
theorem at_453_101 : am_at (am_m 453) 101 = some (.iinc 1 1, 0) := by decide +kernel
theorem at_453_104 : am_at (am_m 453) 104 = some (.goto (-102), 2) := by decide +kernel
theorem at_453_107 : am_at (am_m 453) 107 = some (.return_, 0) := by decide +kernel
theorem at_454_0 : am_at (am_m 454) 0 = some (.iload_n 0, 0) := by decide +kernel
theorem at_454_1 : am_at (am_m 454) 1 = some (.iconst 5, 0) := by decide +kernel
theorem at_454_2 : am_at (am_m 454) 2 = some (.if_icmp .ge 7, 9) := by decide +kernel
theorem at_454_5 : am_at (am_m 454) 5 = some (.iconst 0, 0) := by decide +kernel
theorem at_454_6 : am_at (am_m 454) 6 = some (.goto 26, 32) := by decide +kernel
theorem at_454_9 : am_at (am_m 454) 9 = some (.iload_n 0, 0) := by decide +kernel
theorem at_454_10 : am_at (am_m 454) 10 = some (.bipush 7, 0) := by decide +kernel
theorem at_454_12 : am_at (am_m 454) 12 = some (.if_icmp .ge 7, 19) := by decide +kernel
theorem at_454_15 : am_at (am_m 454) 15 = some (.iconst 1, 0) := by decide +kernel
theorem at_454_16 : am_at (am_m 454) 16 = some (.goto 16, 32) := by decide +kernel
theorem at_454_19 : am_at (am_m 454) 19 = some (.iload_n 0, 0) := by decide +kernel
theorem at_454_20 : am_at (am_m 454) 20 = some (.bipush 14, 0) := by decide +kernel
theorem at_454_22 : am_at (am_m 454) 22 = some (.if_icmp .ge 7, 29) := by decide +kernel
theorem at_454_25 : am_at (am_m 454) 25 = some (.iconst 2, 0) := by decide +kernel
theorem at_454_26 : am_at (am_m 454) 26 = some (.goto 6, 32) := by decide +kernel
theorem at_454_29 : am_at (am_m 454) 29 = some (.iconst 3, 0) := by decide +kernel
theorem at_454_30 : am_at (am_m 454) 30 = some (.iload_n 0, 0) := by decide +kernel
theorem at_454_31 : am_at (am_m 454) 31 = some (.iadd, 0) := by decide +kernel
theorem at_454_32 : am_at (am_m 454) 32 = some (.ireturn, 0) := by decide +kernel
theorem at_455_0 : am_at (am_m 455) 0 = some (.iconst 0, 0) := by decide +kernel
theorem at_455_1 : am_at (am_m 455) 1 = some (.istore_n 1, 0) := by decide +kernel
theorem at_455_2 : am_at (am_m 455) 2 = some (.iload_n 1, 0) := by decide +kernel
theorem at_455_3 : am_at (am_m 455) 3 = some (.aload_n 0, 0) := by decide +kernel
theorem at_455_4 : am_at (am_m 455) 4 = some (.getfield 315, 3090) := by decide +kernel
theorem at_455_7 : am_at (am_m 455) 7 = some (.if_icmp .ge 63, 70) := by decide +kernel
theorem at_455_10 : am_at (am_m 455) 10 = some (.aload_n 0, 0) := by decide +kernel
theorem at_455_11 : am_at (am_m 455) 11 = some (.getfield 732, 3167) := by decide +kernel
theorem at_455_14 : am_at (am_m 455) 14 = some (.ifCond .ne 56, 70) := by decide +kernel
theorem at_455_17 : am_at (am_m 455) 17 = some (.iconst 1, 0) := by decide +kernel
theorem at_455_18 : am_at (am_m 455) 18 = some (.istore_n 2, 0) := by decide +kernel
theorem at_455_19 : am_at (am_m 455) 19 = some (.iload_n 2, 0) := by decide +kernel
theorem at_455_20 : am_at (am_m 455) 20 = some (.iconst 4, 0) := by decide +kernel
theorem at_455_21 : am_at (am_m 455) 21 = some (.if_icmp .ge 43, 64) := by decide +kernel
theorem at_455_24 : am_at (am_m 455) 24 = some (.aload_n 0, 0) := by decide +kernel
theorem at_455_25 : am_at (am_m 455) 25 = some (.getfield 732, 3167) := by decide +kernel
theorem at_455_28 : am_at (am_m 455) 28 = some (.ifCond .ne 36, 64) := by decide +kernel
theorem at_455_31 : am_at (am_m 455) 31 = some (.iload_n 1, 0) := by decide +kernel
theorem at_455_32 : am_at (am_m 455) 32 = some (.iload_n 2, 0) := by decide +kernel
theorem at_455_33 : am_at (am_m 455) 33 = some (.iadd, 0) := by decide +kernel
theorem at_455_34 : am_at (am_m 455) 34 = some (.aload_n 0, 0) := by decide +kernel
theorem at_455_35 : am_at (am_m 455) 35 = some (.getfield 315, 3090) := by decide +kernel
theorem at_455_38 : am_at (am_m 455) 38 = some (.if_icmp .gt 20, 58) := by decide +kernel
theorem at_455_41 : am_at (am_m 455) 41 = some (.aload_n 0, 0) := by decide +kernel
theorem at_455_42 : am_at (am_m 455) 42 = some (.iload_n 1, 0) := by decide +kernel
theorem at_455_43 : am_at (am_m 455) 43 = some (.iload_n 2, 0) := by decide +kernel
theorem at_455_44 : am_at (am_m 455) 44 = some (.invokevirtual 763, 456) := by decide +kernel
theorem at_455_47 : am_at (am_m 455) 47 = some (.ifCond .eq 11, 58) := by decide +kernel
theorem at_455_50 : am_at (am_m 455) 50 = some (.aload_n 0, 0) := by decide +kernel
theorem at_455_51 : am_at (am_m 455) 51 = some (.aload_n 0, 0) := by decide +kernel
theorem at_455_52 : am_at (am_m 455) 52 = some (.invokevirtual 742, 444) := by decide +kernel
theorem at_455_55 : am_at (am_m 455) 55 = some (.putfield 732, 3167) := by decide +kernel
theorem at_455_58 : am_at (am_m 455) 58 = some (.iinc 2 1, 0) := by decide +kernel
theorem at_455_61 : am_at (am_m 455) 61 = some (.goto (-42), 19) := by decide +kernel
theorem at_455_64 : am_at (am_m 455) 64 = some (.iinc 1 1, 0) := by decide +kernel
theorem at_455_67 : am_at (am_m 455) 67 = some (.goto (-65), 2) := by decide +kernel
theorem at_455_70 : am_at (am_m 455) 70 = some (.return_, 0) := by decide +kernel
theorem at_456_0 : am_at (am_m 456) 0 = some (.aload_n 0, 0) := by decide +kernel
theorem at_456_1 : am_at (am_m 456) 1 = some (.invokevirtual 753, 451) := by decide +kernel
theorem at_456_4 : am_at (am_m 456) 4 = some (.iconst 0, 0) := by decide +kernel
theorem at_456_5 : am_at (am_m 456) 5 = some (.istore_n 3, 0) := by decide +kernel
theorem at_456_6 : am_at (am_m 456) 6 = some (.iload_n 3, 0) := by decide +kernel
theorem at_456_7 : am_at (am_m 456) 7 = some (.aload_n 0, 0) := by decide +kernel
theorem at_456_8 : am_at (am_m 456) 8 = some (.getfield 315, 3090) := by decide +kernel
theorem at_456_11 : am_at (am_m 456) 11 = some (.if_icmp .ge 103, 114) := by decide +kernel
theorem at_456_14 : am_at (am_m 456) 14 = some (.iload_n 3, 0) := by decide +kernel
theorem at_456_15 : am_at (am_m 456) 15 = some (.iload_n 1, 0) := by decide +kernel
theorem at_456_16 : am_at (am_m 456) 16 = some (.if_icmp .lt 13, 29) := by decide +kernel
theorem at_456_19 : am_at (am_m 456) 19 = some (.iload_n 3, 0) := by decide +kernel
theorem at_456_20 : am_at (am_m 456) 20 = some (.iload_n 1, 0) := by decide +kernel
theorem at_456_21 : am_at (am_m 456) 21 = some (.iload_n 2, 0) := by decide +kernel
theorem at_456_22 : am_at (am_m 456) 22 = some (.iadd, 0) := by decide +kernel
theorem at_456_23 : am_at (am_m 456) 23 = some (.if_icmp .ge 6, 29) := by decide +kernel
theorem at_456_26 : am_at (am_m 456) 26 = some (.goto 82, 108) := by decide +kernel
theorem at_456_29 : am_at (am_m 456) 29 = some (.aload_n 0, 0) := by decide +kernel
theorem at_456_30 : am_at (am_m 456) 30 = some (.getfield 54, 3094) := by decide +kernel
theorem at_456_33 : am_at (am_m 456) 33 = some (.iload_n 3, 0) := by decide +kernel
theorem at_456_34 : am_at (am_m 456) 34 = some (.iaload, 0) := by decide +kernel
theorem at_456_35 : am_at (am_m 456) 35 = some (.istore 4, 0) := by decide +kernel
theorem at_456_37 : am_at (am_m 456) 37 = some (.aload_n 0, 0) := by decide +kernel
theorem at_456_38 : am_at (am_m 456) 38 = some (.getfield 51, 3093) := by decide +kernel
theorem at_456_41 : am_at (am_m 456) 41 = some (.iload_n 3, 0) := by decide +kernel
theorem at_456_42 : am_at (am_m 456) 42 = some (.iaload, 0) := by decide +kernel
theorem at_456_43 : am_at (am_m 456) 43 = some (.bipush 16, 0) := by decide +kernel
theorem at_456_45 : am_at (am_m 456) 45 = some (.if_icmp .le 51, 96) := by decide +kernel
theorem at_456_48 : am_at (am_m 456) 48 = some (.iload_n 3, 0) := by decide +kernel
theorem at_456_49 : am_at (am_m 456) 49 = some (.iload_n 1, 0) := by decide +kernel
theorem at_456_50 : am_at (am_m 456) 50 = some (.if_icmp .ge 46, 96) := by decide +kernel
theorem at_456_53 : am_at (am_m 456) 53 = some (.iload_n 3, 0) := by decide +kernel
theorem at_456_54 : am_at (am_m 456) 54 = some (.iconst 1, 0) := by decide +kernel
theorem at_456_55 : am_at (am_m 456) 55 = some (.iadd, 0) := by decide +kernel
theorem at_456_56 : am_at (am_m 456) 56 = some (.iload 4, 0) := by decide +kernel
theorem at_456_58 : am_at (am_m 456) 58 = some (.iadd, 0) := by decide +kernel
theorem at_456_59 : am_at (am_m 456) 59 = some (.istore 5, 0) := by decide +kernel
theorem at_456_61 : am_at (am_m 456) 61 = some (.iload 5, 0) := by decide +kernel
theorem at_456_63 : am_at (am_m 456) 63 = some (.iload_n 1, 0) := by decide +kernel
theorem at_456_64 : am_at (am_m 456) 64 = some (.if_icmp .le 13, 77) := by decide +kernel
theorem at_456_67 : am_at (am_m 456) 67 = some (.iload 5, 0) := by decide +kernel
theorem at_456_69 : am_at (am_m 456) 69 = some (.iload_n 1, 0) := by decide +kernel
theorem at_456_70 : am_at (am_m 456) 70 = some (.iload_n 2, 0) := by decide +kernel
theorem at_456_71 : am_at (am_m 456) 71 = some (.iadd, 0) := by decide +kernel
theorem at_456_72 : am_at (am_m 456) 72 = some (.if_icmp .ge 5, 77) := by decide +kernel
theorem at_456_75 : am_at (am_m 456) 75 = some (.iconst 0, 0) := by decide +kernel
theorem at_456_76 : am_at (am_m 456) 76 = some (.ireturn, 0) := by decide +kernel
theorem at_456_77 : am_at (am_m 456) 77 = some (.iload 5, 0) := by decide +kernel
theorem at_456_79 : am_at (am_m 456) 79 = some (.iload_n 1, 0) := by decide +kernel
theorem at_456_80 : am_at (am_m 456) 80 = some (.iload_n 2, 0) := by decide +kernel
theorem at_456_81 : am_at (am_m 456) 81 = some (.iadd, 0) := by decide +kernel
theorem at_456_82 : am_at (am_m 456) 82 = some (.if_icmp .lt 10, 92) := by decide +kernel
theorem at_456_85 : am_at (am_m 456) 85 = some (.iload 4, 0) := by decide +kernel
theorem at_456_87 : am_at (am_m 456) 87 = some (.iload_n 2, 0) := by decide +kernel
theorem at_456_88 : am_at (am_m 456) 88 = some (.isub, 0) := by decide +kernel
theorem at_456_89 : am_at (am_m 456) 89 = some (.goto 5, 94) := by decide +kernel
theorem at_456_92 : am_at (am_m 456) 92 = some (.iload 4, 0) := by decide +kernel
theorem at_456_94 : am_at (am_m 456) 94 = some (.istore 4, 0) := by decide +kernel
theorem at_456_96 : am_at (am_m 456) 96 = some (.aload_n 0, 0) := by decide +kernel
theorem at_456_97 : am_at (am_m 456) 97 = some (.aload_n 0, 0) := by decide +kernel
theorem at_456_98 : am_at (am_m 456) 98 = some (.getfield 51, 3093) := by decide +kernel
theorem at_456_101 : am_at (am_m 456) 101 = some (.iload_n 3, 0) := by decide +kernel
theorem at_456_102 : am_at (am_m 456) 102 = some (.iaload, 0) := by decide +kernel
theorem at_456_103 : am_at (am_m 456) 103 = some (.iload 4, 0) := by decide +kernel
theorem at_456_105 : am_at (am_m 456) 105 = some (.invokevirtual 335, 335) := by decide +kernel
theorem at_456_108 : am_at (am_m 456) 108 = some (.iinc 3 1, 0) := by decide +kernel
theorem at_456_111 : am_at (am_m 456) 111 = some (.goto (-105), 6) := by decide +kernel
theorem at_456_114 : am_at (am_m 456) 114 = some (.iconst 1, 0) := by decide +kernel
theorem at_456_115 : am_at (am_m 456) 115 = some (.ireturn, 0) := by decide +kernel
theorem at_457_0 : am_at (am_m 457) 0 = some (.iconst 0, 0) := by decide +kernel
theorem at_457_1 : am_at (am_m 457) 1 = some (.istore_n 1, 0) := by decide +kernel
theorem at_457_2 : am_at (am_m 457) 2 = some (.iload_n 1, 0) := by decide +kernel
theorem at_457_3 : am_at (am_m 457) 3 = some (.aload_n 0, 0) := by decide +kernel
theorem at_457_4 : am_at (am_m 457) 4 = some (.getfield 315, 3090) := by decide +kernel
theorem at_457_7 : am_at (am_m 457) 7 = some (.if_icmp .gt 50, 57) := by decide +kernel
theorem at_457_10 : am_at (am_m 457) 10 = some (.aload_n 0, 0) := by decide +kernel
theorem at_457_11 : am_at (am_m 457) 11 = some (.getfield 732, 3167) := by decide +kernel
theorem at_457_14 : am_at (am_m 457) 14 = some (.ifCond .ne 43, 57) := by decide +kernel
theorem at_457_17 : am_at (am_m 457) 17 = some (.iconst 0, 0) := by decide +kernel
theorem at_457_18 : am_at (am_m 457) 18 = some (.istore_n 2, 0) := by decide +kernel
theorem at_457_19 : am_at (am_m 457) 19 = some (.iload_n 2, 0) := by decide +kernel
theorem at_457_20 : am_at (am_m 457) 20 = some (.iconst 5, 0) := by decide +kernel
theorem at_457_21 : am_at (am_m 457) 21 = some (.if_icmp .ge 30, 51) := by decide +kernel
theorem at_457_24 : am_at (am_m 457) 24 = some (.aload_n 0, 0) := by decide +kernel
theorem at_457_25 : am_at (am_m 457) 25 = some (.getfield 732, 3167) := by decide +kernel
theorem at_457_28 : am_at (am_m 457) 28 = some (.ifCond .ne 23, 51) := by decide +kernel
theorem at_457_31 : am_at (am_m 457) 31 = some (.aload_n 0, 0) := by decide +kernel
theorem at_457_32 : am_at (am_m 457) 32 = some (.iload_n 1, 0) := by decide +kernel
theorem at_457_33 : am_at (am_m 457) 33 = some (.iload_n 2, 0) := by decide +kernel
theorem at_457_34 : am_at (am_m 457) 34 = some (.invokevirtual 769, 458) := by decide +kernel
theorem at_457_37 : am_at (am_m 457) 37 = some (.aload_n 0, 0) := by decide +kernel
theorem at_457_38 : am_at (am_m 457) 38 = some (.aload_n 0, 0) := by decide +kernel
theorem at_457_39 : am_at (am_m 457) 39 = some (.invokevirtual 742, 444) := by decide +kernel
theorem at_457_42 : am_at (am_m 457) 42 = some (.putfield 732, 3167) := by decide +kernel
theorem at_457_45 : am_at (am_m 457) 45 = some (.iinc 2 1, 0) := by decide +kernel
theorem at_457_48 : am_at (am_m 457) 48 = some (.goto (-29), 19) := by decide +kernel
theorem at_457_51 : am_at (am_m 457) 51 = some (.iinc 1 1, 0) := by decide +kernel
theorem at_457_54 : am_at (am_m 457) 54 = some (.goto (-52), 2) := by decide +kernel
theorem at_457_57 : am_at (am_m 457) 57 = some (.return_, 0) := by decide +kernel
theorem at_458_0 : am_at (am_m 458) 0 = some (.iload_n 2, 0) := by decide +kernel
theorem at_458_1 : am_at (am_m 458) 1 = some (.ifCond .ne 7, 8) := by decide +kernel
theorem at_458_4 : am_at (am_m 458) 4 = some (.iconst 1, 0) := by decide +kernel
theorem at_458_5 : am_at (am_m 458) 5 = some (.goto 4, 9) := by decide +kernel
theorem at_458_8 : am_at (am_m 458) 8 = some (.iconst 2, 0) := by decide +kernel
theorem at_458_9 : am_at (am_m 458) 9 = some (.istore_n 3, 0) := by decide +kernel
theorem at_458_10 : am_at (am_m 458) 10 = some (.aload_n 0, 0) := by decide +kernel
theorem at_458_11 : am_at (am_m 458) 11 = some (.invokevirtual 753, 451) := by decide +kernel
theorem at_458_14 : am_at (am_m 458) 14 = some (.iconst 0, 0) := by decide +kernel
theorem at_458_15 : am_at (am_m 458) 15 = some (.istore 4, 0) := by decide +kernel
theorem at_458_17 : am_at (am_m 458) 17 = some (.iload 4, 0) := by decide +kernel
theorem at_458_19 : am_at (am_m 458) 19 = some (.aload_n 0, 0) := by decide +kernel
theorem at_458_20 : am_at (am_m 458) 20 = some (.getfield 315, 3090) := by decide +kernel
theorem at_458_23 : am_at (am_m 458) 23 = some (.if_icmp .ge 82, 105) := by decide +kernel
theorem at_458_26 : am_at (am_m 458) 26 = some (.iload 4, 0) := by decide +kernel
theorem at_458_28 : am_at (am_m 458) 28 = some (.iload_n 1, 0) := by decide +kernel
theorem at_458_29 : am_at (am_m 458) 29 = some (.if_icmp .ne 8, 37) := by decide +kernel
theorem at_458_32 : am_at (am_m 458) 32 = some (.aload_n 0, 0) := by decide +kernel
theorem at_458_33 : am_at (am_m 458) 33 = some (.iload_n 2, 0) := by decide +kernel
theorem at_458_34 : am_at (am_m 458) 34 = some (.invokevirtual 766, 459) := by decide +kernel
theorem at_458_37 : am_at (am_m 458) 37 = some (.aload_n 0, 0) := by decide +kernel
theorem at_458_38 : am_at (am_m 458) 38 = some (.getfield 54, 3094) := by decide +kernel
theorem at_458_41 : am_at (am_m 458) 41 = some (.iload 4, 0) := by decide +kernel
theorem at_458_43 : am_at (am_m 458) 43 = some (.iaload, 0) := by decide +kernel
theorem at_458_44 : am_at (am_m 458) 44 = some (.istore 5, 0) := by decide +kernel
theorem at_458_46 : am_at (am_m 458) 46 = some (.aload_n 0, 0) := by decide +kernel
theorem at_458_47 : am_at (am_m 458) 47 = some (.getfield 51, 3093) := by decide +kernel
theorem at_458_50 : am_at (am_m 458) 50 = some (.iload 4, 0) := by decide +kernel
theorem at_458_52 : am_at (am_m 458) 52 = some (.iaload, 0) := by decide +kernel
theorem at_458_53 : am_at (am_m 458) 53 = some (.bipush 16, 0) := by decide +kernel
theorem at_458_55 : am_at (am_m 458) 55 = some (.if_icmp .le 27, 82) := by decide +kernel
theorem at_458_58 : am_at (am_m 458) 58 = some (.iload 4, 0) := by decide +kernel
theorem at_458_60 : am_at (am_m 458) 60 = some (.iload_n 1, 0) := by decide +kernel
theorem at_458_61 : am_at (am_m 458) 61 = some (.if_icmp .ge 21, 82) := by decide +kernel
theorem at_458_64 : am_at (am_m 458) 64 = some (.iload 4, 0) := by decide +kernel
theorem at_458_66 : am_at (am_m 458) 66 = some (.iconst 1, 0) := by decide +kernel
theorem at_458_67 : am_at (am_m 458) 67 = some (.iadd, 0) := by decide +kernel
theorem at_458_68 : am_at (am_m 458) 68 = some (.iload 5, 0) := by decide +kernel
theorem at_458_70 : am_at (am_m 458) 70 = some (.iadd, 0) := by decide +kernel
theorem at_458_71 : am_at (am_m 458) 71 = some (.iload_n 1, 0) := by decide +kernel
theorem at_458_72 : am_at (am_m 458) 72 = some (.if_icmp .le 10, 82) := by decide +kernel
theorem at_458_75 : am_at (am_m 458) 75 = some (.iload 5, 0) := by decide +kernel
theorem at_458_77 : am_at (am_m 458) 77 = some (.iload_n 3, 0) := by decide +kernel
theorem at_458_78 : am_at (am_m 458) 78 = some (.iadd, 0) := by decide +kernel
theorem at_458_79 : am_at (am_m 458) 79 = some (.goto 5, 84) := by decide +kernel
theorem at_458_82 : am_at (am_m 458) 82 = some (.iload 5, 0) := by decide +kernel
theorem at_458_84 : am_at (am_m 458) 84 = some (.istore 5, 0) := by decide +kernel
theorem at_458_86 : am_at (am_m 458) 86 = some (.aload_n 0, 0) := by decide +kernel
theorem at_458_87 : am_at (am_m 458) 87 = some (.aload_n 0, 0) := by decide +kernel
theorem at_458_88 : am_at (am_m 458) 88 = some (.getfield 51, 3093) := by decide +kernel
theorem at_458_91 : am_at (am_m 458) 91 = some (.iload 4, 0) := by decide +kernel
theorem at_458_93 : am_at (am_m 458) 93 = some (.iaload, 0) := by decide +kernel
theorem at_458_94 : am_at (am_m 458) 94 = some (.iload 5, 0) := by decide +kernel
theorem at_458_96 : am_at (am_m 458) 96 = some (.invokevirtual 335, 335) := by decide +kernel
theorem at_458_99 : am_at (am_m 458) 99 = some (.iinc 4 1, 0) := by decide +kernel
theorem at_458_102 : am_at (am_m 458) 102 = some (.goto (-85), 17) := by decide +kernel
theorem at_458_105 : am_at (am_m 458) 105 = some (.iload_n 1, 0) := by decide +kernel
theorem at_458_106 : am_at (am_m 458) 106 = some (.aload_n 0, 0) := by decide +kernel
theorem at_458_107 : am_at (am_m 458) 107 = some (.getfield 315, 3090) := by decide +kernel
theorem at_458_110 : am_at (am_m 458) 110 = some (.if_icmp .ne 8, 118) := by decide +kernel
theorem at_458_113 : am_at (am_m 458) 113 = some (.aload_n 0, 0) := by decide +kernel
theorem at_458_114 : am_at (am_m 458) 114 = some (.iload_n 2, 0) := by decide +kernel
theorem at_458_115 : am_at (am_m 458) 115 = some (.invokevirtual 766, 459) := by decide +kernel
theorem at_458_118 : am_at (am_m 458) 118 = some (.return_, 0) := by decide +kernel
theorem at_459_0 : am_at (am_m 459) 0 = some (.iload_n 1, 0) := by decide +kernel
theorem at_459_1 : am_at (am_m 459) 1 = some (.ifCond .ne 10, 11) := by decide +kernel
theorem at_459_4 : am_at (am_m 459) 4 = some (.aload_n 0, 0) := by decide +kernel
theorem at_459_5 : am_at (am_m 459) 5 = some (.iconst 5, 0) := by decide +kernel
theorem at_459_6 : am_at (am_m 459) 6 = some (.iconst 0, 0) := by decide +kernel
theorem at_459_7 : am_at (am_m 459) 7 = some (.invokevirtual 335, 335) := by decide +kernel
theorem at_459_10 : am_at (am_m 459) 10 = some (.return_, 0) := by decide +kernel
theorem at_459_11 : am_at (am_m 459) 11 = some (.aload_n 0, 0) := by decide +kernel
theorem at_459_12 : am_at (am_m 459) 12 = some (.iload_n 1, 0) := by decide +kernel
theorem at_459_13 : am_at (am_m 459) 13 = some (.iconst 3, 0) := by decide +kernel
theorem at_459_14 : am_at (am_m 459) 14 = some (.if_icmp .ge 7, 21) := by decide +kernel
theorem at_459_17 : am_at (am_m 459) 17 = some (.iconst 0, 0) := by decide +kernel
theorem at_459_18 : am_at (am_m 459) 18 = some (.goto 14, 32) := by decide +kernel
theorem at_459_21 : am_at (am_m 459) 21 = some (.iload_n 1, 0) := by decide +kernel
theorem at_459_22 : am_at (am_m 459) 22 = some (.iconst 3, 0) := by decide +kernel
theorem at_459_23 : am_at (am_m 459) 23 = some (.if_icmp .ne 7, 30) := by decide +kernel
theorem at_459_26 : am_at (am_m 459) 26 = some (.iconst 1, 0) := by decide +kernel
theorem at_459_27 : am_at (am_m 459) 27 = some (.goto 5, 32) := by decide +kernel
theorem at_459_30 : am_at (am_m 459) 30 = some (.bipush 14, 0) := by decide +kernel
theorem at_459_32 : am_at (am_m 459) 32 = some (.iload_n 1, 0) := by decide +kernel
theorem at_459_33 : am_at (am_m 459) 33 = some (.iconst 3, 0) := by decide +kernel
theorem at_459_34 : am_at (am_m 459) 34 = some (.if_icmp .ge 7, 41) := by decide +kernel
theorem at_459_37 : am_at (am_m 459) 37 = some (.iconst 1, 0) := by decide +kernel
theorem at_459_38 : am_at (am_m 459) 38 = some (.goto 4, 42) := by decide +kernel
theorem at_459_41 : am_at (am_m 459) 41 = some (.iconst 0, 0) := by decide +kernel
theorem at_459_42 : am_at (am_m 459) 42 = some (.invokevirtual 335, 335) := by decide +kernel
theorem at_459_45 : am_at (am_m 459) 45 = some (.aload_n 0, 0) := by decide +kernel
theorem at_459_46 : am_at (am_m 459) 46 = some (.iload_n 1, 0) := by decide +kernel
theorem at_459_47 : am_at (am_m 459) 47 = some (.iconst 2, 0) := by decide +kernel
theorem at_459_48 : am_at (am_m 459) 48 = some (.if_icmp .ne 8, 56) := by decide +kernel
theorem at_459_51 : am_at (am_m 459) 51 = some (.bipush 8, 0) := by decide +kernel
theorem at_459_53 : am_at (am_m 459) 53 = some (.goto 15, 68) := by decide +kernel
theorem at_459_56 : am_at (am_m 459) 56 = some (.iload_n 1, 0) := by decide +kernel
theorem at_459_57 : am_at (am_m 459) 57 = some (.iconst 4, 0) := by decide +kernel
theorem at_459_58 : am_at (am_m 459) 58 = some (.if_icmp .ne 8, 66) := by decide +kernel
theorem at_459_61 : am_at (am_m 459) 61 = some (.bipush 9, 0) := by decide +kernel
theorem at_459_63 : am_at (am_m 459) 63 = some (.goto 5, 68) := by decide +kernel
theorem at_459_66 : am_at (am_m 459) 66 = some (.bipush 7, 0) := by decide +kernel
theorem at_459_68 : am_at (am_m 459) 68 = some (.iconst 0, 0) := by decide +kernel
theorem at_459_69 : am_at (am_m 459) 69 = some (.invokevirtual 335, 335) := by decide +kernel
theorem at_459_72 : am_at (am_m 459) 72 = some (.return_, 0) := by decide +kernel
theorem at_460_0 : am_at (am_m 460) 0 = some (.iconst 0, 0) := by decide +kernel
theorem at_460_1 : am_at (am_m 460) 1 = some (.istore_n 1, 0) := by decide +kernel
theorem at_460_2 : am_at (am_m 460) 2 = some (.iload_n 1, 0) := by decide +kernel
theorem at_460_3 : am_at (am_m 460) 3 = some (.aload_n 0, 0) := by decide +kernel
theorem at_460_4 : am_at (am_m 460) 4 = some (.getfield 315, 3090) := by decide +kernel
theorem at_460_7 : am_at (am_m 460) 7 = some (.if_icmp .ge 80, 87) := by decide +kernel
theorem at_460_10 : am_at (am_m 460) 10 = some (.aload_n 0, 0) := by decide +kernel
theorem at_460_11 : am_at (am_m 460) 11 = some (.getfield 732, 3167) := by decide +kernel
theorem at_460_14 : am_at (am_m 460) 14 = some (.ifCond .ne 73, 87) := by decide +kernel
theorem at_460_17 : am_at (am_m 460) 17 = some (.aload_n 0, 0) := by decide +kernel
theorem at_460_18 : am_at (am_m 460) 18 = some (.getfield 51, 3093) := by decide +kernel
theorem at_460_21 : am_at (am_m 460) 21 = some (.iload_n 1, 0) := by decide +kernel
theorem at_460_22 : am_at (am_m 460) 22 = some (.iaload, 0) := by decide +kernel
theorem at_460_23 : am_at (am_m 460) 23 = some (.istore_n 2, 0) := by decide +kernel
theorem at_460_24 : am_at (am_m 460) 24 = some (.aload_n 0, 0) := by decide +kernel
theorem at_460_25 : am_at (am_m 460) 25 = some (.iload_n 1, 0) := by decide +kernel
theorem at_460_26 : am_at (am_m 460) 26 = some (.iload_n 2, 0) := by decide +kernel
theorem at_460_27 : am_at (am_m 460) 27 = some (.iconst 1, 0) := by decide +kernel
theorem at_460_28 : am_at (am_m 460) 28 = some (.iadd, 0) := by decide +kernel
theorem at_460_29 : am_at (am_m 460) 29 = some (.invokevirtual 747, 461) := by decide +kernel
theorem at_460_32 : am_at (am_m 460) 32 = some (.ifCond .ne 49, 81) := by decide +kernel
theorem at_460_35 : am_at (am_m 460) 35 = some (.aload_n 0, 0) := by decide +kernel
theorem at_460_36 : am_at (am_m 460) 36 = some (.iload_n 1, 0) := by decide +kernel
theorem at_460_37 : am_at (am_m 460) 37 = some (.iload_n 2, 0) := by decide +kernel
theorem at_460_38 : am_at (am_m 460) 38 = some (.iconst 1, 0) := by decide +kernel
theorem at_460_39 : am_at (am_m 460) 39 = some (.isub, 0) := by decide +kernel
theorem at_460_40 : am_at (am_m 460) 40 = some (.invokevirtual 747, 461) := by decide +kernel
theorem at_460_43 : am_at (am_m 460) 43 = some (.ifCond .ne 38, 81) := by decide +kernel
theorem at_460_46 : am_at (am_m 460) 46 = some (.aload_n 0, 0) := by decide +kernel
theorem at_460_47 : am_at (am_m 460) 47 = some (.iload_n 1, 0) := by decide +kernel
theorem at_460_48 : am_at (am_m 460) 48 = some (.iload_n 2, 0) := by decide +kernel
theorem at_460_49 : am_at (am_m 460) 49 = some (.bipush 10, 0) := by decide +kernel
theorem at_460_51 : am_at (am_m 460) 51 = some (.iadd, 0) := by decide +kernel
theorem at_460_52 : am_at (am_m 460) 52 = some (.invokevirtual 747, 461) := by decide +kernel
theorem at_460_55 : am_at (am_m 460) 55 = some (.ifCond .ne 26, 81) := by decide +kernel
theorem at_460_58 : am_at (am_m 460) 58 = some (.aload_n 0, 0) := by decide +kernel
theorem at_460_59 : am_at (am_m 460) 59 = some (.iload_n 1, 0) := by decide +kernel
theorem at_460_60 : am_at (am_m 460) 60 = some (.iload_n 2, 0) := by decide +kernel
theorem at_460_61 : am_at (am_m 460) 61 = some (.bipush 10, 0) := by decide +kernel
theorem at_460_63 : am_at (am_m 460) 63 = some (.isub, 0) := by decide +kernel
theorem at_460_64 : am_at (am_m 460) 64 = some (.invokevirtual 747, 461) := by decide +kernel
theorem at_460_67 : am_at (am_m 460) 67 = some (.ifCond .ne 14, 81) := by decide +kernel
theorem at_460_70 : am_at (am_m 460) 70 = some (.aload_n 0, 0) := by decide +kernel
theorem at_460_71 : am_at (am_m 460) 71 = some (.aload_n 0, 0) := by decide +kernel
theorem at_460_72 : am_at (am_m 460) 72 = some (.iload_n 1, 0) := by decide +kernel
theorem at_460_73 : am_at (am_m 460) 73 = some (.iload_n 2, 0) := by decide +kernel
theorem at_460_74 : am_at (am_m 460) 74 = some (.ineg, 0) := by decide +kernel
theorem at_460_75 : am_at (am_m 460) 75 = some (.invokevirtual 747, 461) := by decide +kernel
theorem at_460_78 : am_at (am_m 460) 78 = some (.putfield 732, 3167) := by decide +kernel
theorem at_460_81 : am_at (am_m 460) 81 = some (.iinc 1 1, 0) := by decide +kernel
theorem at_460_84 : am_at (am_m 460) 84 = some (.goto (-82), 2) := by decide +kernel
theorem at_460_87 : am_at (am_m 460) 87 = some (.return_, 0) := by decide +kernel
theorem at_461_0 : am_at (am_m 461) 0 = some (.iload_n 2, 0) := by decide +kernel
theorem at_461_1 : am_at (am_m 461) 1 = some (.i2l, 0) := by decide +kernel
theorem at_461_2 : am_at (am_m 461) 2 = some (.ldc2_w 735, 61) := by decide +kernel
theorem at_461_5 : am_at (am_m 461) 5 = some (.ldc2_w 737, 62) := by decide +kernel
theorem at_461_8 : am_at (am_m 461) 8 = some (.invokestatic 299, 327) := by decide +kernel
theorem at_461_11 : am_at (am_m 461) 11 = some (.ifCond .eq 13, 24) := by decide +kernel
theorem at_461_14 : am_at (am_m 461) 14 = some (.iload_n 2, 0) := by decide +kernel
theorem at_461_15 : am_at (am_m 461) 15 = some (.aload_n 0, 0) := by decide +kernel
theorem at_461_16 : am_at (am_m 461) 16 = some (.getfield 51, 3093) := by decide +kernel
theorem at_461_19 : am_at (am_m 461) 19 = some (.iload_n 1, 0) := by decide +kernel
theorem at_461_20 : am_at (am_m 461) 20 = some (.iaload, 0) := by decide +kernel
theorem at_461_21 : am_at (am_m 461) 21 = some (.if_icmp .ne 5, 26) := by decide +kernel
theorem at_461_24 : am_at (am_m 461) 24 = some (.iconst 0, 0) := by decide +kernel
theorem at_461_25 : am_at (am_m 461) 25 = some (.ireturn, 0) := by decide +kernel
theorem at_461_26 : am_at (am_m 461) 26 = some (.aload_n 0, 0) := by decide +kernel
theorem at_461_27 : am_at (am_m 461) 27 = some (.invokevirtual 739, 442) := by decide +kernel
theorem at_461_30 : am_at (am_m 461) 30 = some (.aload_n 0, 0) := by decide +kernel
theorem at_461_31 : am_at (am_m 461) 31 = some (.getfield 45, 3088) := by decide +kernel
theorem at_461_34 : am_at (am_m 461) 34 = some (.iload_n 1, 0) := by decide +kernel
theorem at_461_35 : am_at (am_m 461) 35 = some (.iload_n 2, 0) := by decide +kernel
theorem at_461_36 : am_at (am_m 461) 36 = some (.iastore, 0) := by decide +kernel
theorem at_461_37 : am_at (am_m 461) 37 = some (.aload_n 0, 0) := by decide +kernel
theorem at_461_38 : am_at (am_m 461) 38 = some (.invokevirtual 742, 444) := by decide +kernel
theorem at_461_41 : am_at (am_m 461) 41 = some (.ireturn, 0) := by decide +kernel
theorem at_462_0 : am_at (am_m 462) 0 = some (.iconst 0, 0) := by decide +kernel
theorem at_462_1 : am_at (am_m 462) 1 = some (.istore_n 1, 0) := by decide +kernel
theorem at_462_2 : am_at (am_m 462) 2 = some (.iload_n 1, 0) := by decide +kernel
theorem at_462_3 : am_at (am_m 462) 3 = some (.aload_n 0, 0) := by decide +kernel
theorem at_462_4 : am_at (am_m 462) 4 = some (.getfield 315, 3090) := by decide +kernel
theorem at_462_7 : am_at (am_m 462) 7 = some (.if_icmp .ge 105, 112) := by decide +kernel
theorem at_462_10 : am_at (am_m 462) 10 = some (.aload_n 0, 0) := by decide +kernel
theorem at_462_11 : am_at (am_m 462) 11 = some (.getfield 732, 3167) := by decide +kernel
theorem at_462_14 : am_at (am_m 462) 14 = some (.ifCond .ne 98, 112) := by decide +kernel
theorem at_462_17 : am_at (am_m 462) 17 = some (.iconst 0, 0) := by decide +kernel
theorem at_462_18 : am_at (am_m 462) 18 = some (.istore_n 2, 0) := by decide +kernel
theorem at_462_19 : am_at (am_m 462) 19 = some (.iload_n 2, 0) := by decide +kernel
theorem at_462_20 : am_at (am_m 462) 20 = some (.iconst 4, 0) := by decide +kernel
theorem at_462_21 : am_at (am_m 462) 21 = some (.if_icmp .ge 85, 106) := by decide +kernel
theorem at_462_24 : am_at (am_m 462) 24 = some (.aload_n 0, 0) := by decide +kernel
theorem at_462_25 : am_at (am_m 462) 25 = some (.getfield 732, 3167) := by decide +kernel
theorem at_462_28 : am_at (am_m 462) 28 = some (.ifCond .ne 78, 106) := by decide +kernel
theorem at_462_31 : am_at (am_m 462) 31 = some (.iconst 0, 0) := by decide +kernel
theorem at_462_32 : am_at (am_m 462) 32 = some (.istore_n 3, 0) := by decide +kernel
theorem at_462_33 : am_at (am_m 462) 33 = some (.iload_n 3, 0) := by decide +kernel
theorem at_462_34 : am_at (am_m 462) 34 = some (.aload_n 0, 0) := by decide +kernel
theorem at_462_35 : am_at (am_m 462) 35 = some (.getfield 315, 3090) := by decide +kernel
theorem at_462_38 : am_at (am_m 462) 38 = some (.if_icmp .ge 62, 100) := by decide +kernel
theorem at_462_41 : am_at (am_m 462) 41 = some (.aload_n 0, 0) := by decide +kernel
theorem at_462_42 : am_at (am_m 462) 42 = some (.getfield 732, 3167) := by decide +kernel
theorem at_462_45 : am_at (am_m 462) 45 = some (.ifCond .ne 55, 100) := by decide +kernel
theorem at_462_48 : am_at (am_m 462) 48 = some (.iload_n 3, 0) := by decide +kernel
theorem at_462_49 : am_at (am_m 462) 49 = some (.aload_n 0, 0) := by decide +kernel
theorem at_462_50 : am_at (am_m 462) 50 = some (.getfield 54, 3094) := by decide +kernel
theorem at_462_53 : am_at (am_m 462) 53 = some (.iload_n 1, 0) := by decide +kernel
theorem at_462_54 : am_at (am_m 462) 54 = some (.iaload, 0) := by decide +kernel
theorem at_462_55 : am_at (am_m 462) 55 = some (.iload_n 2, 0) := by decide +kernel
theorem at_462_56 : am_at (am_m 462) 56 = some (.invokestatic 447, 367) := by decide +kernel
theorem at_462_59 : am_at (am_m 462) 59 = some (.if_icmp .ne 6, 65) := by decide +kernel
theorem at_462_62 : am_at (am_m 462) 62 = some (.goto 32, 94) := by decide +kernel
theorem at_462_65 : am_at (am_m 462) 65 = some (.aload_n 0, 0) := by decide +kernel
theorem at_462_66 : am_at (am_m 462) 66 = some (.invokevirtual 739, 442) := by decide +kernel
theorem at_462_69 : am_at (am_m 462) 69 = some (.aload_n 0, 0) := by decide +kernel
theorem at_462_70 : am_at (am_m 462) 70 = some (.getfield 48, 3089) := by decide +kernel
theorem at_462_73 : am_at (am_m 462) 73 = some (.iload_n 1, 0) := by decide +kernel
theorem at_462_74 : am_at (am_m 462) 74 = some (.aload_n 0, 0) := by decide +kernel
theorem at_462_75 : am_at (am_m 462) 75 = some (.getfield 48, 3089) := by decide +kernel
theorem at_462_78 : am_at (am_m 462) 78 = some (.iload_n 1, 0) := by decide +kernel
theorem at_462_79 : am_at (am_m 462) 79 = some (.iaload, 0) := by decide +kernel
theorem at_462_80 : am_at (am_m 462) 80 = some (.iload_n 2, 0) := by decide +kernel
theorem at_462_81 : am_at (am_m 462) 81 = some (.iload_n 3, 0) := by decide +kernel
theorem at_462_82 : am_at (am_m 462) 82 = some (.invokestatic 516, 353) := by decide +kernel
theorem at_462_85 : am_at (am_m 462) 85 = some (.iastore, 0) := by decide +kernel
theorem at_462_86 : am_at (am_m 462) 86 = some (.aload_n 0, 0) := by decide +kernel
theorem at_462_87 : am_at (am_m 462) 87 = some (.aload_n 0, 0) := by decide +kernel
theorem at_462_88 : am_at (am_m 462) 88 = some (.invokevirtual 742, 444) := by decide +kernel
theorem at_462_91 : am_at (am_m 462) 91 = some (.putfield 732, 3167) := by decide +kernel
theorem at_462_94 : am_at (am_m 462) 94 = some (.iinc 3 1, 0) := by decide +kernel
theorem at_462_97 : am_at (am_m 462) 97 = some (.goto (-64), 33) := by decide +kernel
theorem at_462_100 : am_at (am_m 462) 100 = some (.iinc 2 1, 0) := by decide +kernel
theorem at_462_103 : am_at (am_m 462) 103 = some (.goto (-84), 19) := by decide +kernel
theorem at_462_106 : am_at (am_m 462) 106 = some (.iinc 1 1, 0) := by decide +kernel
theorem at_462_109 : am_at (am_m 462) 109 = some (.goto (-107), 2) := by decide +kernel
theorem at_462_112 : am_at (am_m 462) 112 = some (.return_, 0) := by decide +kernel
theorem at_463_0 : am_at (am_m 463) 0 = some (.iconst 0, 0) := by decide +kernel
theorem at_463_1 : am_at (am_m 463) 1 = some (.istore_n 1, 0) := by decide +kernel
theorem at_463_2 : am_at (am_m 463) 2 = some (.iload_n 1, 0) := by decide +kernel
theorem at_463_3 : am_at (am_m 463) 3 = some (.aload_n 0, 0) := by decide +kernel
theorem at_463_4 : am_at (am_m 463) 4 = some (.getfield 315, 3090) := by decide +kernel
theorem at_463_7 : am_at (am_m 463) 7 = some (.if_icmp .ge 104, 111) := by decide +kernel
theorem at_463_10 : am_at (am_m 463) 10 = some (.aload_n 0, 0) := by decide +kernel
theorem at_463_11 : am_at (am_m 463) 11 = some (.getfield 315, 3090) := by decide +kernel
theorem at_463_14 : am_at (am_m 463) 14 = some (.bipush 6, 0) := by decide +kernel
theorem at_463_16 : am_at (am_m 463) 16 = some (.if_icmp .ge 95, 111) := by decide +kernel
theorem at_463_19 : am_at (am_m 463) 19 = some (.aload_n 0, 0) := by decide +kernel
theorem at_463_20 : am_at (am_m 463) 20 = some (.getfield 732, 3167) := by decide +kernel
theorem at_463_23 : am_at (am_m 463) 23 = some (.ifCond .ne 88, 111) := by decide +kernel
theorem at_463_26 : am_at (am_m 463) 26 = some (.iconst 0, 0) := by decide +kernel
theorem at_463_27 : am_at (am_m 463) 27 = some (.istore_n 2, 0) := by decide +kernel
theorem at_463_28 : am_at (am_m 463) 28 = some (.iload_n 2, 0) := by decide +kernel
theorem at_463_29 : am_at (am_m 463) 29 = some (.iconst 4, 0) := by decide +kernel
theorem at_463_30 : am_at (am_m 463) 30 = some (.if_icmp .ge 75, 105) := by decide +kernel
theorem at_463_33 : am_at (am_m 463) 33 = some (.aload_n 0, 0) := by decide +kernel
theorem at_463_34 : am_at (am_m 463) 34 = some (.getfield 732, 3167) := by decide +kernel
theorem at_463_37 : am_at (am_m 463) 37 = some (.ifCond .ne 68, 105) := by decide +kernel
theorem at_463_40 : am_at (am_m 463) 40 = some (.aload_n 0, 0) := by decide +kernel
theorem at_463_41 : am_at (am_m 463) 41 = some (.getfield 54, 3094) := by decide +kernel
theorem at_463_44 : am_at (am_m 463) 44 = some (.iload_n 1, 0) := by decide +kernel
theorem at_463_45 : am_at (am_m 463) 45 = some (.iaload, 0) := by decide +kernel
theorem at_463_46 : am_at (am_m 463) 46 = some (.iload_n 2, 0) := by decide +kernel
theorem at_463_47 : am_at (am_m 463) 47 = some (.invokestatic 447, 367) := by decide +kernel
theorem at_463_50 : am_at (am_m 463) 50 = some (.istore_n 3, 0) := by decide +kernel
theorem at_463_51 : am_at (am_m 463) 51 = some (.aload_n 0, 0) := by decide +kernel
theorem at_463_52 : am_at (am_m 463) 52 = some (.invokevirtual 739, 442) := by decide +kernel
theorem at_463_55 : am_at (am_m 463) 55 = some (.aload_n 0, 0) := by decide +kernel
theorem at_463_56 : am_at (am_m 463) 56 = some (.aload_n 0, 0) := by decide +kernel
theorem at_463_57 : am_at (am_m 463) 57 = some (.getfield 51, 3093) := by decide +kernel
theorem at_463_60 : am_at (am_m 463) 60 = some (.iload_n 3, 0) := by decide +kernel
theorem at_463_61 : am_at (am_m 463) 61 = some (.iaload, 0) := by decide +kernel
theorem at_463_62 : am_at (am_m 463) 62 = some (.aload_n 0, 0) := by decide +kernel
theorem at_463_63 : am_at (am_m 463) 63 = some (.getfield 54, 3094) := by decide +kernel
theorem at_463_66 : am_at (am_m 463) 66 = some (.iload_n 3, 0) := by decide +kernel
theorem at_463_67 : am_at (am_m 463) 67 = some (.iaload, 0) := by decide +kernel
theorem at_463_68 : am_at (am_m 463) 68 = some (.invokevirtual 335, 335) := by decide +kernel
theorem at_463_71 : am_at (am_m 463) 71 = some (.aload_n 0, 0) := by decide +kernel
theorem at_463_72 : am_at (am_m 463) 72 = some (.getfield 48, 3089) := by decide +kernel
theorem at_463_75 : am_at (am_m 463) 75 = some (.iload_n 1, 0) := by decide +kernel
theorem at_463_76 : am_at (am_m 463) 76 = some (.aload_n 0, 0) := by decide +kernel
theorem at_463_77 : am_at (am_m 463) 77 = some (.getfield 48, 3089) := by decide +kernel
theorem at_463_80 : am_at (am_m 463) 80 = some (.iload_n 1, 0) := by decide +kernel
theorem at_463_81 : am_at (am_m 463) 81 = some (.iaload, 0) := by decide +kernel
theorem at_463_82 : am_at (am_m 463) 82 = some (.iload_n 2, 0) := by decide +kernel
theorem at_463_83 : am_at (am_m 463) 83 = some (.aload_n 0, 0) := by decide +kernel
theorem at_463_84 : am_at (am_m 463) 84 = some (.getfield 315, 3090) := by decide +kernel
theorem at_463_87 : am_at (am_m 463) 87 = some (.invokestatic 516, 353) := by decide +kernel
theorem at_463_90 : am_at (am_m 463) 90 = some (.iastore, 0) := by decide +kernel
theorem at_463_91 : am_at (am_m 463) 91 = some (.aload_n 0, 0) := by decide +kernel
theorem at_463_92 : am_at (am_m 463) 92 = some (.aload_n 0, 0) := by decide +kernel
theorem at_463_93 : am_at (am_m 463) 93 = some (.invokevirtual 742, 444) := by decide +kernel
theorem at_463_96 : am_at (am_m 463) 96 = some (.putfield 732, 3167) := by decide +kernel
theorem at_463_99 : am_at (am_m 463) 99 = some (.iinc 2 1, 0) := by decide +kernel
theorem at_463_102 : am_at (am_m 463) 102 = some (.goto (-74), 28) := by decide +kernel
theorem at_463_105 : am_at (am_m 463) 105 = some (.iinc 1 1, 0) := by decide +kernel
theorem at_463_108 : am_at (am_m 463) 108 = some (.goto (-106), 2) := by decide +kernel
theorem at_463_111 : am_at (am_m 463) 111 = some (.return_, 0) := by decide +kernel
theorem at_464_0 : am_at (am_m 464) 0 = some (.iconst 1, 0) := by decide +kernel
theorem at_464_1 : am_at (am_m 464) 1 = some (.istore_n 1, 0) := by decide +kernel
theorem at_464_2 : am_at (am_m 464) 2 = some (.iload_n 1, 0) := by decide +kernel
theorem at_464_3 : am_at (am_m 464) 3 = some (.aload_n 0, 0) := by decide +kernel
theorem at_464_4 : am_at (am_m 464) 4 = some (.getfield 315, 3090) := by decide +kernel
theorem at_464_7 : am_at (am_m 464) 7 = some (.if_icmp .ge 125, 132) := by decide +kernel
theorem at_464_10 : am_at (am_m 464) 10 = some (.aload_n 0, 0) := by decide +kernel
theorem at_464_11 : am_at (am_m 464) 11 = some (.getfield 732, 3167) := by decide +kernel
theorem at_464_14 : am_at (am_m 464) 14 = some (.ifCond .ne 118, 132) := by decide +kernel
theorem at_464_17 : am_at (am_m 464) 17 = some (.aload_n 0, 0) := by decide +kernel
theorem at_464_18 : am_at (am_m 464) 18 = some (.invokevirtual 753, 451) := by decide +kernel
theorem at_464_21 : am_at (am_m 464) 21 = some (.iconst 0, 0) := by decide +kernel
theorem at_464_22 : am_at (am_m 464) 22 = some (.istore_n 2, 0) := by decide +kernel
theorem at_464_23 : am_at (am_m 464) 23 = some (.iload_n 2, 0) := by decide +kernel
theorem at_464_24 : am_at (am_m 464) 24 = some (.aload_n 0, 0) := by decide +kernel
theorem at_464_25 : am_at (am_m 464) 25 = some (.getfield 315, 3090) := by decide +kernel
theorem at_464_28 : am_at (am_m 464) 28 = some (.if_icmp .ge 90, 118) := by decide +kernel
theorem at_464_31 : am_at (am_m 464) 31 = some (.iload_n 2, 0) := by decide +kernel
theorem at_464_32 : am_at (am_m 464) 32 = some (.iload_n 1, 0) := by decide +kernel
theorem at_464_33 : am_at (am_m 464) 33 = some (.if_icmp .ne 6, 39) := by decide +kernel
theorem at_464_36 : am_at (am_m 464) 36 = some (.goto 76, 112) := by decide +kernel
theorem at_464_39 : am_at (am_m 464) 39 = some (.iconst 0, 0) := by decide +kernel
theorem at_464_40 : am_at (am_m 464) 40 = some (.istore_n 3, 0) := by decide +kernel
theorem at_464_41 : am_at (am_m 464) 41 = some (.iconst 0, 0) := by decide +kernel
theorem at_464_42 : am_at (am_m 464) 42 = some (.istore 4, 0) := by decide +kernel
theorem at_464_44 : am_at (am_m 464) 44 = some (.iload 4, 0) := by decide +kernel
theorem at_464_46 : am_at (am_m 464) 46 = some (.iconst 4, 0) := by decide +kernel
theorem at_464_47 : am_at (am_m 464) 47 = some (.if_icmp .ge 54, 101) := by decide +kernel
theorem at_464_50 : am_at (am_m 464) 50 = some (.aload_n 0, 0) := by decide +kernel
theorem at_464_51 : am_at (am_m 464) 51 = some (.getfield 54, 3094) := by decide +kernel
theorem at_464_54 : am_at (am_m 464) 54 = some (.iload_n 2, 0) := by decide +kernel
theorem at_464_55 : am_at (am_m 464) 55 = some (.iaload, 0) := by decide +kernel
theorem at_464_56 : am_at (am_m 464) 56 = some (.iload 4, 0) := by decide +kernel
theorem at_464_58 : am_at (am_m 464) 58 = some (.invokestatic 447, 367) := by decide +kernel
theorem at_464_61 : am_at (am_m 464) 61 = some (.istore 5, 0) := by decide +kernel
theorem at_464_63 : am_at (am_m 464) 63 = some (.iload_n 3, 0) := by decide +kernel
theorem at_464_64 : am_at (am_m 464) 64 = some (.iload 4, 0) := by decide +kernel
theorem at_464_66 : am_at (am_m 464) 66 = some (.iload 5, 0) := by decide +kernel
theorem at_464_68 : am_at (am_m 464) 68 = some (.iload_n 1, 0) := by decide +kernel
theorem at_464_69 : am_at (am_m 464) 69 = some (.if_icmp .ne 7, 76) := by decide +kernel
theorem at_464_72 : am_at (am_m 464) 72 = some (.iconst 0, 0) := by decide +kernel
theorem at_464_73 : am_at (am_m 464) 73 = some (.goto 18, 91) := by decide +kernel
theorem at_464_76 : am_at (am_m 464) 76 = some (.iload 5, 0) := by decide +kernel
theorem at_464_78 : am_at (am_m 464) 78 = some (.iload_n 1, 0) := by decide +kernel
theorem at_464_79 : am_at (am_m 464) 79 = some (.if_icmp .le 10, 89) := by decide +kernel
theorem at_464_82 : am_at (am_m 464) 82 = some (.iload 5, 0) := by decide +kernel
theorem at_464_84 : am_at (am_m 464) 84 = some (.iconst 1, 0) := by decide +kernel
theorem at_464_85 : am_at (am_m 464) 85 = some (.isub, 0) := by decide +kernel
theorem at_464_86 : am_at (am_m 464) 86 = some (.goto 5, 91) := by decide +kernel
theorem at_464_89 : am_at (am_m 464) 89 = some (.iload 5, 0) := by decide +kernel
theorem at_464_91 : am_at (am_m 464) 91 = some (.invokestatic 516, 353) := by decide +kernel
theorem at_464_94 : am_at (am_m 464) 94 = some (.istore_n 3, 0) := by decide +kernel
theorem at_464_95 : am_at (am_m 464) 95 = some (.iinc 4 1, 0) := by decide +kernel
theorem at_464_98 : am_at (am_m 464) 98 = some (.goto (-54), 44) := by decide +kernel
theorem at_464_101 : am_at (am_m 464) 101 = some (.aload_n 0, 0) := by decide +kernel
theorem at_464_102 : am_at (am_m 464) 102 = some (.aload_n 0, 0) := by decide +kernel
theorem at_464_103 : am_at (am_m 464) 103 = some (.getfield 51, 3093) := by decide +kernel
theorem at_464_106 : am_at (am_m 464) 106 = some (.iload_n 2, 0) := by decide +kernel
theorem at_464_107 : am_at (am_m 464) 107 = some (.iaload, 0) := by decide +kernel
theorem at_464_108 : am_at (am_m 464) 108 = some (.iload_n 3, 0) := by decide +kernel
theorem at_464_109 : am_at (am_m 464) 109 = some (.invokevirtual 335, 335) := by decide +kernel
theorem at_464_112 : am_at (am_m 464) 112 = some (.iinc 2 1, 0) := by decide +kernel
theorem at_464_115 : am_at (am_m 464) 115 = some (.goto (-92), 23) := by decide +kernel
theorem at_464_118 : am_at (am_m 464) 118 = some (.aload_n 0, 0) := by decide +kernel
theorem at_464_119 : am_at (am_m 464) 119 = some (.aload_n 0, 0) := by decide +kernel
theorem at_464_120 : am_at (am_m 464) 120 = some (.invokevirtual 742, 444) := by decide +kernel
theorem at_464_123 : am_at (am_m 464) 123 = some (.putfield 732, 3167) := by decide +kernel
theorem at_464_126 : am_at (am_m 464) 126 = some (.iinc 1 1, 0) := by decide +kernel
theorem at_464_129 : am_at (am_m 464) 129 = some (.goto (-127), 2) := by decide +kernel
theorem at_464_132 : am_at (am_m 464) 132 = some (.return_, 0) := by decide +kernel
theorem at_465_0 : am_at (am_m 465) 0 = some (.iconst 0, 0) := by decide +kernel
theorem at_465_1 : am_at (am_m 465) 1 = some (.istore_n 1, 0) := by decide +kernel
theorem at_465_2 : am_at (am_m 465) 2 = some (.iload_n 1, 0) := by decide +kernel
theorem at_465_3 : am_at (am_m 465) 3 = some (.aload_n 0, 0) := by decide +kernel
theorem at_465_4 : am_at (am_m 465) 4 = some (.getfield 315, 3090) := by decide +kernel
theorem at_465_7 : am_at (am_m 465) 7 = some (.if_icmp .ge 113, 120) := by decide +kernel
theorem at_465_10 : am_at (am_m 465) 10 = some (.aload_n 0, 0) := by decide +kernel
theorem at_465_11 : am_at (am_m 465) 11 = some (.getfield 732, 3167) := by decide +kernel
theorem at_465_14 : am_at (am_m 465) 14 = some (.ifCond .ne 106, 120) := by decide +kernel
theorem at_465_17 : am_at (am_m 465) 17 = some (.iconst 0, 0) := by decide +kernel
theorem at_465_18 : am_at (am_m 465) 18 = some (.istore_n 2, 0) := by decide +kernel
theorem at_465_19 : am_at (am_m 465) 19 = some (.iload_n 2, 0) := by decide +kernel
theorem at_465_20 : am_at (am_m 465) 20 = some (.aload_n 0, 0) := by decide +kernel
theorem at_465_21 : am_at (am_m 465) 21 = some (.getfield 318, 3091) := by decide +kernel
theorem at_465_24 : am_at (am_m 465) 24 = some (.if_icmp .ge 90, 114) := by decide +kernel
theorem at_465_27 : am_at (am_m 465) 27 = some (.aload_n 0, 0) := by decide +kernel
theorem at_465_28 : am_at (am_m 465) 28 = some (.getfield 732, 3167) := by decide +kernel
theorem at_465_31 : am_at (am_m 465) 31 = some (.ifCond .ne 83, 114) := by decide +kernel
theorem at_465_34 : am_at (am_m 465) 34 = some (.iload_n 2, 0) := by decide +kernel
theorem at_465_35 : am_at (am_m 465) 35 = some (.iconst 1, 0) := by decide +kernel
theorem at_465_36 : am_at (am_m 465) 36 = some (.iadd, 0) := by decide +kernel
theorem at_465_37 : am_at (am_m 465) 37 = some (.istore_n 3, 0) := by decide +kernel
theorem at_465_38 : am_at (am_m 465) 38 = some (.iload_n 3, 0) := by decide +kernel
theorem at_465_39 : am_at (am_m 465) 39 = some (.aload_n 0, 0) := by decide +kernel
theorem at_465_40 : am_at (am_m 465) 40 = some (.getfield 318, 3091) := by decide +kernel
theorem at_465_43 : am_at (am_m 465) 43 = some (.if_icmp .ge 65, 108) := by decide +kernel
theorem at_465_46 : am_at (am_m 465) 46 = some (.aload_n 0, 0) := by decide +kernel
theorem at_465_47 : am_at (am_m 465) 47 = some (.getfield 732, 3167) := by decide +kernel
theorem at_465_50 : am_at (am_m 465) 50 = some (.ifCond .ne 58, 108) := by decide +kernel
theorem at_465_53 : am_at (am_m 465) 53 = some (.iload_n 2, 0) := by decide +kernel
theorem at_465_54 : am_at (am_m 465) 54 = some (.aload_n 0, 0) := by decide +kernel
theorem at_465_55 : am_at (am_m 465) 55 = some (.getfield 51, 3093) := by decide +kernel
theorem at_465_58 : am_at (am_m 465) 58 = some (.iload_n 1, 0) := by decide +kernel
theorem at_465_59 : am_at (am_m 465) 59 = some (.iaload, 0) := by decide +kernel
theorem at_465_60 : am_at (am_m 465) 60 = some (.if_icmp .ne 16, 76) := by decide +kernel
theorem at_465_63 : am_at (am_m 465) 63 = some (.iload_n 3, 0) := by decide +kernel
theorem at_465_64 : am_at (am_m 465) 64 = some (.aload_n 0, 0) := by decide +kernel
theorem at_465_65 : am_at (am_m 465) 65 = some (.getfield 54, 3094) := by decide +kernel
theorem at_465_68 : am_at (am_m 465) 68 = some (.iload_n 1, 0) := by decide +kernel
theorem at_465_69 : am_at (am_m 465) 69 = some (.iaload, 0) := by decide +kernel
theorem at_465_70 : am_at (am_m 465) 70 = some (.if_icmp .ne 6, 76) := by decide +kernel
theorem at_465_73 : am_at (am_m 465) 73 = some (.goto 29, 102) := by decide +kernel
theorem at_465_76 : am_at (am_m 465) 76 = some (.aload_n 0, 0) := by decide +kernel
theorem at_465_77 : am_at (am_m 465) 77 = some (.invokevirtual 739, 442) := by decide +kernel
theorem at_465_80 : am_at (am_m 465) 80 = some (.aload_n 0, 0) := by decide +kernel
theorem at_465_81 : am_at (am_m 465) 81 = some (.getfield 45, 3088) := by decide +kernel
theorem at_465_84 : am_at (am_m 465) 84 = some (.iload_n 1, 0) := by decide +kernel
theorem at_465_85 : am_at (am_m 465) 85 = some (.iload_n 2, 0) := by decide +kernel
theorem at_465_86 : am_at (am_m 465) 86 = some (.iastore, 0) := by decide +kernel
theorem at_465_87 : am_at (am_m 465) 87 = some (.aload_n 0, 0) := by decide +kernel
theorem at_465_88 : am_at (am_m 465) 88 = some (.getfield 48, 3089) := by decide +kernel
theorem at_465_91 : am_at (am_m 465) 91 = some (.iload_n 1, 0) := by decide +kernel
theorem at_465_92 : am_at (am_m 465) 92 = some (.iload_n 3, 0) := by decide +kernel
theorem at_465_93 : am_at (am_m 465) 93 = some (.iastore, 0) := by decide +kernel
theorem at_465_94 : am_at (am_m 465) 94 = some (.aload_n 0, 0) := by decide +kernel
theorem at_465_95 : am_at (am_m 465) 95 = some (.aload_n 0, 0) := by decide +kernel
theorem at_465_96 : am_at (am_m 465) 96 = some (.invokevirtual 742, 444) := by decide +kernel
theorem at_465_99 : am_at (am_m 465) 99 = some (.putfield 732, 3167) := by decide +kernel
theorem at_465_102 : am_at (am_m 465) 102 = some (.iinc 3 1, 0) := by decide +kernel
theorem at_465_105 : am_at (am_m 465) 105 = some (.goto (-67), 38) := by decide +kernel
theorem at_465_108 : am_at (am_m 465) 108 = some (.iinc 2 1, 0) := by decide +kernel
theorem at_465_111 : am_at (am_m 465) 111 = some (.goto (-92), 19) := by decide +kernel
theorem at_465_114 : am_at (am_m 465) 114 = some (.iinc 1 1, 0) := by decide +kernel
theorem at_465_117 : am_at (am_m 465) 117 = some (.goto (-115), 2) := by decide +kernel
theorem at_465_120 : am_at (am_m 465) 120 = some (.return_, 0) := by decide +kernel
theorem at_466_0 : am_at (am_m 466) 0 = some (.iconst 0, 0) := by decide +kernel
theorem at_466_1 : am_at (am_m 466) 1 = some (.istore_n 1, 0) := by decide +kernel
theorem at_466_2 : am_at (am_m 466) 2 = some (.iload_n 1, 0) := by decide +kernel
theorem at_466_3 : am_at (am_m 466) 3 = some (.aload_n 0, 0) := by decide +kernel
theorem at_466_4 : am_at (am_m 466) 4 = some (.getfield 315, 3090) := by decide +kernel
theorem at_466_7 : am_at (am_m 466) 7 = some (.if_icmp .ge 45, 52) := by decide +kernel
theorem at_466_10 : am_at (am_m 466) 10 = some (.aload_n 0, 0) := by decide +kernel
theorem at_466_11 : am_at (am_m 466) 11 = some (.getfield 732, 3167) := by decide +kernel
theorem at_466_14 : am_at (am_m 466) 14 = some (.ifCond .ne 38, 52) := by decide +kernel
theorem at_466_17 : am_at (am_m 466) 17 = some (.aload_n 0, 0) := by decide +kernel
theorem at_466_18 : am_at (am_m 466) 18 = some (.invokevirtual 753, 451) := by decide +kernel
theorem at_466_21 : am_at (am_m 466) 21 = some (.aload_n 0, 0) := by decide +kernel
theorem at_466_22 : am_at (am_m 466) 22 = some (.iconst 0, 0) := by decide +kernel
theorem at_466_23 : am_at (am_m 466) 23 = some (.iload_n 1, 0) := by decide +kernel
theorem at_466_24 : am_at (am_m 466) 24 = some (.invokevirtual 331, 443) := by decide +kernel
theorem at_466_27 : am_at (am_m 466) 27 = some (.aload_n 0, 0) := by decide +kernel
theorem at_466_28 : am_at (am_m 466) 28 = some (.iload_n 1, 0) := by decide +kernel
theorem at_466_29 : am_at (am_m 466) 29 = some (.iconst 1, 0) := by decide +kernel
theorem at_466_30 : am_at (am_m 466) 30 = some (.iadd, 0) := by decide +kernel
theorem at_466_31 : am_at (am_m 466) 31 = some (.aload_n 0, 0) := by decide +kernel
theorem at_466_32 : am_at (am_m 466) 32 = some (.getfield 315, 3090) := by decide +kernel
theorem at_466_35 : am_at (am_m 466) 35 = some (.invokevirtual 331, 443) := by decide +kernel
theorem at_466_38 : am_at (am_m 466) 38 = some (.aload_n 0, 0) := by decide +kernel
theorem at_466_39 : am_at (am_m 466) 39 = some (.aload_n 0, 0) := by decide +kernel
theorem at_466_40 : am_at (am_m 466) 40 = some (.invokevirtual 742, 444) := by decide +kernel
theorem at_466_43 : am_at (am_m 466) 43 = some (.putfield 732, 3167) := by decide +kernel
theorem at_466_46 : am_at (am_m 466) 46 = some (.iinc 1 1, 0) := by decide +kernel
theorem at_466_49 : am_at (am_m 466) 49 = some (.goto (-47), 2) := by decide +kernel
theorem at_466_52 : am_at (am_m 466) 52 = some (.return_, 0) := by decide +kernel
theorem at_467_0 : am_at (am_m 467) 0 = some (.iconst 0, 0) := by decide +kernel
theorem at_467_1 : am_at (am_m 467) 1 = some (.istore_n 1, 0) := by decide +kernel
theorem at_467_2 : am_at (am_m 467) 2 = some (.iload_n 1, 0) := by decide +kernel
theorem at_467_3 : am_at (am_m 467) 3 = some (.aload_n 0, 0) := by decide +kernel
theorem at_467_4 : am_at (am_m 467) 4 = some (.getfield 315, 3090) := by decide +kernel
theorem at_467_7 : am_at (am_m 467) 7 = some (.if_icmp .gt 97, 104) := by decide +kernel
theorem at_467_10 : am_at (am_m 467) 10 = some (.aload_n 0, 0) := by decide +kernel
theorem at_467_11 : am_at (am_m 467) 11 = some (.getfield 732, 3167) := by decide +kernel
theorem at_467_14 : am_at (am_m 467) 14 = some (.ifCond .ne 90, 104) := by decide +kernel
theorem at_467_17 : am_at (am_m 467) 17 = some (.iconst 0, 0) := by decide +kernel
theorem at_467_18 : am_at (am_m 467) 18 = some (.istore_n 2, 0) := by decide +kernel
theorem at_467_19 : am_at (am_m 467) 19 = some (.iload_n 2, 0) := by decide +kernel
theorem at_467_20 : am_at (am_m 467) 20 = some (.aload_n 0, 0) := by decide +kernel
theorem at_467_21 : am_at (am_m 467) 21 = some (.getfield 318, 3091) := by decide +kernel
theorem at_467_24 : am_at (am_m 467) 24 = some (.if_icmp .ge 74, 98) := by decide +kernel
theorem at_467_27 : am_at (am_m 467) 27 = some (.aload_n 0, 0) := by decide +kernel
theorem at_467_28 : am_at (am_m 467) 28 = some (.getfield 732, 3167) := by decide +kernel
theorem at_467_31 : am_at (am_m 467) 31 = some (.ifCond .ne 67, 98) := by decide +kernel
theorem at_467_34 : am_at (am_m 467) 34 = some (.iload_n 2, 0) := by decide +kernel
theorem at_467_35 : am_at (am_m 467) 35 = some (.iconst 1, 0) := by decide +kernel
theorem at_467_36 : am_at (am_m 467) 36 = some (.iadd, 0) := by decide +kernel
theorem at_467_37 : am_at (am_m 467) 37 = some (.istore_n 3, 0) := by decide +kernel
theorem at_467_38 : am_at (am_m 467) 38 = some (.iload_n 3, 0) := by decide +kernel
theorem at_467_39 : am_at (am_m 467) 39 = some (.aload_n 0, 0) := by decide +kernel
theorem at_467_40 : am_at (am_m 467) 40 = some (.getfield 318, 3091) := by decide +kernel
theorem at_467_43 : am_at (am_m 467) 43 = some (.if_icmp .ge 49, 92) := by decide +kernel
theorem at_467_46 : am_at (am_m 467) 46 = some (.aload_n 0, 0) := by decide +kernel
theorem at_467_47 : am_at (am_m 467) 47 = some (.getfield 732, 3167) := by decide +kernel
theorem at_467_50 : am_at (am_m 467) 50 = some (.ifCond .ne 42, 92) := by decide +kernel
theorem at_467_53 : am_at (am_m 467) 53 = some (.aload_n 0, 0) := by decide +kernel
theorem at_467_54 : am_at (am_m 467) 54 = some (.invokevirtual 753, 451) := by decide +kernel
theorem at_467_57 : am_at (am_m 467) 57 = some (.aload_n 0, 0) := by decide +kernel
theorem at_467_58 : am_at (am_m 467) 58 = some (.iconst 0, 0) := by decide +kernel
theorem at_467_59 : am_at (am_m 467) 59 = some (.iload_n 1, 0) := by decide +kernel
theorem at_467_60 : am_at (am_m 467) 60 = some (.invokevirtual 331, 443) := by decide +kernel
theorem at_467_63 : am_at (am_m 467) 63 = some (.aload_n 0, 0) := by decide +kernel
theorem at_467_64 : am_at (am_m 467) 64 = some (.iload_n 2, 0) := by decide +kernel
theorem at_467_65 : am_at (am_m 467) 65 = some (.iload_n 3, 0) := by decide +kernel
theorem at_467_66 : am_at (am_m 467) 66 = some (.invokevirtual 335, 335) := by decide +kernel
theorem at_467_69 : am_at (am_m 467) 69 = some (.aload_n 0, 0) := by decide +kernel
theorem at_467_70 : am_at (am_m 467) 70 = some (.iload_n 1, 0) := by decide +kernel
theorem at_467_71 : am_at (am_m 467) 71 = some (.aload_n 0, 0) := by decide +kernel
theorem at_467_72 : am_at (am_m 467) 72 = some (.getfield 315, 3090) := by decide +kernel
theorem at_467_75 : am_at (am_m 467) 75 = some (.invokevirtual 331, 443) := by decide +kernel
theorem at_467_78 : am_at (am_m 467) 78 = some (.aload_n 0, 0) := by decide +kernel
theorem at_467_79 : am_at (am_m 467) 79 = some (.aload_n 0, 0) := by decide +kernel
theorem at_467_80 : am_at (am_m 467) 80 = some (.invokevirtual 742, 444) := by decide +kernel
theorem at_467_83 : am_at (am_m 467) 83 = some (.putfield 732, 3167) := by decide +kernel
theorem at_467_86 : am_at (am_m 467) 86 = some (.iinc 3 1, 0) := by decide +kernel
theorem at_467_89 : am_at (am_m 467) 89 = some (.goto (-51), 38) := by decide +kernel
theorem at_467_92 : am_at (am_m 467) 92 = some (.iinc 2 1, 0) := by decide +kernel
theorem at_467_95 : am_at (am_m 467) 95 = some (.goto (-76), 19) := by decide +kernel
theorem at_467_98 : am_at (am_m 467) 98 = some (.iinc 1 1, 0) := by decide +kernel
theorem at_467_101 : am_at (am_m 467) 101 = some (.goto (-99), 2) := by decide +kernel
theorem at_467_104 : am_at (am_m 467) 104 = some (.return_, 0) := by decide +kernel
theorem at_468_0 : am_at (am_m 468) 0 = some (.iconst 0, 0) := by decide +kernel
theorem at_468_1 : am_at (am_m 468) 1 = some (.istore_n 1, 0) := by decide +kernel
theorem at_468_2 : am_at (am_m 468) 2 = some (.iload_n 1, 0) := by decide +kernel
theorem at_468_3 : am_at (am_m 468) 3 = some (.iconst 1, 0) := by decide +kernel
theorem at_468_4 : am_at (am_m 468) 4 = some (.iadd, 0) := by decide +kernel
theorem at_468_5 : am_at (am_m 468) 5 = some (.aload_n 0, 0) := by decide +kernel
theorem at_468_6 : am_at (am_m 468) 6 = some (.getfield 315, 3090) := by decide +kernel
theorem at_468_9 : am_at (am_m 468) 9 = some (.if_icmp .ge 121, 130) := by decide +kernel
theorem at_468_12 : am_at (am_m 468) 12 = some (.aload_n 0, 0) := by decide +kernel
theorem at_468_13 : am_at (am_m 468) 13 = some (.getfield 732, 3167) := by decide +kernel
theorem at_468_16 : am_at (am_m 468) 16 = some (.ifCond .ne 114, 130) := by decide +kernel
theorem at_468_19 : am_at (am_m 468) 19 = some (.aload_n 0, 0) := by decide +kernel
theorem at_468_20 : am_at (am_m 468) 20 = some (.getfield 51, 3093) := by decide +kernel
theorem at_468_23 : am_at (am_m 468) 23 = some (.iload_n 1, 0) := by decide +kernel
theorem at_468_24 : am_at (am_m 468) 24 = some (.iaload, 0) := by decide +kernel
theorem at_468_25 : am_at (am_m 468) 25 = some (.aload_n 0, 0) := by decide +kernel
theorem at_468_26 : am_at (am_m 468) 26 = some (.getfield 51, 3093) := by decide +kernel
theorem at_468_29 : am_at (am_m 468) 29 = some (.iload_n 1, 0) := by decide +kernel
theorem at_468_30 : am_at (am_m 468) 30 = some (.iconst 1, 0) := by decide +kernel
theorem at_468_31 : am_at (am_m 468) 31 = some (.iadd, 0) := by decide +kernel
theorem at_468_32 : am_at (am_m 468) 32 = some (.iaload, 0) := by decide +kernel
theorem at_468_33 : am_at (am_m 468) 33 = some (.if_icmp .ne 23, 56) := by decide +kernel
theorem at_468_36 : am_at (am_m 468) 36 = some (.aload_n 0, 0) := by decide +kernel
theorem at_468_37 : am_at (am_m 468) 37 = some (.getfield 54, 3094) := by decide +kernel
theorem at_468_40 : am_at (am_m 468) 40 = some (.iload_n 1, 0) := by decide +kernel
theorem at_468_41 : am_at (am_m 468) 41 = some (.iaload, 0) := by decide +kernel
theorem at_468_42 : am_at (am_m 468) 42 = some (.aload_n 0, 0) := by decide +kernel
theorem at_468_43 : am_at (am_m 468) 43 = some (.getfield 54, 3094) := by decide +kernel
theorem at_468_46 : am_at (am_m 468) 46 = some (.iload_n 1, 0) := by decide +kernel
theorem at_468_47 : am_at (am_m 468) 47 = some (.iconst 1, 0) := by decide +kernel
theorem at_468_48 : am_at (am_m 468) 48 = some (.iadd, 0) := by decide +kernel
theorem at_468_49 : am_at (am_m 468) 49 = some (.iaload, 0) := by decide +kernel
theorem at_468_50 : am_at (am_m 468) 50 = some (.if_icmp .ne 6, 56) := by decide +kernel
theorem at_468_53 : am_at (am_m 468) 53 = some (.goto 71, 124) := by decide +kernel
theorem at_468_56 : am_at (am_m 468) 56 = some (.aload_n 0, 0) := by decide +kernel
theorem at_468_57 : am_at (am_m 468) 57 = some (.invokevirtual 739, 442) := by decide +kernel
theorem at_468_60 : am_at (am_m 468) 60 = some (.aload_n 0, 0) := by decide +kernel
theorem at_468_61 : am_at (am_m 468) 61 = some (.getfield 45, 3088) := by decide +kernel
theorem at_468_64 : am_at (am_m 468) 64 = some (.iload_n 1, 0) := by decide +kernel
theorem at_468_65 : am_at (am_m 468) 65 = some (.aload_n 0, 0) := by decide +kernel
theorem at_468_66 : am_at (am_m 468) 66 = some (.getfield 51, 3093) := by decide +kernel
theorem at_468_69 : am_at (am_m 468) 69 = some (.iload_n 1, 0) := by decide +kernel
theorem at_468_70 : am_at (am_m 468) 70 = some (.iconst 1, 0) := by decide +kernel
theorem at_468_71 : am_at (am_m 468) 71 = some (.iadd, 0) := by decide +kernel
theorem at_468_72 : am_at (am_m 468) 72 = some (.iaload, 0) := by decide +kernel
theorem at_468_73 : am_at (am_m 468) 73 = some (.iastore, 0) := by decide +kernel
theorem at_468_74 : am_at (am_m 468) 74 = some (.aload_n 0, 0) := by decide +kernel
theorem at_468_75 : am_at (am_m 468) 75 = some (.getfield 48, 3089) := by decide +kernel
theorem at_468_78 : am_at (am_m 468) 78 = some (.iload_n 1, 0) := by decide +kernel
theorem at_468_79 : am_at (am_m 468) 79 = some (.aload_n 0, 0) := by decide +kernel
theorem at_468_80 : am_at (am_m 468) 80 = some (.getfield 54, 3094) := by decide +kernel
theorem at_468_83 : am_at (am_m 468) 83 = some (.iload_n 1, 0) := by decide +kernel
theorem at_468_84 : am_at (am_m 468) 84 = some (.iconst 1, 0) := by decide +kernel
theorem at_468_85 : am_at (am_m 468) 85 = some (.iadd, 0) := by decide +kernel
theorem at_468_86 : am_at (am_m 468) 86 = some (.iaload, 0) := by decide +kernel
theorem at_468_87 : am_at (am_m 468) 87 = some (.iastore, 0) := by decide +kernel
theorem at_468_88 : am_at (am_m 468) 88 = some (.aload_n 0, 0) := by decide +kernel
theorem at_468_89 : am_at (am_m 468) 89 = some (.getfield 45, 3088) := by decide +kernel
theorem at_468_92 : am_at (am_m 468) 92 = some (.iload_n 1, 0) := by decide +kernel
theorem at_468_93 : am_at (am_m 468) 93 = some (.iconst 1, 0) := by decide +kernel
theorem at_468_94 : am_at (am_m 468) 94 = some (.iadd, 0) := by decide +kernel
theorem at_468_95 : am_at (am_m 468) 95 = some (.aload_n 0, 0) := by decide +kernel
theorem at_468_96 : am_at (am_m 468) 96 = some (.getfield 51, 3093) := by decide +kernel
theorem at_468_99 : am_at (am_m 468) 99 = some (.iload_n 1, 0) := by decide +kernel
theorem at_468_100 : am_at (am_m 468) 100 = some (.iaload, 0) := by decide +kernel
theorem at_468_101 : am_at (am_m 468) 101 = some (.iastore, 0) := by decide +kernel
theorem at_468_102 : am_at (am_m 468) 102 = some (.aload_n 0, 0) := by decide +kernel
theorem at_468_103 : am_at (am_m 468) 103 = some (.getfield 48, 3089) := by decide +kernel
theorem at_468_106 : am_at (am_m 468) 106 = some (.iload_n 1, 0) := by decide +kernel
theorem at_468_107 : am_at (am_m 468) 107 = some (.iconst 1, 0) := by decide +kernel
theorem at_468_108 : am_at (am_m 468) 108 = some (.iadd, 0) := by decide +kernel
theorem at_468_109 : am_at (am_m 468) 109 = some (.aload_n 0, 0) := by decide +kernel
theorem at_468_110 : am_at (am_m 468) 110 = some (.getfield 54, 3094) := by decide +kernel
theorem at_468_113 : am_at (am_m 468) 113 = some (.iload_n 1, 0) := by decide +kernel
theorem at_468_114 : am_at (am_m 468) 114 = some (.iaload, 0) := by decide +kernel
theorem at_468_115 : am_at (am_m 468) 115 = some (.iastore, 0) := by decide +kernel
theorem at_468_116 : am_at (am_m 468) 116 = some (.aload_n 0, 0) := by decide +kernel
theorem at_468_117 : am_at (am_m 468) 117 = some (.aload_n 0, 0) := by decide +kernel
theorem at_468_118 : am_at (am_m 468) 118 = some (.invokevirtual 742, 444) := by decide +kernel
theorem at_468_121 : am_at (am_m 468) 121 = some (.putfield 732, 3167) := by decide +kernel
theorem at_468_124 : am_at (am_m 468) 124 = some (.iinc 1 1, 0) := by decide +kernel
theorem at_468_127 : am_at (am_m 468) 127 = some (.goto (-125), 2) := by decide +kernel
theorem at_468_130 : am_at (am_m 468) 130 = some (.return_, 0) := by decide +kernel
theorem mi_3 : am_mi 3 = (1, 2, 7, 1) := by decide +kernel
theorem mi_9 : am_mi 9 = (4, 1, 4, 9) := by decide +kernel
theorem mi_10 : am_mi 10 = (2, 0, 4, 3) := by decide +kernel
theorem mi_11 : am_mi 11 = (1, 0, 11, 1) := by decide +kernel
theorem mi_12 : am_mi 12 = (3, 0, 4, 4) := by decide +kernel
theorem mi_13 : am_mi 13 = (2, 0, 11, 2) := by decide +kernel
theorem mi_14 : am_mi 14 = (1, 0, 11, 1) := by decide +kernel
theorem mi_15 : am_mi 15 = (3, 1, 4, 3) := by decide +kernel
theorem mi_16 : am_mi 16 = (4, 1, 4, 7) := by decide +kernel
theorem mi_18 : am_mi 18 = (2, 2, 3, 2) := by decide +kernel
theorem mi_31 : am_mi 31 = (2, 1, 11, 3) := by decide +kernel
theorem mi_32 : am_mi 32 = (2, 1, 11, 2) := by decide +kernel
theorem mi_33 : am_mi 33 = (3, 1, 9, 4) := by decide +kernel
theorem mi_34 : am_mi 34 = (3, 1, 3, 3) := by decide +kernel
theorem mi_35 : am_mi 35 = (4, 1, 9, 6) := by decide +kernel
theorem mi_36 : am_mi 36 = (1, 1, 9, 1) := by decide +kernel
theorem mi_39 : am_mi 39 = (1, 1, 9, 1) := by decide +kernel
theorem mi_40 : am_mi 40 = (4, 1, 9, 7) := by decide +kernel
theorem mi_41 : am_mi 41 = (3, 1, 3, 5) := by decide +kernel
theorem mi_42 : am_mi 42 = (2, 1, 9, 2) := by decide +kernel
theorem mi_43 : am_mi 43 = (1, 1, 9, 3) := by decide +kernel
theorem mi_44 : am_mi 44 = (1, 1, 9, 3) := by decide +kernel
theorem mi_45 : am_mi 45 = (1, 0, 9, 1) := by decide +kernel
theorem mi_46 : am_mi 46 = (1, 1, 9, 4) := by decide +kernel
theorem mi_47 : am_mi 47 = (3, 1, 9, 4) := by decide +kernel
theorem mi_48 : am_mi 48 = (2, 1, 9, 4) := by decide +kernel
theorem mi_49 : am_mi 49 = (1, 1, 9, 4) := by decide +kernel
theorem mi_50 : am_mi 50 = (2, 1, 9, 3) := by decide +kernel
theorem mi_51 : am_mi 51 = (4, 1, 3, 4) := by decide +kernel
theorem mi_52 : am_mi 52 = (2, 1, 7, 5) := by decide +kernel
theorem mi_53 : am_mi 53 = (2, 0, 17, 4) := by decide +kernel
theorem mi_54 : am_mi 54 = (3, 1, 3, 3) := by decide +kernel
theorem mi_55 : am_mi 55 = (1, 0, 7, 1) := by decide +kernel
theorem mi_56 : am_mi 56 = (1, 0, 7, 1) := by decide +kernel
theorem mi_57 : am_mi 57 = (3, 1, 7, 3) := by decide +kernel
theorem mi_58 : am_mi 58 = (1, 1, 9, 2) := by decide +kernel
theorem mi_59 : am_mi 59 = (8, 1, 11, 11) := by decide +kernel
theorem mi_60 : am_mi 60 = (2, 1, 3, 2) := by decide +kernel
theorem mi_65 : am_mi 65 = (3, 1, 9, 6) := by decide +kernel
theorem mi_66 : am_mi 66 = (2, 1, 9, 3) := by decide +kernel
theorem mi_67 : am_mi 67 = (1, 0, 14, 1) := by decide +kernel
theorem mi_68 : am_mi 68 = (2, 1, 9, 2) := by decide +kernel
theorem mi_107 : am_mi 107 = (2, 1, 11, 2) := by decide +kernel
theorem mi_108 : am_mi 108 = (2, 1, 11, 2) := by decide +kernel
theorem mi_109 : am_mi 109 = (2, 1, 2, 2) := by decide +kernel
theorem mi_155 : am_mi 155 = (2, 1, 2, 2) := by decide +kernel
theorem mi_327 : am_mi 327 = (3, 0, 12, 6) := by decide +kernel
theorem mi_330 : am_mi 330 = (2, 0, 12, 2) := by decide +kernel
theorem mi_334 : am_mi 334 = (1, 0, 12, 1) := by decide +kernel
theorem mi_335 : am_mi 335 = (3, 1, 12, 3) := by decide +kernel
theorem mi_343 : am_mi 343 = (1, 0, 12, 1) := by decide +kernel
theorem mi_347 : am_mi 347 = (1, 1, 12, 3) := by decide +kernel
theorem mi_348 : am_mi 348 = (1, 0, 12, 1) := by decide +kernel
theorem mi_349 : am_mi 349 = (1, 0, 12, 1) := by decide +kernel
theorem mi_350 : am_mi 350 = (3, 1, 12, 3) := by decide +kernel
theorem mi_353 : am_mi 353 = (3, 0, 12, 3) := by decide +kernel
theorem mi_367 : am_mi 367 = (2, 0, 12, 2) := by decide +kernel
theorem mi_393 : am_mi 393 = (3, 1, 12, 5) := by decide +kernel
theorem mi_440 : am_mi 440 = (1, 1, 12, 3) := by decide +kernel
theorem mi_441 : am_mi 441 = (3, 1, 12, 3) := by decide +kernel
theorem mi_442 : am_mi 442 = (1, 1, 12, 1) := by decide +kernel
theorem mi_443 : am_mi 443 = (3, 1, 12, 4) := by decide +kernel
theorem mi_444 : am_mi 444 = (1, 1, 12, 1) := by decide +kernel
theorem mi_445 : am_mi 445 = (1, 1, 12, 1) := by decide +kernel
theorem mi_446 : am_mi 446 = (3, 1, 12, 10) := by decide +kernel
theorem mi_447 : am_mi 447 = (1, 1, 12, 3) := by decide +kernel
theorem mi_448 : am_mi 448 = (2, 0, 12, 4) := by decide +kernel
theorem mi_449 : am_mi 449 = (1, 1, 12, 2) := by decide +kernel
theorem mi_450 : am_mi 450 = (4, 1, 12, 4) := by decide +kernel
theorem mi_451 : am_mi 451 = (1, 1, 12, 1) := by decide +kernel
theorem mi_452 : am_mi 452 = (1, 1, 12, 4) := by decide +kernel
theorem mi_453 : am_mi 453 = (1, 1, 12, 3) := by decide +kernel
theorem mi_454 : am_mi 454 = (1, 0, 12, 1) := by decide +kernel
theorem mi_455 : am_mi 455 = (1, 1, 12, 3) := by decide +kernel
theorem mi_456 : am_mi 456 = (3, 1, 12, 6) := by decide +kernel
theorem mi_457 : am_mi 457 = (1, 1, 12, 3) := by decide +kernel
theorem mi_458 : am_mi 458 = (3, 1, 12, 6) := by decide +kernel
theorem mi_459 : am_mi 459 = (2, 1, 12, 2) := by decide +kernel
theorem mi_460 : am_mi 460 = (1, 1, 12, 3) := by decide +kernel
theorem mi_461 : am_mi 461 = (3, 1, 12, 3) := by decide +kernel
theorem mi_462 : am_mi 462 = (1, 1, 12, 4) := by decide +kernel
theorem mi_463 : am_mi 463 = (1, 1, 12, 4) := by decide +kernel
theorem mi_464 : am_mi 464 = (1, 1, 12, 6) := by decide +kernel
theorem mi_465 : am_mi 465 = (1, 1, 12, 4) := by decide +kernel
theorem mi_466 : am_mi 466 = (1, 1, 12, 2) := by decide +kernel
theorem mi_467 : am_mi 467 = (1, 1, 12, 4) := by decide +kernel
theorem mi_468 : am_mi 468 = (1, 1, 12, 2) := by decide +kernel
theorem mn_3 : am_na (am_m 3) = 1 := by decide +kernel
theorem mk_3 : am_kd (am_m 3) = 2 := by decide +kernel
theorem mn_9 : am_na (am_m 9) = 4 := by decide +kernel
theorem mk_9 : am_kd (am_m 9) = 1 := by decide +kernel
theorem mn_10 : am_na (am_m 10) = 2 := by decide +kernel
theorem mk_10 : am_kd (am_m 10) = 0 := by decide +kernel
theorem mn_11 : am_na (am_m 11) = 1 := by decide +kernel
theorem mk_11 : am_kd (am_m 11) = 0 := by decide +kernel
theorem mn_12 : am_na (am_m 12) = 3 := by decide +kernel
theorem mk_12 : am_kd (am_m 12) = 0 := by decide +kernel
theorem mn_13 : am_na (am_m 13) = 2 := by decide +kernel
theorem mk_13 : am_kd (am_m 13) = 0 := by decide +kernel
theorem mn_14 : am_na (am_m 14) = 1 := by decide +kernel
theorem mk_14 : am_kd (am_m 14) = 0 := by decide +kernel
theorem mn_15 : am_na (am_m 15) = 3 := by decide +kernel
theorem mk_15 : am_kd (am_m 15) = 1 := by decide +kernel
theorem mn_16 : am_na (am_m 16) = 4 := by decide +kernel
theorem mk_16 : am_kd (am_m 16) = 1 := by decide +kernel
theorem mn_18 : am_na (am_m 18) = 2 := by decide +kernel
theorem mk_18 : am_kd (am_m 18) = 2 := by decide +kernel
theorem mn_31 : am_na (am_m 31) = 2 := by decide +kernel
theorem mk_31 : am_kd (am_m 31) = 1 := by decide +kernel
theorem mn_32 : am_na (am_m 32) = 2 := by decide +kernel
theorem mk_32 : am_kd (am_m 32) = 1 := by decide +kernel
theorem mn_33 : am_na (am_m 33) = 3 := by decide +kernel
theorem mk_33 : am_kd (am_m 33) = 1 := by decide +kernel
theorem mn_34 : am_na (am_m 34) = 3 := by decide +kernel
theorem mk_34 : am_kd (am_m 34) = 1 := by decide +kernel
theorem mn_35 : am_na (am_m 35) = 4 := by decide +kernel
theorem mk_35 : am_kd (am_m 35) = 1 := by decide +kernel
theorem mn_36 : am_na (am_m 36) = 1 := by decide +kernel
theorem mk_36 : am_kd (am_m 36) = 1 := by decide +kernel
theorem mn_39 : am_na (am_m 39) = 1 := by decide +kernel
theorem mk_39 : am_kd (am_m 39) = 1 := by decide +kernel
theorem mn_40 : am_na (am_m 40) = 4 := by decide +kernel
theorem mk_40 : am_kd (am_m 40) = 1 := by decide +kernel
theorem mn_41 : am_na (am_m 41) = 3 := by decide +kernel
theorem mk_41 : am_kd (am_m 41) = 1 := by decide +kernel
theorem mn_42 : am_na (am_m 42) = 2 := by decide +kernel
theorem mk_42 : am_kd (am_m 42) = 1 := by decide +kernel
theorem mn_43 : am_na (am_m 43) = 1 := by decide +kernel
theorem mk_43 : am_kd (am_m 43) = 1 := by decide +kernel
theorem mn_44 : am_na (am_m 44) = 1 := by decide +kernel
theorem mk_44 : am_kd (am_m 44) = 1 := by decide +kernel
theorem mn_45 : am_na (am_m 45) = 1 := by decide +kernel
theorem mk_45 : am_kd (am_m 45) = 0 := by decide +kernel
theorem mn_46 : am_na (am_m 46) = 1 := by decide +kernel
theorem mk_46 : am_kd (am_m 46) = 1 := by decide +kernel
theorem mn_47 : am_na (am_m 47) = 3 := by decide +kernel
theorem mk_47 : am_kd (am_m 47) = 1 := by decide +kernel
theorem mn_48 : am_na (am_m 48) = 2 := by decide +kernel
theorem mk_48 : am_kd (am_m 48) = 1 := by decide +kernel
theorem mn_49 : am_na (am_m 49) = 1 := by decide +kernel
theorem mk_49 : am_kd (am_m 49) = 1 := by decide +kernel
theorem mn_50 : am_na (am_m 50) = 2 := by decide +kernel
theorem mk_50 : am_kd (am_m 50) = 1 := by decide +kernel
theorem mn_51 : am_na (am_m 51) = 4 := by decide +kernel
theorem mk_51 : am_kd (am_m 51) = 1 := by decide +kernel
theorem mn_52 : am_na (am_m 52) = 2 := by decide +kernel
theorem mk_52 : am_kd (am_m 52) = 1 := by decide +kernel
theorem mn_53 : am_na (am_m 53) = 2 := by decide +kernel
theorem mk_53 : am_kd (am_m 53) = 0 := by decide +kernel
theorem mn_54 : am_na (am_m 54) = 3 := by decide +kernel
theorem mk_54 : am_kd (am_m 54) = 1 := by decide +kernel
theorem mn_55 : am_na (am_m 55) = 1 := by decide +kernel
theorem mk_55 : am_kd (am_m 55) = 0 := by decide +kernel
theorem mn_56 : am_na (am_m 56) = 1 := by decide +kernel
theorem mk_56 : am_kd (am_m 56) = 0 := by decide +kernel
theorem mn_57 : am_na (am_m 57) = 3 := by decide +kernel
theorem mk_57 : am_kd (am_m 57) = 1 := by decide +kernel
theorem mn_58 : am_na (am_m 58) = 1 := by decide +kernel
theorem mk_58 : am_kd (am_m 58) = 1 := by decide +kernel
theorem mn_59 : am_na (am_m 59) = 8 := by decide +kernel
theorem mk_59 : am_kd (am_m 59) = 1 := by decide +kernel
theorem mn_60 : am_na (am_m 60) = 2 := by decide +kernel
theorem mk_60 : am_kd (am_m 60) = 1 := by decide +kernel
theorem mn_65 : am_na (am_m 65) = 3 := by decide +kernel
theorem mk_65 : am_kd (am_m 65) = 1 := by decide +kernel
theorem mn_66 : am_na (am_m 66) = 2 := by decide +kernel
theorem mk_66 : am_kd (am_m 66) = 1 := by decide +kernel
theorem mn_67 : am_na (am_m 67) = 1 := by decide +kernel
theorem mk_67 : am_kd (am_m 67) = 0 := by decide +kernel
theorem mn_68 : am_na (am_m 68) = 2 := by decide +kernel
theorem mk_68 : am_kd (am_m 68) = 1 := by decide +kernel
theorem mn_107 : am_na (am_m 107) = 2 := by decide +kernel
theorem mk_107 : am_kd (am_m 107) = 1 := by decide +kernel
theorem mn_108 : am_na (am_m 108) = 2 := by decide +kernel
theorem mk_108 : am_kd (am_m 108) = 1 := by decide +kernel
theorem mn_109 : am_na (am_m 109) = 2 := by decide +kernel
theorem mk_109 : am_kd (am_m 109) = 1 := by decide +kernel
theorem mn_155 : am_na (am_m 155) = 2 := by decide +kernel
theorem mk_155 : am_kd (am_m 155) = 1 := by decide +kernel
theorem mn_327 : am_na (am_m 327) = 3 := by decide +kernel
theorem mk_327 : am_kd (am_m 327) = 0 := by decide +kernel
theorem mn_330 : am_na (am_m 330) = 2 := by decide +kernel
theorem mk_330 : am_kd (am_m 330) = 0 := by decide +kernel
theorem mn_334 : am_na (am_m 334) = 1 := by decide +kernel
theorem mk_334 : am_kd (am_m 334) = 0 := by decide +kernel
theorem mn_335 : am_na (am_m 335) = 3 := by decide +kernel
theorem mk_335 : am_kd (am_m 335) = 1 := by decide +kernel
theorem mn_343 : am_na (am_m 343) = 1 := by decide +kernel
theorem mk_343 : am_kd (am_m 343) = 0 := by decide +kernel
theorem mn_347 : am_na (am_m 347) = 1 := by decide +kernel
theorem mk_347 : am_kd (am_m 347) = 1 := by decide +kernel
theorem mn_348 : am_na (am_m 348) = 1 := by decide +kernel
theorem mk_348 : am_kd (am_m 348) = 0 := by decide +kernel
theorem mn_349 : am_na (am_m 349) = 1 := by decide +kernel
theorem mk_349 : am_kd (am_m 349) = 0 := by decide +kernel
theorem mn_350 : am_na (am_m 350) = 3 := by decide +kernel
theorem mk_350 : am_kd (am_m 350) = 1 := by decide +kernel
theorem mn_353 : am_na (am_m 353) = 3 := by decide +kernel
theorem mk_353 : am_kd (am_m 353) = 0 := by decide +kernel
theorem mn_367 : am_na (am_m 367) = 2 := by decide +kernel
theorem mk_367 : am_kd (am_m 367) = 0 := by decide +kernel
theorem mn_393 : am_na (am_m 393) = 3 := by decide +kernel
theorem mk_393 : am_kd (am_m 393) = 1 := by decide +kernel
theorem mn_440 : am_na (am_m 440) = 1 := by decide +kernel
theorem mk_440 : am_kd (am_m 440) = 1 := by decide +kernel
theorem mn_441 : am_na (am_m 441) = 3 := by decide +kernel
theorem mk_441 : am_kd (am_m 441) = 1 := by decide +kernel
theorem mn_442 : am_na (am_m 442) = 1 := by decide +kernel
theorem mk_442 : am_kd (am_m 442) = 1 := by decide +kernel
theorem mn_443 : am_na (am_m 443) = 3 := by decide +kernel
theorem mk_443 : am_kd (am_m 443) = 1 := by decide +kernel
theorem mn_444 : am_na (am_m 444) = 1 := by decide +kernel
theorem mk_444 : am_kd (am_m 444) = 1 := by decide +kernel
theorem mn_445 : am_na (am_m 445) = 1 := by decide +kernel
theorem mk_445 : am_kd (am_m 445) = 1 := by decide +kernel
theorem mn_446 : am_na (am_m 446) = 3 := by decide +kernel
theorem mk_446 : am_kd (am_m 446) = 1 := by decide +kernel
theorem mn_447 : am_na (am_m 447) = 1 := by decide +kernel
theorem mk_447 : am_kd (am_m 447) = 1 := by decide +kernel
theorem mn_448 : am_na (am_m 448) = 2 := by decide +kernel
theorem mk_448 : am_kd (am_m 448) = 0 := by decide +kernel
theorem mn_449 : am_na (am_m 449) = 1 := by decide +kernel
theorem mk_449 : am_kd (am_m 449) = 1 := by decide +kernel
theorem mn_450 : am_na (am_m 450) = 4 := by decide +kernel
theorem mk_450 : am_kd (am_m 450) = 1 := by decide +kernel
theorem mn_451 : am_na (am_m 451) = 1 := by decide +kernel
theorem mk_451 : am_kd (am_m 451) = 1 := by decide +kernel
theorem mn_452 : am_na (am_m 452) = 1 := by decide +kernel
theorem mk_452 : am_kd (am_m 452) = 1 := by decide +kernel
theorem mn_453 : am_na (am_m 453) = 1 := by decide +kernel
theorem mk_453 : am_kd (am_m 453) = 1 := by decide +kernel
theorem mn_454 : am_na (am_m 454) = 1 := by decide +kernel
theorem mk_454 : am_kd (am_m 454) = 0 := by decide +kernel
theorem mn_455 : am_na (am_m 455) = 1 := by decide +kernel
theorem mk_455 : am_kd (am_m 455) = 1 := by decide +kernel
theorem mn_456 : am_na (am_m 456) = 3 := by decide +kernel
theorem mk_456 : am_kd (am_m 456) = 1 := by decide +kernel
theorem mn_457 : am_na (am_m 457) = 1 := by decide +kernel
theorem mk_457 : am_kd (am_m 457) = 1 := by decide +kernel
theorem mn_458 : am_na (am_m 458) = 3 := by decide +kernel
theorem mk_458 : am_kd (am_m 458) = 1 := by decide +kernel
theorem mn_459 : am_na (am_m 459) = 2 := by decide +kernel
theorem mk_459 : am_kd (am_m 459) = 1 := by decide +kernel
theorem mn_460 : am_na (am_m 460) = 1 := by decide +kernel
theorem mk_460 : am_kd (am_m 460) = 1 := by decide +kernel
theorem mn_461 : am_na (am_m 461) = 3 := by decide +kernel
theorem mk_461 : am_kd (am_m 461) = 1 := by decide +kernel
theorem mn_462 : am_na (am_m 462) = 1 := by decide +kernel
theorem mk_462 : am_kd (am_m 462) = 1 := by decide +kernel
theorem mn_463 : am_na (am_m 463) = 1 := by decide +kernel
theorem mk_463 : am_kd (am_m 463) = 1 := by decide +kernel
theorem mn_464 : am_na (am_m 464) = 1 := by decide +kernel
theorem mk_464 : am_kd (am_m 464) = 1 := by decide +kernel
theorem mn_465 : am_na (am_m 465) = 1 := by decide +kernel
theorem mk_465 : am_kd (am_m 465) = 1 := by decide +kernel
theorem mn_466 : am_na (am_m 466) = 1 := by decide +kernel
theorem mk_466 : am_kd (am_m 466) = 1 := by decide +kernel
theorem mn_467 : am_na (am_m 467) = 1 := by decide +kernel
theorem mk_467 : am_kd (am_m 467) = 1 := by decide +kernel
theorem mn_468 : am_na (am_m 468) = 1 := by decide +kernel
theorem mk_468 : am_kd (am_m 468) = 1 := by decide +kernel
theorem kb_3 : Nat.ble 10000 3 = false := by decide +kernel
theorem kb_9 : Nat.ble 10000 9 = false := by decide +kernel
theorem kb_10 : Nat.ble 10000 10 = false := by decide +kernel
theorem kb_11 : Nat.ble 10000 11 = false := by decide +kernel
theorem kb_12 : Nat.ble 10000 12 = false := by decide +kernel
theorem kb_13 : Nat.ble 10000 13 = false := by decide +kernel
theorem kb_14 : Nat.ble 10000 14 = false := by decide +kernel
theorem kb_15 : Nat.ble 10000 15 = false := by decide +kernel
theorem kb_16 : Nat.ble 10000 16 = false := by decide +kernel
theorem kb_18 : Nat.ble 10000 18 = false := by decide +kernel
theorem kb_31 : Nat.ble 10000 31 = false := by decide +kernel
theorem kb_32 : Nat.ble 10000 32 = false := by decide +kernel
theorem kb_33 : Nat.ble 10000 33 = false := by decide +kernel
theorem kb_34 : Nat.ble 10000 34 = false := by decide +kernel
theorem kb_35 : Nat.ble 10000 35 = false := by decide +kernel
theorem kb_36 : Nat.ble 10000 36 = false := by decide +kernel
theorem kb_39 : Nat.ble 10000 39 = false := by decide +kernel
theorem kb_40 : Nat.ble 10000 40 = false := by decide +kernel
theorem kb_41 : Nat.ble 10000 41 = false := by decide +kernel
theorem kb_42 : Nat.ble 10000 42 = false := by decide +kernel
theorem kb_43 : Nat.ble 10000 43 = false := by decide +kernel
theorem kb_44 : Nat.ble 10000 44 = false := by decide +kernel
theorem kb_45 : Nat.ble 10000 45 = false := by decide +kernel
theorem kb_46 : Nat.ble 10000 46 = false := by decide +kernel
theorem kb_47 : Nat.ble 10000 47 = false := by decide +kernel
theorem kb_48 : Nat.ble 10000 48 = false := by decide +kernel
theorem kb_49 : Nat.ble 10000 49 = false := by decide +kernel
theorem kb_50 : Nat.ble 10000 50 = false := by decide +kernel
theorem kb_51 : Nat.ble 10000 51 = false := by decide +kernel
theorem kb_52 : Nat.ble 10000 52 = false := by decide +kernel
theorem kb_53 : Nat.ble 10000 53 = false := by decide +kernel
theorem kb_54 : Nat.ble 10000 54 = false := by decide +kernel
theorem kb_55 : Nat.ble 10000 55 = false := by decide +kernel
theorem kb_56 : Nat.ble 10000 56 = false := by decide +kernel
theorem kb_57 : Nat.ble 10000 57 = false := by decide +kernel
theorem kb_58 : Nat.ble 10000 58 = false := by decide +kernel
theorem kb_59 : Nat.ble 10000 59 = false := by decide +kernel
theorem kb_60 : Nat.ble 10000 60 = false := by decide +kernel
theorem kb_65 : Nat.ble 10000 65 = false := by decide +kernel
theorem kb_66 : Nat.ble 10000 66 = false := by decide +kernel
theorem kb_67 : Nat.ble 10000 67 = false := by decide +kernel
theorem kb_68 : Nat.ble 10000 68 = false := by decide +kernel
theorem kb_107 : Nat.ble 10000 107 = false := by decide +kernel
theorem kb_108 : Nat.ble 10000 108 = false := by decide +kernel
theorem kb_109 : Nat.ble 10000 109 = false := by decide +kernel
theorem kb_155 : Nat.ble 10000 155 = false := by decide +kernel
theorem kb_327 : Nat.ble 10000 327 = false := by decide +kernel
theorem kb_330 : Nat.ble 10000 330 = false := by decide +kernel
theorem kb_334 : Nat.ble 10000 334 = false := by decide +kernel
theorem kb_335 : Nat.ble 10000 335 = false := by decide +kernel
theorem kb_343 : Nat.ble 10000 343 = false := by decide +kernel
theorem kb_347 : Nat.ble 10000 347 = false := by decide +kernel
theorem kb_348 : Nat.ble 10000 348 = false := by decide +kernel
theorem kb_349 : Nat.ble 10000 349 = false := by decide +kernel
theorem kb_350 : Nat.ble 10000 350 = false := by decide +kernel
theorem kb_353 : Nat.ble 10000 353 = false := by decide +kernel
theorem kb_367 : Nat.ble 10000 367 = false := by decide +kernel
theorem kb_393 : Nat.ble 10000 393 = false := by decide +kernel
theorem kb_440 : Nat.ble 10000 440 = false := by decide +kernel
theorem kb_441 : Nat.ble 10000 441 = false := by decide +kernel
theorem kb_442 : Nat.ble 10000 442 = false := by decide +kernel
theorem kb_443 : Nat.ble 10000 443 = false := by decide +kernel
theorem kb_444 : Nat.ble 10000 444 = false := by decide +kernel
theorem kb_445 : Nat.ble 10000 445 = false := by decide +kernel
theorem kb_446 : Nat.ble 10000 446 = false := by decide +kernel
theorem kb_447 : Nat.ble 10000 447 = false := by decide +kernel
theorem kb_448 : Nat.ble 10000 448 = false := by decide +kernel
theorem kb_449 : Nat.ble 10000 449 = false := by decide +kernel
theorem kb_450 : Nat.ble 10000 450 = false := by decide +kernel
theorem kb_451 : Nat.ble 10000 451 = false := by decide +kernel
theorem kb_452 : Nat.ble 10000 452 = false := by decide +kernel
theorem kb_453 : Nat.ble 10000 453 = false := by decide +kernel
theorem kb_454 : Nat.ble 10000 454 = false := by decide +kernel
theorem kb_455 : Nat.ble 10000 455 = false := by decide +kernel
theorem kb_456 : Nat.ble 10000 456 = false := by decide +kernel
theorem kb_457 : Nat.ble 10000 457 = false := by decide +kernel
theorem kb_458 : Nat.ble 10000 458 = false := by decide +kernel
theorem kb_459 : Nat.ble 10000 459 = false := by decide +kernel
theorem kb_460 : Nat.ble 10000 460 = false := by decide +kernel
theorem kb_461 : Nat.ble 10000 461 = false := by decide +kernel
theorem kb_462 : Nat.ble 10000 462 = false := by decide +kernel
theorem kb_463 : Nat.ble 10000 463 = false := by decide +kernel
theorem kb_464 : Nat.ble 10000 464 = false := by decide +kernel
theorem kb_465 : Nat.ble 10000 465 = false := by decide +kernel
theorem kb_466 : Nat.ble 10000 466 = false := by decide +kernel
theorem kb_467 : Nat.ble 10000 467 = false := by decide +kernel
theorem kb_468 : Nat.ble 10000 468 = false := by decide +kernel
theorem rt_3 : am_rt (am_m 3) = none := by decide +kernel
theorem rt_8 : am_rt (am_m 8) = none := by decide +kernel
theorem rt_9 : am_rt (am_m 9) = (some FieldType.long) := by decide +kernel
theorem rt_10 : am_rt (am_m 10) = (some FieldType.boolean) := by decide +kernel
theorem rt_11 : am_rt (am_m 11) = (some FieldType.boolean) := by decide +kernel
theorem rt_12 : am_rt (am_m 12) = (some FieldType.int) := by decide +kernel
theorem rt_13 : am_rt (am_m 13) = (some FieldType.boolean) := by decide +kernel
theorem rt_14 : am_rt (am_m 14) = (some FieldType.int) := by decide +kernel
theorem rt_15 : am_rt (am_m 15) = (some FieldType.long) := by decide +kernel
theorem rt_16 : am_rt (am_m 16) = (some FieldType.long) := by decide +kernel
theorem rt_18 : am_rt (am_m 18) = none := by decide +kernel
theorem rt_30 : am_rt (am_m 30) = (some FieldType.int) := by decide +kernel
theorem rt_31 : am_rt (am_m 31) = (some FieldType.int) := by decide +kernel
theorem rt_32 : am_rt (am_m 32) = none := by decide +kernel
theorem rt_33 : am_rt (am_m 33) = (some FieldType.int) := by decide +kernel
theorem rt_34 : am_rt (am_m 34) = none := by decide +kernel
theorem rt_35 : am_rt (am_m 35) = none := by decide +kernel
theorem rt_36 : am_rt (am_m 36) = (some FieldType.char) := by decide +kernel
theorem rt_39 : am_rt (am_m 39) = none := by decide +kernel
theorem rt_40 : am_rt (am_m 40) = none := by decide +kernel
theorem rt_41 : am_rt (am_m 41) = (some FieldType.boolean) := by decide +kernel
theorem rt_42 : am_rt (am_m 42) = (some FieldType.boolean) := by decide +kernel
theorem rt_43 : am_rt (am_m 43) = (some FieldType.int) := by decide +kernel
theorem rt_44 : am_rt (am_m 44) = (some FieldType.int) := by decide +kernel
theorem rt_45 : am_rt (am_m 45) = (some FieldType.boolean) := by decide +kernel
theorem rt_46 : am_rt (am_m 46) = none := by decide +kernel
theorem rt_47 : am_rt (am_m 47) = (some FieldType.int) := by decide +kernel
theorem rt_48 : am_rt (am_m 48) = none := by decide +kernel
theorem rt_49 : am_rt (am_m 49) = none := by decide +kernel
theorem rt_50 : am_rt (am_m 50) = none := by decide +kernel
theorem rt_51 : am_rt (am_m 51) = none := by decide +kernel
theorem rt_52 : am_rt (am_m 52) = (some FieldType.int) := by decide +kernel
theorem rt_53 : am_rt (am_m 53) = none := by decide +kernel
theorem rt_54 : am_rt (am_m 54) = (some FieldType.int) := by decide +kernel
theorem rt_55 : am_rt (am_m 55) = (some FieldType.int) := by decide +kernel
theorem rt_56 : am_rt (am_m 56) = (some FieldType.int) := by decide +kernel
theorem rt_57 : am_rt (am_m 57) = (some FieldType.boolean) := by decide +kernel
theorem rt_58 : am_rt (am_m 58) = (some FieldType.int) := by decide +kernel
theorem rt_59 : am_rt (am_m 59) = (some FieldType.int) := by decide +kernel
theorem rt_60 : am_rt (am_m 60) = none := by decide +kernel
theorem rt_65 : am_rt (am_m 65) = (some FieldType.int) := by decide +kernel
theorem rt_66 : am_rt (am_m 66) = none := by decide +kernel
theorem rt_67 : am_rt (am_m 67) = (some FieldType.int) := by decide +kernel
theorem rt_68 : am_rt (am_m 68) = none := by decide +kernel
theorem rt_106 : am_rt (am_m 106) = (some FieldType.int) := by decide +kernel
theorem rt_107 : am_rt (am_m 107) = (some FieldType.int) := by decide +kernel
theorem rt_108 : am_rt (am_m 108) = none := by decide +kernel
theorem rt_109 : am_rt (am_m 109) = none := by decide +kernel
theorem rt_154 : am_rt (am_m 154) = (some FieldType.int) := by decide +kernel
theorem rt_155 : am_rt (am_m 155) = none := by decide +kernel
theorem rt_160 : am_rt (am_m 160) = (some FieldType.int) := by decide +kernel
theorem rt_327 : am_rt (am_m 327) = (some FieldType.boolean) := by decide +kernel
theorem rt_330 : am_rt (am_m 330) = (some FieldType.boolean) := by decide +kernel
theorem rt_334 : am_rt (am_m 334) = (some FieldType.boolean) := by decide +kernel
theorem rt_335 : am_rt (am_m 335) = none := by decide +kernel
theorem rt_343 : am_rt (am_m 343) = (some FieldType.int) := by decide +kernel
theorem rt_347 : am_rt (am_m 347) = (some FieldType.int) := by decide +kernel
theorem rt_348 : am_rt (am_m 348) = (some FieldType.int) := by decide +kernel
theorem rt_349 : am_rt (am_m 349) = (some FieldType.int) := by decide +kernel
theorem rt_350 : am_rt (am_m 350) = (some FieldType.boolean) := by decide +kernel
theorem rt_353 : am_rt (am_m 353) = (some FieldType.int) := by decide +kernel
theorem rt_367 : am_rt (am_m 367) = (some FieldType.int) := by decide +kernel
theorem rt_393 : am_rt (am_m 393) = (some FieldType.int) := by decide +kernel
theorem rt_439 : am_rt (am_m 439) = (some FieldType.int) := by decide +kernel
theorem rt_440 : am_rt (am_m 440) = none := by decide +kernel
theorem rt_441 : am_rt (am_m 441) = (some FieldType.boolean) := by decide +kernel
theorem rt_442 : am_rt (am_m 442) = none := by decide +kernel
theorem rt_443 : am_rt (am_m 443) = none := by decide +kernel
theorem rt_444 : am_rt (am_m 444) = (some FieldType.boolean) := by decide +kernel
theorem rt_445 : am_rt (am_m 445) = (some FieldType.boolean) := by decide +kernel
theorem rt_446 : am_rt (am_m 446) = (some FieldType.boolean) := by decide +kernel
theorem rt_447 : am_rt (am_m 447) = none := by decide +kernel
theorem rt_448 : am_rt (am_m 448) = (some FieldType.boolean) := by decide +kernel
theorem rt_449 : am_rt (am_m 449) = none := by decide +kernel
theorem rt_450 : am_rt (am_m 450) = (some FieldType.boolean) := by decide +kernel
theorem rt_451 : am_rt (am_m 451) = none := by decide +kernel
theorem rt_452 : am_rt (am_m 452) = none := by decide +kernel
theorem rt_453 : am_rt (am_m 453) = none := by decide +kernel
theorem rt_454 : am_rt (am_m 454) = (some FieldType.int) := by decide +kernel
theorem rt_455 : am_rt (am_m 455) = none := by decide +kernel
theorem rt_456 : am_rt (am_m 456) = (some FieldType.boolean) := by decide +kernel
theorem rt_457 : am_rt (am_m 457) = none := by decide +kernel
theorem rt_458 : am_rt (am_m 458) = none := by decide +kernel
theorem rt_459 : am_rt (am_m 459) = none := by decide +kernel
theorem rt_460 : am_rt (am_m 460) = none := by decide +kernel
theorem rt_461 : am_rt (am_m 461) = (some FieldType.boolean) := by decide +kernel
theorem rt_462 : am_rt (am_m 462) = none := by decide +kernel
theorem rt_463 : am_rt (am_m 463) = none := by decide +kernel
theorem rt_464 : am_rt (am_m 464) = none := by decide +kernel
theorem rt_465 : am_rt (am_m 465) = none := by decide +kernel
theorem rt_466 : am_rt (am_m 466) = none := by decide +kernel
theorem rt_467 : am_rt (am_m 467) = none := by decide +kernel
theorem rt_468 : am_rt (am_m 468) = none := by decide +kernel
theorem hh_8 : am_hh (am_m 8) = [] := by decide +kernel
theorem hh_9 : am_hh (am_m 9) = [] := by decide +kernel
theorem hh_16 : am_hh (am_m 16) = [] := by decide +kernel
theorem hn_30 : am_hh (am_m 30) ≠ [] := by decide +kernel
theorem hh_31 : am_hh (am_m 31) = [] := by decide +kernel
theorem hh_33 : am_hh (am_m 33) = [] := by decide +kernel
theorem hh_35 : am_hh (am_m 35) = [] := by decide +kernel
theorem hh_40 : am_hh (am_m 40) = [] := by decide +kernel
theorem hh_42 : am_hh (am_m 42) = [] := by decide +kernel
theorem hh_43 : am_hh (am_m 43) = [] := by decide +kernel
theorem hh_44 : am_hh (am_m 44) = [] := by decide +kernel
theorem hh_46 : am_hh (am_m 46) = [] := by decide +kernel
theorem hh_47 : am_hh (am_m 47) = [] := by decide +kernel
theorem hh_48 : am_hh (am_m 48) = [] := by decide +kernel
theorem hh_49 : am_hh (am_m 49) = [] := by decide +kernel
theorem hh_50 : am_hh (am_m 50) = [] := by decide +kernel
theorem hh_52 : am_hh (am_m 52) = [] := by decide +kernel
theorem hh_58 : am_hh (am_m 58) = [] := by decide +kernel
theorem hh_59 : am_hh (am_m 59) = [] := by decide +kernel
theorem hh_60 : am_hh (am_m 60) = [] := by decide +kernel
theorem hh_65 : am_hh (am_m 65) = [] := by decide +kernel
theorem hh_66 : am_hh (am_m 66) = [] := by decide +kernel
theorem hn_106 : am_hh (am_m 106) ≠ [] := by decide +kernel
theorem hh_107 : am_hh (am_m 107) = [] := by decide +kernel
theorem hh_154 : am_hh (am_m 154) = [] := by decide +kernel
theorem hh_347 : am_hh (am_m 347) = [] := by decide +kernel
theorem hh_439 : am_hh (am_m 439) = [] := by decide +kernel
theorem hh_440 : am_hh (am_m 440) = [] := by decide +kernel
theorem hh_441 : am_hh (am_m 441) = [] := by decide +kernel
theorem hh_442 : am_hh (am_m 442) = [] := by decide +kernel
theorem hh_443 : am_hh (am_m 443) = [] := by decide +kernel
theorem hh_444 : am_hh (am_m 444) = [] := by decide +kernel
theorem hh_445 : am_hh (am_m 445) = [] := by decide +kernel
theorem hh_447 : am_hh (am_m 447) = [] := by decide +kernel
theorem hh_449 : am_hh (am_m 449) = [] := by decide +kernel
theorem hh_450 : am_hh (am_m 450) = [] := by decide +kernel
theorem hh_452 : am_hh (am_m 452) = [] := by decide +kernel
theorem hh_453 : am_hh (am_m 453) = [] := by decide +kernel
theorem hh_455 : am_hh (am_m 455) = [] := by decide +kernel
theorem hh_456 : am_hh (am_m 456) = [] := by decide +kernel
theorem hh_457 : am_hh (am_m 457) = [] := by decide +kernel
theorem hh_458 : am_hh (am_m 458) = [] := by decide +kernel
theorem hh_459 : am_hh (am_m 459) = [] := by decide +kernel
theorem hh_460 : am_hh (am_m 460) = [] := by decide +kernel
theorem hh_461 : am_hh (am_m 461) = [] := by decide +kernel
theorem hh_462 : am_hh (am_m 462) = [] := by decide +kernel
theorem hh_463 : am_hh (am_m 463) = [] := by decide +kernel
theorem hh_464 : am_hh (am_m 464) = [] := by decide +kernel
theorem hh_465 : am_hh (am_m 465) = [] := by decide +kernel
theorem hh_466 : am_hh (am_m 466) = [] := by decide +kernel
theorem hh_467 : am_hh (am_m 467) = [] := by decide +kernel
theorem hh_468 : am_hh (am_m 468) = [] := by decide +kernel
theorem th_31_9 : am_thr (am_m 31) 9 100 = true := by decide +kernel
theorem th_32_12 : am_thr (am_m 32) 12 101 = true := by decide +kernel
theorem th_108_15 : am_thr (am_m 108) 15 102 = true := by decide +kernel
theorem th_154_31 : am_thr (am_m 154) 31 100 = true := by decide +kernel
theorem hd_30_4_0 : am_hd (am_m 30) 4 0 (am_hh (am_m 30)) = some (13, 3) := by decide +kernel
theorem hd_30_4_1 : am_hd (am_m 30) 4 1 (am_hh (am_m 30)) = some (16, 3) := by decide +kernel
theorem hd_106_4_2 : am_hd (am_m 106) 4 2 (am_hh (am_m 106)) = some (13, 3) := by decide +kernel
