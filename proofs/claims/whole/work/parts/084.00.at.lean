/-! ===== rows of instructions, and what calls ask ===== -/
theorem at_3_0 : am_at (am_m 3) 0 = some (.aload_n 0, 0) := by decide +kernel
theorem at_3_1 : am_at (am_m 3) 1 = some (.invokespecial 3, 10003) := by decide +kernel
theorem at_3_4 : am_at (am_m 3) 4 = some (.aload_n 0, 0) := by decide +kernel
theorem at_3_5 : am_at (am_m 3) 5 = some (.bipush 60, 0) := by decide +kernel
theorem at_3_7 : am_at (am_m 3) 7 = some (.newarray .int, 0) := by decide +kernel
theorem at_3_9 : am_at (am_m 3) 9 = some (.putfield 9, 1792) := by decide +kernel
theorem at_3_12 : am_at (am_m 3) 12 = some (.aload_n 0, 0) := by decide +kernel
theorem at_3_13 : am_at (am_m 3) 13 = some (.bipush 60, 0) := by decide +kernel
theorem at_3_15 : am_at (am_m 3) 15 = some (.newarray .int, 0) := by decide +kernel
theorem at_3_17 : am_at (am_m 3) 17 = some (.putfield 15, 1793) := by decide +kernel
theorem at_3_20 : am_at (am_m 3) 20 = some (.aload_n 0, 0) := by decide +kernel
theorem at_3_21 : am_at (am_m 3) 21 = some (.bipush 60, 0) := by decide +kernel
theorem at_3_23 : am_at (am_m 3) 23 = some (.newarray .int, 0) := by decide +kernel
theorem at_3_25 : am_at (am_m 3) 25 = some (.putfield 18, 1794) := by decide +kernel
theorem at_3_28 : am_at (am_m 3) 28 = some (.aload_n 0, 0) := by decide +kernel
theorem at_3_29 : am_at (am_m 3) 29 = some (.bipush 60, 0) := by decide +kernel
theorem at_3_31 : am_at (am_m 3) 31 = some (.newarray .boolean, 2) := by decide +kernel
theorem at_3_33 : am_at (am_m 3) 33 = some (.putfield 21, 1795) := by decide +kernel
theorem at_3_36 : am_at (am_m 3) 36 = some (.aload_n 0, 0) := by decide +kernel
theorem at_3_37 : am_at (am_m 3) 37 = some (.bipush 60, 0) := by decide +kernel
theorem at_3_39 : am_at (am_m 3) 39 = some (.newarray .boolean, 2) := by decide +kernel
theorem at_3_41 : am_at (am_m 3) 41 = some (.putfield 25, 1796) := by decide +kernel
theorem at_3_44 : am_at (am_m 3) 44 = some (.aload_n 0, 0) := by decide +kernel
theorem at_3_45 : am_at (am_m 3) 45 = some (.bipush 60, 0) := by decide +kernel
theorem at_3_47 : am_at (am_m 3) 47 = some (.newarray .boolean, 2) := by decide +kernel
theorem at_3_49 : am_at (am_m 3) 49 = some (.putfield 28, 1797) := by decide +kernel
theorem at_3_52 : am_at (am_m 3) 52 = some (.aload_n 0, 0) := by decide +kernel
theorem at_3_53 : am_at (am_m 3) 53 = some (.bipush 61, 0) := by decide +kernel
theorem at_3_55 : am_at (am_m 3) 55 = some (.newarray .int, 0) := by decide +kernel
theorem at_3_57 : am_at (am_m 3) 57 = some (.putfield 31, 1798) := by decide +kernel
theorem at_3_60 : am_at (am_m 3) 60 = some (.aload_n 0, 0) := by decide +kernel
theorem at_3_61 : am_at (am_m 3) 61 = some (.iconst 0, 0) := by decide +kernel
theorem at_3_62 : am_at (am_m 3) 62 = some (.putfield 34, 1799) := by decide +kernel
theorem at_3_65 : am_at (am_m 3) 65 = some (.return_, 0) := by decide +kernel
theorem at_8_0 : am_at (am_m 8) 0 = some (.aload_n 0, 0) := by decide +kernel
theorem at_8_1 : am_at (am_m 8) 1 = some (.invokespecial 3, 10003) := by decide +kernel
theorem at_8_4 : am_at (am_m 8) 4 = some (.aload_n 0, 0) := by decide +kernel
theorem at_8_5 : am_at (am_m 8) 5 = some (.sipush 1638, 0) := by decide +kernel
theorem at_8_8 : am_at (am_m 8) 8 = some (.newarray .long, 1) := by decide +kernel
theorem at_8_10 : am_at (am_m 8) 10 = some (.putfield 11, 1024) := by decide +kernel
theorem at_8_13 : am_at (am_m 8) 13 = some (.aload_n 0, 0) := by decide +kernel
theorem at_8_14 : am_at (am_m 8) 14 = some (.bipush 78, 0) := by decide +kernel
theorem at_8_16 : am_at (am_m 8) 16 = some (.newarray .long, 1) := by decide +kernel
theorem at_8_18 : am_at (am_m 8) 18 = some (.putfield 15, 1025) := by decide +kernel
theorem at_8_21 : am_at (am_m 8) 21 = some (.aload_n 0, 0) := by decide +kernel
theorem at_8_22 : am_at (am_m 8) 22 = some (.new 18, 7) := by decide +kernel
theorem at_8_25 : am_at (am_m 8) 25 = some (.dup, 0) := by decide +kernel
theorem at_8_26 : am_at (am_m 8) 26 = some (.invokespecial 20, 3) := by decide +kernel
theorem at_8_29 : am_at (am_m 8) 29 = some (.putfield 21, 1026) := by decide +kernel
theorem at_8_32 : am_at (am_m 8) 32 = some (.aload_n 0, 0) := by decide +kernel
theorem at_8_33 : am_at (am_m 8) 33 = some (.aconst_null, 0) := by decide +kernel
theorem at_8_34 : am_at (am_m 8) 34 = some (.putfield 25, 1027) := by decide +kernel
theorem at_8_37 : am_at (am_m 8) 37 = some (.aload_n 0, 0) := by decide +kernel
theorem at_8_38 : am_at (am_m 8) 38 = some (.bipush 24, 0) := by decide +kernel
theorem at_8_40 : am_at (am_m 8) 40 = some (.anewarray 29, 6) := by decide +kernel
theorem at_8_43 : am_at (am_m 8) 43 = some (.putfield 30, 1028) := by decide +kernel
theorem at_8_46 : am_at (am_m 8) 46 = some (.aload_n 0, 0) := by decide +kernel
theorem at_8_47 : am_at (am_m 8) 47 = some (.bipush 24, 0) := by decide +kernel
theorem at_8_49 : am_at (am_m 8) 49 = some (.newarray .int, 0) := by decide +kernel
theorem at_8_51 : am_at (am_m 8) 51 = some (.putfield 34, 1029) := by decide +kernel
theorem at_8_54 : am_at (am_m 8) 54 = some (.aload_n 0, 0) := by decide +kernel
theorem at_8_55 : am_at (am_m 8) 55 = some (.iconst 0, 0) := by decide +kernel
theorem at_8_56 : am_at (am_m 8) 56 = some (.putfield 38, 1030) := by decide +kernel
theorem at_8_59 : am_at (am_m 8) 59 = some (.aload_n 0, 0) := by decide +kernel
theorem at_8_60 : am_at (am_m 8) 60 = some (.aconst_null, 0) := by decide +kernel
theorem at_8_61 : am_at (am_m 8) 61 = some (.putfield 42, 1031) := by decide +kernel
theorem at_8_64 : am_at (am_m 8) 64 = some (.aload_n 0, 0) := by decide +kernel
theorem at_8_65 : am_at (am_m 8) 65 = some (.iconst 0, 0) := by decide +kernel
theorem at_8_66 : am_at (am_m 8) 66 = some (.putfield 46, 1032) := by decide +kernel
theorem at_8_69 : am_at (am_m 8) 69 = some (.iconst 1, 0) := by decide +kernel
theorem at_8_70 : am_at (am_m 8) 70 = some (.istore_n 1, 0) := by decide +kernel
theorem at_8_71 : am_at (am_m 8) 71 = some (.iload_n 1, 0) := by decide +kernel
theorem at_8_72 : am_at (am_m 8) 72 = some (.bipush 13, 0) := by decide +kernel
theorem at_8_74 : am_at (am_m 8) 74 = some (.if_icmp .ge 67, 141) := by decide +kernel
theorem at_8_77 : am_at (am_m 8) 77 = some (.iconst 0, 0) := by decide +kernel
theorem at_8_78 : am_at (am_m 8) 78 = some (.istore_n 2, 0) := by decide +kernel
theorem at_8_79 : am_at (am_m 8) 79 = some (.iload_n 2, 0) := by decide +kernel
theorem at_8_80 : am_at (am_m 8) 80 = some (.bipush 126, 0) := by decide +kernel
theorem at_8_82 : am_at (am_m 8) 82 = some (.if_icmp .ge 53, 135) := by decide +kernel
theorem at_8_85 : am_at (am_m 8) 85 = some (.aload_n 0, 0) := by decide +kernel
theorem at_8_86 : am_at (am_m 8) 86 = some (.iload_n 2, 0) := by decide +kernel
theorem at_8_87 : am_at (am_m 8) 87 = some (.bipush 21, 0) := by decide +kernel
theorem at_8_89 : am_at (am_m 8) 89 = some (.idiv, 0) := by decide +kernel
theorem at_8_90 : am_at (am_m 8) 90 = some (.iload_n 2, 0) := by decide +kernel
theorem at_8_91 : am_at (am_m 8) 91 = some (.bipush 21, 0) := by decide +kernel
theorem at_8_93 : am_at (am_m 8) 93 = some (.irem, 0) := by decide +kernel
theorem at_8_94 : am_at (am_m 8) 94 = some (.iload_n 1, 0) := by decide +kernel
theorem at_8_95 : am_at (am_m 8) 95 = some (.invokevirtual 49, 9) := by decide +kernel
theorem at_8_98 : am_at (am_m 8) 98 = some (.lstore_n 3, 0) := by decide +kernel
theorem at_8_99 : am_at (am_m 8) 99 = some (.aload_n 0, 0) := by decide +kernel
theorem at_8_100 : am_at (am_m 8) 100 = some (.getfield 11, 1024) := by decide +kernel
theorem at_8_103 : am_at (am_m 8) 103 = some (.iload_n 2, 0) := by decide +kernel
theorem at_8_104 : am_at (am_m 8) 104 = some (.bipush 13, 0) := by decide +kernel
theorem at_8_106 : am_at (am_m 8) 106 = some (.imul, 0) := by decide +kernel
theorem at_8_107 : am_at (am_m 8) 107 = some (.iload_n 1, 0) := by decide +kernel
theorem at_8_108 : am_at (am_m 8) 108 = some (.iadd, 0) := by decide +kernel
theorem at_8_109 : am_at (am_m 8) 109 = some (.lload_n 3, 0) := by decide +kernel
theorem at_8_110 : am_at (am_m 8) 110 = some (.lastore, 0) := by decide +kernel
theorem at_8_111 : am_at (am_m 8) 111 = some (.aload_n 0, 0) := by decide +kernel
theorem at_8_112 : am_at (am_m 8) 112 = some (.getfield 15, 1025) := by decide +kernel
theorem at_8_115 : am_at (am_m 8) 115 = some (.iload_n 2, 0) := by decide +kernel
theorem at_8_116 : am_at (am_m 8) 116 = some (.bipush 21, 0) := by decide +kernel
theorem at_8_118 : am_at (am_m 8) 118 = some (.idiv, 0) := by decide +kernel
theorem at_8_119 : am_at (am_m 8) 119 = some (.bipush 13, 0) := by decide +kernel
theorem at_8_121 : am_at (am_m 8) 121 = some (.imul, 0) := by decide +kernel
theorem at_8_122 : am_at (am_m 8) 122 = some (.iload_n 1, 0) := by decide +kernel
theorem at_8_123 : am_at (am_m 8) 123 = some (.iadd, 0) := by decide +kernel
theorem at_8_124 : am_at (am_m 8) 124 = some (.dup2, 0) := by decide +kernel
theorem at_8_125 : am_at (am_m 8) 125 = some (.laload, 0) := by decide +kernel
theorem at_8_126 : am_at (am_m 8) 126 = some (.lload_n 3, 0) := by decide +kernel
theorem at_8_127 : am_at (am_m 8) 127 = some (.ladd, 0) := by decide +kernel
theorem at_8_128 : am_at (am_m 8) 128 = some (.lastore, 0) := by decide +kernel
theorem at_8_129 : am_at (am_m 8) 129 = some (.iinc 2 1, 0) := by decide +kernel
theorem at_8_132 : am_at (am_m 8) 132 = some (.goto (-53), 79) := by decide +kernel
theorem at_8_135 : am_at (am_m 8) 135 = some (.iinc 1 1, 0) := by decide +kernel
theorem at_8_138 : am_at (am_m 8) 138 = some (.goto (-67), 71) := by decide +kernel
theorem at_8_141 : am_at (am_m 8) 141 = some (.return_, 0) := by decide +kernel
theorem at_9_0 : am_at (am_m 9) 0 = some (.iload_n 1, 0) := by decide +kernel
theorem at_9_1 : am_at (am_m 9) 1 = some (.iload_n 2, 0) := by decide +kernel
theorem at_9_2 : am_at (am_m 9) 2 = some (.invokestatic 61, 10) := by decide +kernel
theorem at_9_5 : am_at (am_m 9) 5 = some (.ifCond .ne 5, 10) := by decide +kernel
theorem at_9_8 : am_at (am_m 9) 8 = some (.lconst 0, 0) := by decide +kernel
theorem at_9_9 : am_at (am_m 9) 9 = some (.lreturn, 0) := by decide +kernel
theorem at_9_10 : am_at (am_m 9) 10 = some (.iload_n 1, 0) := by decide +kernel
theorem at_9_11 : am_at (am_m 9) 11 = some (.iload_n 2, 0) := by decide +kernel
theorem at_9_12 : am_at (am_m 9) 12 = some (.iconst 0, 0) := by decide +kernel
theorem at_9_13 : am_at (am_m 9) 13 = some (.invokestatic 64, 12) := by decide +kernel
theorem at_9_16 : am_at (am_m 9) 16 = some (.istore 4, 0) := by decide +kernel
theorem at_9_18 : am_at (am_m 9) 18 = some (.iload_n 1, 0) := by decide +kernel
theorem at_9_19 : am_at (am_m 9) 19 = some (.iload_n 2, 0) := by decide +kernel
theorem at_9_20 : am_at (am_m 9) 20 = some (.iconst 1, 0) := by decide +kernel
theorem at_9_21 : am_at (am_m 9) 21 = some (.invokestatic 64, 12) := by decide +kernel
theorem at_9_24 : am_at (am_m 9) 24 = some (.istore 5, 0) := by decide +kernel
theorem at_9_26 : am_at (am_m 9) 26 = some (.iload_n 2, 0) := by decide +kernel
theorem at_9_27 : am_at (am_m 9) 27 = some (.invokestatic 68, 14) := by decide +kernel
theorem at_9_30 : am_at (am_m 9) 30 = some (.tableswitch 69 0 2 #[26, 47, 57], 0) := by decide +kernel
theorem at_9_56 : am_at (am_m 9) 56 = some (.iload_n 3, 0) := by decide +kernel
theorem at_9_57 : am_at (am_m 9) 57 = some (.iconst 1, 0) := by decide +kernel
theorem at_9_58 : am_at (am_m 9) 58 = some (.if_icmp .le 7, 65) := by decide +kernel
theorem at_9_61 : am_at (am_m 9) 61 = some (.lconst 0, 0) := by decide +kernel
theorem at_9_62 : am_at (am_m 9) 62 = some (.goto 14, 76) := by decide +kernel
theorem at_9_65 : am_at (am_m 9) 65 = some (.iload_n 2, 0) := by decide +kernel
theorem at_9_66 : am_at (am_m 9) 66 = some (.ifCond .ne 9, 75) := by decide +kernel
theorem at_9_69 : am_at (am_m 9) 69 = some (.ldc2_w 72, 1) := by decide +kernel
theorem at_9_72 : am_at (am_m 9) 72 = some (.goto 4, 76) := by decide +kernel
theorem at_9_75 : am_at (am_m 9) 75 = some (.lconst 1, 0) := by decide +kernel
theorem at_9_76 : am_at (am_m 9) 76 = some (.lreturn, 0) := by decide +kernel
theorem at_9_77 : am_at (am_m 9) 77 = some (.aload_n 0, 0) := by decide +kernel
theorem at_9_78 : am_at (am_m 9) 78 = some (.iload 4, 0) := by decide +kernel
theorem at_9_80 : am_at (am_m 9) 80 = some (.iload_n 3, 0) := by decide +kernel
theorem at_9_81 : am_at (am_m 9) 81 = some (.iconst 1, 0) := by decide +kernel
theorem at_9_82 : am_at (am_m 9) 82 = some (.isub, 0) := by decide +kernel
theorem at_9_83 : am_at (am_m 9) 83 = some (.invokevirtual 74, 15) := by decide +kernel
theorem at_9_86 : am_at (am_m 9) 86 = some (.lreturn, 0) := by decide +kernel
theorem at_9_87 : am_at (am_m 9) 87 = some (.aload_n 0, 0) := by decide +kernel
theorem at_9_88 : am_at (am_m 9) 88 = some (.iload 4, 0) := by decide +kernel
theorem at_9_90 : am_at (am_m 9) 90 = some (.iload 5, 0) := by decide +kernel
theorem at_9_92 : am_at (am_m 9) 92 = some (.iload_n 3, 0) := by decide +kernel
theorem at_9_93 : am_at (am_m 9) 93 = some (.iconst 1, 0) := by decide +kernel
theorem at_9_94 : am_at (am_m 9) 94 = some (.isub, 0) := by decide +kernel
theorem at_9_95 : am_at (am_m 9) 95 = some (.invokevirtual 78, 16) := by decide +kernel
theorem at_9_98 : am_at (am_m 9) 98 = some (.lreturn, 0) := by decide +kernel
theorem at_9_99 : am_at (am_m 9) 99 = some (.lconst 0, 0) := by decide +kernel
theorem at_9_100 : am_at (am_m 9) 100 = some (.lstore 6, 0) := by decide +kernel
theorem at_9_102 : am_at (am_m 9) 102 = some (.iconst 1, 0) := by decide +kernel
theorem at_9_103 : am_at (am_m 9) 103 = some (.istore 8, 0) := by decide +kernel
theorem at_9_105 : am_at (am_m 9) 105 = some (.iload 8, 0) := by decide +kernel
theorem at_9_107 : am_at (am_m 9) 107 = some (.iload_n 3, 0) := by decide +kernel
theorem at_9_108 : am_at (am_m 9) 108 = some (.iconst 1, 0) := by decide +kernel
theorem at_9_109 : am_at (am_m 9) 109 = some (.isub, 0) := by decide +kernel
theorem at_9_110 : am_at (am_m 9) 110 = some (.if_icmp .ge 37, 147) := by decide +kernel
theorem at_9_113 : am_at (am_m 9) 113 = some (.lload 6, 0) := by decide +kernel
theorem at_9_115 : am_at (am_m 9) 115 = some (.aload_n 0, 0) := by decide +kernel
theorem at_9_116 : am_at (am_m 9) 116 = some (.iload 4, 0) := by decide +kernel
theorem at_9_118 : am_at (am_m 9) 118 = some (.iload 8, 0) := by decide +kernel
theorem at_9_120 : am_at (am_m 9) 120 = some (.invokevirtual 74, 15) := by decide +kernel
theorem at_9_123 : am_at (am_m 9) 123 = some (.aload_n 0, 0) := by decide +kernel
theorem at_9_124 : am_at (am_m 9) 124 = some (.iload 5, 0) := by decide +kernel
theorem at_9_126 : am_at (am_m 9) 126 = some (.iload 5, 0) := by decide +kernel
theorem at_9_128 : am_at (am_m 9) 128 = some (.iload_n 3, 0) := by decide +kernel
theorem at_9_129 : am_at (am_m 9) 129 = some (.iconst 1, 0) := by decide +kernel
theorem at_9_130 : am_at (am_m 9) 130 = some (.isub, 0) := by decide +kernel
theorem at_9_131 : am_at (am_m 9) 131 = some (.iload 8, 0) := by decide +kernel
theorem at_9_133 : am_at (am_m 9) 133 = some (.isub, 0) := by decide +kernel
theorem at_9_134 : am_at (am_m 9) 134 = some (.invokevirtual 78, 16) := by decide +kernel
theorem at_9_137 : am_at (am_m 9) 137 = some (.lmul, 0) := by decide +kernel
theorem at_9_138 : am_at (am_m 9) 138 = some (.ladd, 0) := by decide +kernel
theorem at_9_139 : am_at (am_m 9) 139 = some (.lstore 6, 0) := by decide +kernel
theorem at_9_141 : am_at (am_m 9) 141 = some (.iinc 8 1, 0) := by decide +kernel
theorem at_9_144 : am_at (am_m 9) 144 = some (.goto (-39), 105) := by decide +kernel
theorem at_9_147 : am_at (am_m 9) 147 = some (.lload 6, 0) := by decide +kernel
theorem at_9_149 : am_at (am_m 9) 149 = some (.lreturn, 0) := by decide +kernel
theorem at_10_0 : am_at (am_m 10) 0 = some (.iload_n 0, 0) := by decide +kernel
theorem at_10_1 : am_at (am_m 10) 1 = some (.iconst 2, 0) := by decide +kernel
theorem at_10_2 : am_at (am_m 10) 2 = some (.idiv, 0) := by decide +kernel
theorem at_10_3 : am_at (am_m 10) 3 = some (.iconst 2, 0) := by decide +kernel
theorem at_10_4 : am_at (am_m 10) 4 = some (.imul, 0) := by decide +kernel
theorem at_10_5 : am_at (am_m 10) 5 = some (.istore_n 2, 0) := by decide +kernel
theorem at_10_6 : am_at (am_m 10) 6 = some (.iload_n 1, 0) := by decide +kernel
theorem at_10_7 : am_at (am_m 10) 7 = some (.invokestatic 57, 11) := by decide +kernel
theorem at_10_10 : am_at (am_m 10) 10 = some (.iload_n 0, 0) := by decide +kernel
theorem at_10_11 : am_at (am_m 10) 11 = some (.iconst 2, 0) := by decide +kernel
theorem at_10_12 : am_at (am_m 10) 12 = some (.irem, 0) := by decide +kernel
theorem at_10_13 : am_at (am_m 10) 13 = some (.iconst 1, 0) := by decide +kernel
theorem at_10_14 : am_at (am_m 10) 14 = some (.if_icmp .ne 7, 21) := by decide +kernel
theorem at_10_17 : am_at (am_m 10) 17 = some (.iconst 1, 0) := by decide +kernel
theorem at_10_18 : am_at (am_m 10) 18 = some (.goto 4, 22) := by decide +kernel
theorem at_10_21 : am_at (am_m 10) 21 = some (.iconst 0, 0) := by decide +kernel
theorem at_10_22 : am_at (am_m 10) 22 = some (.if_icmp .ne 33, 55) := by decide +kernel
theorem at_10_25 : am_at (am_m 10) 25 = some (.iload_n 2, 0) := by decide +kernel
theorem at_10_26 : am_at (am_m 10) 26 = some (.iconst 2, 0) := by decide +kernel
theorem at_10_27 : am_at (am_m 10) 27 = some (.if_icmp .eq 14, 41) := by decide +kernel
theorem at_10_30 : am_at (am_m 10) 30 = some (.iload_n 1, 0) := by decide +kernel
theorem at_10_31 : am_at (am_m 10) 31 = some (.iconst 5, 0) := by decide +kernel
theorem at_10_32 : am_at (am_m 10) 32 = some (.if_icmp .eq 23, 55) := by decide +kernel
theorem at_10_35 : am_at (am_m 10) 35 = some (.iload_n 1, 0) := by decide +kernel
theorem at_10_36 : am_at (am_m 10) 36 = some (.bipush 6, 0) := by decide +kernel
theorem at_10_38 : am_at (am_m 10) 38 = some (.if_icmp .eq 17, 55) := by decide +kernel
theorem at_10_41 : am_at (am_m 10) 41 = some (.iload_n 2, 0) := by decide +kernel
theorem at_10_42 : am_at (am_m 10) 42 = some (.ifCond .eq 9, 51) := by decide +kernel
theorem at_10_45 : am_at (am_m 10) 45 = some (.iload_n 1, 0) := by decide +kernel
theorem at_10_46 : am_at (am_m 10) 46 = some (.bipush 19, 0) := by decide +kernel
theorem at_10_48 : am_at (am_m 10) 48 = some (.if_icmp .eq 7, 55) := by decide +kernel
theorem at_10_51 : am_at (am_m 10) 51 = some (.iconst 1, 0) := by decide +kernel
theorem at_10_52 : am_at (am_m 10) 52 = some (.goto 4, 56) := by decide +kernel
theorem at_10_55 : am_at (am_m 10) 55 = some (.iconst 0, 0) := by decide +kernel
theorem at_10_56 : am_at (am_m 10) 56 = some (.ireturn, 0) := by decide +kernel
theorem at_11_0 : am_at (am_m 11) 0 = some (.iload_n 0, 0) := by decide +kernel
theorem at_11_1 : am_at (am_m 11) 1 = some (.bipush 9, 0) := by decide +kernel
theorem at_11_3 : am_at (am_m 11) 3 = some (.if_icmp .eq 15, 18) := by decide +kernel
theorem at_11_6 : am_at (am_m 11) 6 = some (.iload_n 0, 0) := by decide +kernel
theorem at_11_7 : am_at (am_m 11) 7 = some (.bipush 15, 0) := by decide +kernel
theorem at_11_9 : am_at (am_m 11) 9 = some (.if_icmp .lt 13, 22) := by decide +kernel
theorem at_11_12 : am_at (am_m 11) 12 = some (.iload_n 0, 0) := by decide +kernel
theorem at_11_13 : am_at (am_m 11) 13 = some (.bipush 18, 0) := by decide +kernel
theorem at_11_15 : am_at (am_m 11) 15 = some (.if_icmp .gt 7, 22) := by decide +kernel
theorem at_11_18 : am_at (am_m 11) 18 = some (.iconst 1, 0) := by decide +kernel
theorem at_11_19 : am_at (am_m 11) 19 = some (.goto 4, 23) := by decide +kernel
theorem at_11_22 : am_at (am_m 11) 22 = some (.iconst 0, 0) := by decide +kernel
theorem at_11_23 : am_at (am_m 11) 23 = some (.ireturn, 0) := by decide +kernel
theorem at_12_0 : am_at (am_m 12) 0 = some (.iload_n 1, 0) := by decide +kernel
theorem at_12_1 : am_at (am_m 12) 1 = some (.bipush 19, 0) := by decide +kernel
theorem at_12_3 : am_at (am_m 12) 3 = some (.if_icmp .ne 12, 15) := by decide +kernel
theorem at_12_6 : am_at (am_m 12) 6 = some (.iload_n 2, 0) := by decide +kernel
theorem at_12_7 : am_at (am_m 12) 7 = some (.iconst 1, 0) := by decide +kernel
theorem at_12_8 : am_at (am_m 12) 8 = some (.if_icmp .ne 7, 15) := by decide +kernel
theorem at_12_11 : am_at (am_m 12) 11 = some (.iconst 2, 0) := by decide +kernel
theorem at_12_12 : am_at (am_m 12) 12 = some (.goto 8, 20) := by decide +kernel
theorem at_12_15 : am_at (am_m 12) 15 = some (.iload_n 0, 0) := by decide +kernel
theorem at_12_16 : am_at (am_m 12) 16 = some (.iconst 2, 0) := by decide +kernel
theorem at_12_17 : am_at (am_m 12) 17 = some (.idiv, 0) := by decide +kernel
theorem at_12_18 : am_at (am_m 12) 18 = some (.iconst 2, 0) := by decide +kernel
theorem at_12_19 : am_at (am_m 12) 19 = some (.imul, 0) := by decide +kernel
theorem at_12_20 : am_at (am_m 12) 20 = some (.istore_n 3, 0) := by decide +kernel
theorem at_12_21 : am_at (am_m 12) 21 = some (.iload_n 1, 0) := by decide +kernel
theorem at_12_22 : am_at (am_m 12) 22 = some (.iload_n 2, 0) := by decide +kernel
theorem at_12_23 : am_at (am_m 12) 23 = some (.invokestatic 53, 13) := by decide +kernel
theorem at_12_26 : am_at (am_m 12) 26 = some (.ifCond .eq 9, 35) := by decide +kernel
theorem at_12_29 : am_at (am_m 12) 29 = some (.iload_n 3, 0) := by decide +kernel
theorem at_12_30 : am_at (am_m 12) 30 = some (.iconst 1, 0) := by decide +kernel
theorem at_12_31 : am_at (am_m 12) 31 = some (.iadd, 0) := by decide +kernel
theorem at_12_32 : am_at (am_m 12) 32 = some (.goto 4, 36) := by decide +kernel
theorem at_12_35 : am_at (am_m 12) 35 = some (.iload_n 3, 0) := by decide +kernel
theorem at_12_36 : am_at (am_m 12) 36 = some (.ireturn, 0) := by decide +kernel
theorem at_13_0 : am_at (am_m 13) 0 = some (.iload_n 0, 0) := by decide +kernel
theorem at_13_1 : am_at (am_m 13) 1 = some (.bipush 9, 0) := by decide +kernel
theorem at_13_3 : am_at (am_m 13) 3 = some (.if_icmp .eq 25, 28) := by decide +kernel
theorem at_13_6 : am_at (am_m 13) 6 = some (.iload_n 0, 0) := by decide +kernel
theorem at_13_7 : am_at (am_m 13) 7 = some (.bipush 17, 0) := by decide +kernel
theorem at_13_9 : am_at (am_m 13) 9 = some (.if_icmp .eq 19, 28) := by decide +kernel
theorem at_13_12 : am_at (am_m 13) 12 = some (.iload_n 0, 0) := by decide +kernel
theorem at_13_13 : am_at (am_m 13) 13 = some (.bipush 18, 0) := by decide +kernel
theorem at_13_15 : am_at (am_m 13) 15 = some (.if_icmp .eq 13, 28) := by decide +kernel
theorem at_13_18 : am_at (am_m 13) 18 = some (.iload_n 0, 0) := by decide +kernel
theorem at_13_19 : am_at (am_m 13) 19 = some (.bipush 20, 0) := by decide +kernel
theorem at_13_21 : am_at (am_m 13) 21 = some (.if_icmp .ne 11, 32) := by decide +kernel
theorem at_13_24 : am_at (am_m 13) 24 = some (.iload_n 1, 0) := by decide +kernel
theorem at_13_25 : am_at (am_m 13) 25 = some (.ifCond .ne 7, 32) := by decide +kernel
theorem at_13_28 : am_at (am_m 13) 28 = some (.iconst 1, 0) := by decide +kernel
theorem at_13_29 : am_at (am_m 13) 29 = some (.goto 4, 33) := by decide +kernel
theorem at_13_32 : am_at (am_m 13) 32 = some (.iconst 0, 0) := by decide +kernel
theorem at_13_33 : am_at (am_m 13) 33 = some (.ireturn, 0) := by decide +kernel
theorem at_14_0 : am_at (am_m 14) 0 = some (.iload_n 0, 0) := by decide +kernel
theorem at_14_1 : am_at (am_m 14) 1 = some (.bipush 7, 0) := by decide +kernel
theorem at_14_3 : am_at (am_m 14) 3 = some (.if_icmp .ge 7, 10) := by decide +kernel
theorem at_14_6 : am_at (am_m 14) 6 = some (.iconst 0, 0) := by decide +kernel
theorem at_14_7 : am_at (am_m 14) 7 = some (.goto 24, 31) := by decide +kernel
theorem at_14_10 : am_at (am_m 14) 10 = some (.iload_n 0, 0) := by decide +kernel
theorem at_14_11 : am_at (am_m 14) 11 = some (.bipush 10, 0) := by decide +kernel
theorem at_14_13 : am_at (am_m 14) 13 = some (.if_icmp .ge 7, 20) := by decide +kernel
theorem at_14_16 : am_at (am_m 14) 16 = some (.iconst 1, 0) := by decide +kernel
theorem at_14_17 : am_at (am_m 14) 17 = some (.goto 14, 31) := by decide +kernel
theorem at_14_20 : am_at (am_m 14) 20 = some (.iload_n 0, 0) := by decide +kernel
theorem at_14_21 : am_at (am_m 14) 21 = some (.bipush 20, 0) := by decide +kernel
theorem at_14_23 : am_at (am_m 14) 23 = some (.if_icmp .ge 7, 30) := by decide +kernel
theorem at_14_26 : am_at (am_m 14) 26 = some (.iconst 2, 0) := by decide +kernel
theorem at_14_27 : am_at (am_m 14) 27 = some (.goto 4, 31) := by decide +kernel
theorem at_14_30 : am_at (am_m 14) 30 = some (.iconst 3, 0) := by decide +kernel
theorem at_14_31 : am_at (am_m 14) 31 = some (.ireturn, 0) := by decide +kernel
theorem at_15_0 : am_at (am_m 15) 0 = some (.iload_n 2, 0) := by decide +kernel
theorem at_15_1 : am_at (am_m 15) 1 = some (.ifCond .le 33, 34) := by decide +kernel
theorem at_15_4 : am_at (am_m 15) 4 = some (.iload_n 2, 0) := by decide +kernel
theorem at_15_5 : am_at (am_m 15) 5 = some (.bipush 13, 0) := by decide +kernel
theorem at_15_7 : am_at (am_m 15) 7 = some (.if_icmp .ge 27, 34) := by decide +kernel
theorem at_15_10 : am_at (am_m 15) 10 = some (.iload_n 1, 0) := by decide +kernel
theorem at_15_11 : am_at (am_m 15) 11 = some (.ifCond .lt 23, 34) := by decide +kernel
theorem at_15_14 : am_at (am_m 15) 14 = some (.iload_n 1, 0) := by decide +kernel
theorem at_15_15 : am_at (am_m 15) 15 = some (.bipush 6, 0) := by decide +kernel
theorem at_15_17 : am_at (am_m 15) 17 = some (.if_icmp .ge 17, 34) := by decide +kernel
theorem at_15_20 : am_at (am_m 15) 20 = some (.aload_n 0, 0) := by decide +kernel
theorem at_15_21 : am_at (am_m 15) 21 = some (.getfield 15, 1025) := by decide +kernel
theorem at_15_24 : am_at (am_m 15) 24 = some (.iload_n 1, 0) := by decide +kernel
theorem at_15_25 : am_at (am_m 15) 25 = some (.bipush 13, 0) := by decide +kernel
theorem at_15_27 : am_at (am_m 15) 27 = some (.imul, 0) := by decide +kernel
theorem at_15_28 : am_at (am_m 15) 28 = some (.iload_n 2, 0) := by decide +kernel
theorem at_15_29 : am_at (am_m 15) 29 = some (.iadd, 0) := by decide +kernel
theorem at_15_30 : am_at (am_m 15) 30 = some (.laload, 0) := by decide +kernel
theorem at_15_31 : am_at (am_m 15) 31 = some (.goto 4, 35) := by decide +kernel
theorem at_15_34 : am_at (am_m 15) 34 = some (.lconst 0, 0) := by decide +kernel
theorem at_15_35 : am_at (am_m 15) 35 = some (.lreturn, 0) := by decide +kernel
theorem at_16_0 : am_at (am_m 16) 0 = some (.lconst 0, 0) := by decide +kernel
theorem at_16_1 : am_at (am_m 16) 1 = some (.lstore 4, 0) := by decide +kernel
theorem at_16_3 : am_at (am_m 16) 3 = some (.iconst 1, 0) := by decide +kernel
theorem at_16_4 : am_at (am_m 16) 4 = some (.istore 6, 0) := by decide +kernel
theorem at_16_6 : am_at (am_m 16) 6 = some (.iload 6, 0) := by decide +kernel
theorem at_16_8 : am_at (am_m 16) 8 = some (.iload_n 3, 0) := by decide +kernel
theorem at_16_9 : am_at (am_m 16) 9 = some (.if_icmp .ge 31, 40) := by decide +kernel
theorem at_16_12 : am_at (am_m 16) 12 = some (.lload 4, 0) := by decide +kernel
theorem at_16_14 : am_at (am_m 16) 14 = some (.aload_n 0, 0) := by decide +kernel
theorem at_16_15 : am_at (am_m 16) 15 = some (.iload_n 1, 0) := by decide +kernel
theorem at_16_16 : am_at (am_m 16) 16 = some (.iload 6, 0) := by decide +kernel
theorem at_16_18 : am_at (am_m 16) 18 = some (.invokevirtual 74, 15) := by decide +kernel
theorem at_16_21 : am_at (am_m 16) 21 = some (.aload_n 0, 0) := by decide +kernel
theorem at_16_22 : am_at (am_m 16) 22 = some (.iload_n 2, 0) := by decide +kernel
theorem at_16_23 : am_at (am_m 16) 23 = some (.iload_n 3, 0) := by decide +kernel
theorem at_16_24 : am_at (am_m 16) 24 = some (.iload 6, 0) := by decide +kernel
theorem at_16_26 : am_at (am_m 16) 26 = some (.isub, 0) := by decide +kernel
theorem at_16_27 : am_at (am_m 16) 27 = some (.invokevirtual 74, 15) := by decide +kernel
theorem at_16_30 : am_at (am_m 16) 30 = some (.lmul, 0) := by decide +kernel
theorem at_16_31 : am_at (am_m 16) 31 = some (.ladd, 0) := by decide +kernel
theorem at_16_32 : am_at (am_m 16) 32 = some (.lstore 4, 0) := by decide +kernel
theorem at_16_34 : am_at (am_m 16) 34 = some (.iinc 6 1, 0) := by decide +kernel
theorem at_16_37 : am_at (am_m 16) 37 = some (.goto (-31), 6) := by decide +kernel
theorem at_16_40 : am_at (am_m 16) 40 = some (.lload 4, 0) := by decide +kernel
theorem at_16_42 : am_at (am_m 16) 42 = some (.lreturn, 0) := by decide +kernel
theorem at_35_0 : am_at (am_m 35) 0 = some (.aload_n 0, 0) := by decide +kernel
theorem at_35_1 : am_at (am_m 35) 1 = some (.invokevirtual 76, 36) := by decide +kernel
theorem at_35_4 : am_at (am_m 35) 4 = some (.istore 4, 0) := by decide +kernel
theorem at_35_6 : am_at (am_m 35) 6 = some (.ldc 87, 5) := by decide +kernel
theorem at_35_8 : am_at (am_m 35) 8 = some (.iload 4, 0) := by decide +kernel
theorem at_35_10 : am_at (am_m 35) 10 = some (.invokevirtual 89, 10001) := by decide +kernel
theorem at_35_13 : am_at (am_m 35) 13 = some (.iconst 1, 0) := by decide +kernel
theorem at_35_14 : am_at (am_m 35) 14 = some (.iadd, 0) := by decide +kernel
theorem at_35_15 : am_at (am_m 35) 15 = some (.istore 5, 0) := by decide +kernel
theorem at_35_17 : am_at (am_m 35) 17 = some (.aload_n 0, 0) := by decide +kernel
theorem at_35_18 : am_at (am_m 35) 18 = some (.getfield 25, 2308) := by decide +kernel
theorem at_35_21 : am_at (am_m 35) 21 = some (.getfield 95, 771) := by decide +kernel
theorem at_35_24 : am_at (am_m 35) 24 = some (.bipush 60, 0) := by decide +kernel
theorem at_35_26 : am_at (am_m 35) 26 = some (.if_icmp .ge 9, 35) := by decide +kernel
theorem at_35_29 : am_at (am_m 35) 29 = some (.iload_n 2, 0) := by decide +kernel
theorem at_35_30 : am_at (am_m 35) 30 = some (.bipush 12, 0) := by decide +kernel
theorem at_35_32 : am_at (am_m 35) 32 = some (.if_icmp .le 10, 42) := by decide +kernel
theorem at_35_35 : am_at (am_m 35) 35 = some (.aload_n 0, 0) := by decide +kernel
theorem at_35_36 : am_at (am_m 35) 36 = some (.invokevirtual 65, 39) := by decide +kernel
theorem at_35_39 : am_at (am_m 35) 39 = some (.goto 93, 132) := by decide +kernel
theorem at_35_42 : am_at (am_m 35) 42 = some (.iload 4, 0) := by decide +kernel
theorem at_35_44 : am_at (am_m 35) 44 = some (.bipush 40, 0) := by decide +kernel
theorem at_35_46 : am_at (am_m 35) 46 = some (.if_icmp .ne 23, 69) := by decide +kernel
theorem at_35_49 : am_at (am_m 35) 49 = some (.aload_n 0, 0) := by decide +kernel
theorem at_35_50 : am_at (am_m 35) 50 = some (.dup, 0) := by decide +kernel
theorem at_35_51 : am_at (am_m 35) 51 = some (.getfield 19, 2306) := by decide +kernel
theorem at_35_54 : am_at (am_m 35) 54 = some (.iconst 1, 0) := by decide +kernel
theorem at_35_55 : am_at (am_m 35) 55 = some (.iadd, 0) := by decide +kernel
theorem at_35_56 : am_at (am_m 35) 56 = some (.putfield 19, 2306) := by decide +kernel
theorem at_35_59 : am_at (am_m 35) 59 = some (.aload_n 0, 0) := by decide +kernel
theorem at_35_60 : am_at (am_m 35) 60 = some (.iload_n 1, 0) := by decide +kernel
theorem at_35_61 : am_at (am_m 35) 61 = some (.iload_n 2, 0) := by decide +kernel
theorem at_35_62 : am_at (am_m 35) 62 = some (.iload_n 3, 0) := by decide +kernel
theorem at_35_63 : am_at (am_m 35) 63 = some (.invokevirtual 98, 40) := by decide +kernel
theorem at_35_66 : am_at (am_m 35) 66 = some (.goto 66, 132) := by decide +kernel
theorem at_35_69 : am_at (am_m 35) 69 = some (.iload_n 1, 0) := by decide +kernel
theorem at_35_70 : am_at (am_m 35) 70 = some (.ifCond .ne 13, 83) := by decide +kernel
theorem at_35_73 : am_at (am_m 35) 73 = some (.iload 5, 0) := by decide +kernel
theorem at_35_75 : am_at (am_m 35) 75 = some (.iconst 5, 0) := by decide +kernel
theorem at_35_76 : am_at (am_m 35) 76 = some (.if_icmp .lt 14, 90) := by decide +kernel
theorem at_35_79 : am_at (am_m 35) 79 = some (.iload_n 3, 0) := by decide +kernel
theorem at_35_80 : am_at (am_m 35) 80 = some (.ifCond .ne 10, 90) := by decide +kernel
theorem at_35_83 : am_at (am_m 35) 83 = some (.aload_n 0, 0) := by decide +kernel
theorem at_35_84 : am_at (am_m 35) 84 = some (.invokevirtual 65, 39) := by decide +kernel
theorem at_35_87 : am_at (am_m 35) 87 = some (.goto 45, 132) := by decide +kernel
theorem at_35_90 : am_at (am_m 35) 90 = some (.iload 5, 0) := by decide +kernel
theorem at_35_92 : am_at (am_m 35) 92 = some (.ifCond .le 27, 119) := by decide +kernel
theorem at_35_95 : am_at (am_m 35) 95 = some (.aload_n 0, 0) := by decide +kernel
theorem at_35_96 : am_at (am_m 35) 96 = some (.dup, 0) := by decide +kernel
theorem at_35_97 : am_at (am_m 35) 97 = some (.getfield 19, 2306) := by decide +kernel
theorem at_35_100 : am_at (am_m 35) 100 = some (.iconst 1, 0) := by decide +kernel
theorem at_35_101 : am_at (am_m 35) 101 = some (.iadd, 0) := by decide +kernel
theorem at_35_102 : am_at (am_m 35) 102 = some (.putfield 19, 2306) := by decide +kernel
theorem at_35_105 : am_at (am_m 35) 105 = some (.aload_n 0, 0) := by decide +kernel
theorem at_35_106 : am_at (am_m 35) 106 = some (.getfield 25, 2308) := by decide +kernel
theorem at_35_109 : am_at (am_m 35) 109 = some (.iload 5, 0) := by decide +kernel
theorem at_35_111 : am_at (am_m 35) 111 = some (.iconst 0, 0) := by decide +kernel
theorem at_35_112 : am_at (am_m 35) 112 = some (.invokevirtual 101, 41) := by decide +kernel
theorem at_35_115 : am_at (am_m 35) 115 = some (.pop, 0) := by decide +kernel
theorem at_35_116 : am_at (am_m 35) 116 = some (.goto 16, 132) := by decide +kernel
theorem at_35_119 : am_at (am_m 35) 119 = some (.aload_n 0, 0) := by decide +kernel
theorem at_35_120 : am_at (am_m 35) 120 = some (.getfield 25, 2308) := by decide +kernel
theorem at_35_123 : am_at (am_m 35) 123 = some (.iconst 0, 0) := by decide +kernel
theorem at_35_124 : am_at (am_m 35) 124 = some (.aload_n 0, 0) := by decide +kernel
theorem at_35_125 : am_at (am_m 35) 125 = some (.invokevirtual 105, 43) := by decide +kernel
theorem at_35_128 : am_at (am_m 35) 128 = some (.invokevirtual 101, 41) := by decide +kernel
theorem at_35_131 : am_at (am_m 35) 131 = some (.pop, 0) := by decide +kernel
theorem at_35_132 : am_at (am_m 35) 132 = some (.return_, 0) := by decide +kernel
theorem at_36_0 : am_at (am_m 36) 0 = some (.aload_n 0, 0) := by decide +kernel
theorem at_36_1 : am_at (am_m 36) 1 = some (.getfield 19, 2306) := by decide +kernel
theorem at_36_4 : am_at (am_m 36) 4 = some (.aload_n 0, 0) := by decide +kernel
theorem at_36_5 : am_at (am_m 36) 5 = some (.getfield 15, 2305) := by decide +kernel
theorem at_36_8 : am_at (am_m 36) 8 = some (.if_icmp .ge 15, 23) := by decide +kernel
theorem at_36_11 : am_at (am_m 36) 11 = some (.aload_n 0, 0) := by decide +kernel
theorem at_36_12 : am_at (am_m 36) 12 = some (.getfield 9, 2304) := by decide +kernel
theorem at_36_15 : am_at (am_m 36) 15 = some (.aload_n 0, 0) := by decide +kernel
theorem at_36_16 : am_at (am_m 36) 16 = some (.getfield 19, 2306) := by decide +kernel
theorem at_36_19 : am_at (am_m 36) 19 = some (.caload, 0) := by decide +kernel
theorem at_36_20 : am_at (am_m 36) 20 = some (.goto 4, 24) := by decide +kernel
theorem at_36_23 : am_at (am_m 36) 23 = some (.iconst 0, 0) := by decide +kernel
theorem at_36_24 : am_at (am_m 36) 24 = some (.ireturn, 0) := by decide +kernel
theorem at_39_0 : am_at (am_m 39) 0 = some (.aload_n 0, 0) := by decide +kernel
theorem at_39_1 : am_at (am_m 39) 1 = some (.getfield 22, 2307) := by decide +kernel
theorem at_39_4 : am_at (am_m 39) 4 = some (.ifCond .ge 11, 15) := by decide +kernel
theorem at_39_7 : am_at (am_m 39) 7 = some (.aload_n 0, 0) := by decide +kernel
theorem at_39_8 : am_at (am_m 39) 8 = some (.aload_n 0, 0) := by decide +kernel
theorem at_39_9 : am_at (am_m 39) 9 = some (.getfield 19, 2306) := by decide +kernel
theorem at_39_12 : am_at (am_m 39) 12 = some (.putfield 22, 2307) := by decide +kernel
theorem at_39_15 : am_at (am_m 39) 15 = some (.return_, 0) := by decide +kernel
theorem at_40_0 : am_at (am_m 40) 0 = some (.ldc 108, 6) := by decide +kernel
theorem at_40_2 : am_at (am_m 40) 2 = some (.aload_n 0, 0) := by decide +kernel
theorem at_40_3 : am_at (am_m 40) 3 = some (.invokevirtual 76, 36) := by decide +kernel
theorem at_40_6 : am_at (am_m 40) 6 = some (.invokevirtual 89, 10001) := by decide +kernel
theorem at_40_9 : am_at (am_m 40) 9 = some (.istore 4, 0) := by decide +kernel
theorem at_40_11 : am_at (am_m 40) 11 = some (.iload 4, 0) := by decide +kernel
theorem at_40_13 : am_at (am_m 40) 13 = some (.bipush 7, 0) := by decide +kernel
theorem at_40_15 : am_at (am_m 40) 15 = some (.iadd, 0) := by decide +kernel
theorem at_40_16 : am_at (am_m 40) 16 = some (.istore 5, 0) := by decide +kernel
theorem at_40_18 : am_at (am_m 40) 18 = some (.iload 4, 0) := by decide +kernel
theorem at_40_20 : am_at (am_m 40) 20 = some (.ifCond .lt 23, 43) := by decide +kernel
theorem at_40_23 : am_at (am_m 40) 23 = some (.iload 5, 0) := by decide +kernel
theorem at_40_25 : am_at (am_m 40) 25 = some (.invokestatic 110, 11) := by decide +kernel
theorem at_40_28 : am_at (am_m 40) 28 = some (.iload_n 1, 0) := by decide +kernel
theorem at_40_29 : am_at (am_m 40) 29 = some (.if_icmp .ne 14, 43) := by decide +kernel
theorem at_40_32 : am_at (am_m 40) 32 = some (.iload 5, 0) := by decide +kernel
theorem at_40_34 : am_at (am_m 40) 34 = some (.bipush 19, 0) := by decide +kernel
theorem at_40_36 : am_at (am_m 40) 36 = some (.if_icmp .ne 12, 48) := by decide +kernel
theorem at_40_39 : am_at (am_m 40) 39 = some (.iload_n 3, 0) := by decide +kernel
theorem at_40_40 : am_at (am_m 40) 40 = some (.ifCond .eq 8, 48) := by decide +kernel
theorem at_40_43 : am_at (am_m 40) 43 = some (.aload_n 0, 0) := by decide +kernel
theorem at_40_44 : am_at (am_m 40) 44 = some (.invokevirtual 65, 39) := by decide +kernel
theorem at_40_47 : am_at (am_m 40) 47 = some (.return_, 0) := by decide +kernel
theorem at_40_48 : am_at (am_m 40) 48 = some (.aload_n 0, 0) := by decide +kernel
theorem at_40_49 : am_at (am_m 40) 49 = some (.dup, 0) := by decide +kernel
theorem at_40_50 : am_at (am_m 40) 50 = some (.getfield 19, 2306) := by decide +kernel
theorem at_40_53 : am_at (am_m 40) 53 = some (.iconst 1, 0) := by decide +kernel
theorem at_40_54 : am_at (am_m 40) 54 = some (.iadd, 0) := by decide +kernel
theorem at_40_55 : am_at (am_m 40) 55 = some (.putfield 19, 2306) := by decide +kernel
theorem at_40_58 : am_at (am_m 40) 58 = some (.aload_n 0, 0) := by decide +kernel
theorem at_40_59 : am_at (am_m 40) 59 = some (.getfield 25, 2308) := by decide +kernel
theorem at_40_62 : am_at (am_m 40) 62 = some (.iload 5, 0) := by decide +kernel
theorem at_40_64 : am_at (am_m 40) 64 = some (.iconst 0, 0) := by decide +kernel
theorem at_40_65 : am_at (am_m 40) 65 = some (.invokevirtual 101, 41) := by decide +kernel
theorem at_40_68 : am_at (am_m 40) 68 = some (.pop, 0) := by decide +kernel
theorem at_40_69 : am_at (am_m 40) 69 = some (.iconst 0, 0) := by decide +kernel
theorem at_40_70 : am_at (am_m 40) 70 = some (.istore 6, 0) := by decide +kernel
theorem at_40_72 : am_at (am_m 40) 72 = some (.iload 6, 0) := by decide +kernel
theorem at_40_74 : am_at (am_m 40) 74 = some (.iload 5, 0) := by decide +kernel
theorem at_40_76 : am_at (am_m 40) 76 = some (.invokestatic 114, 14) := by decide +kernel
theorem at_40_79 : am_at (am_m 40) 79 = some (.if_icmp .ge 54, 133) := by decide +kernel
theorem at_40_82 : am_at (am_m 40) 82 = some (.aload_n 0, 0) := by decide +kernel
theorem at_40_83 : am_at (am_m 40) 83 = some (.bipush 32, 0) := by decide +kernel
theorem at_40_85 : am_at (am_m 40) 85 = some (.invokevirtual 117, 42) := by decide +kernel
theorem at_40_88 : am_at (am_m 40) 88 = some (.ifCond .eq 45, 133) := by decide +kernel
theorem at_40_91 : am_at (am_m 40) 91 = some (.aload_n 0, 0) := by decide +kernel
theorem at_40_92 : am_at (am_m 40) 92 = some (.iload 5, 0) := by decide +kernel
theorem at_40_94 : am_at (am_m 40) 94 = some (.iload 6, 0) := by decide +kernel
theorem at_40_96 : am_at (am_m 40) 96 = some (.invokestatic 120, 13) := by decide +kernel
theorem at_40_99 : am_at (am_m 40) 99 = some (.iload_n 2, 0) := by decide +kernel
theorem at_40_100 : am_at (am_m 40) 100 = some (.iconst 1, 0) := by decide +kernel
theorem at_40_101 : am_at (am_m 40) 101 = some (.iadd, 0) := by decide +kernel
theorem at_40_102 : am_at (am_m 40) 102 = some (.iload_n 3, 0) := by decide +kernel
theorem at_40_103 : am_at (am_m 40) 103 = some (.ifCond .ne 16, 119) := by decide +kernel
theorem at_40_106 : am_at (am_m 40) 106 = some (.iload 5, 0) := by decide +kernel
theorem at_40_108 : am_at (am_m 40) 108 = some (.bipush 19, 0) := by decide +kernel
theorem at_40_110 : am_at (am_m 40) 110 = some (.if_icmp .ne 13, 123) := by decide +kernel
theorem at_40_113 : am_at (am_m 40) 113 = some (.iload 6, 0) := by decide +kernel
theorem at_40_115 : am_at (am_m 40) 115 = some (.iconst 1, 0) := by decide +kernel
theorem at_40_116 : am_at (am_m 40) 116 = some (.if_icmp .ne 7, 123) := by decide +kernel
theorem at_40_119 : am_at (am_m 40) 119 = some (.iconst 1, 0) := by decide +kernel
theorem at_40_120 : am_at (am_m 40) 120 = some (.goto 4, 124) := by decide +kernel
theorem at_40_123 : am_at (am_m 40) 123 = some (.iconst 0, 0) := by decide +kernel
theorem at_40_124 : am_at (am_m 40) 124 = some (.invokevirtual 54, 35) := by decide +kernel
theorem at_40_127 : am_at (am_m 40) 127 = some (.iinc 6 1, 0) := by decide +kernel
theorem at_40_130 : am_at (am_m 40) 130 = some (.goto (-58), 72) := by decide +kernel
theorem at_40_133 : am_at (am_m 40) 133 = some (.aload_n 0, 0) := by decide +kernel
theorem at_40_134 : am_at (am_m 40) 134 = some (.bipush 41, 0) := by decide +kernel
theorem at_40_136 : am_at (am_m 40) 136 = some (.invokevirtual 117, 42) := by decide +kernel
theorem at_40_139 : am_at (am_m 40) 139 = some (.pop, 0) := by decide +kernel
theorem at_40_140 : am_at (am_m 40) 140 = some (.return_, 0) := by decide +kernel
theorem at_41_0 : am_at (am_m 41) 0 = some (.aload_n 0, 0) := by decide +kernel
theorem at_41_1 : am_at (am_m 41) 1 = some (.getfield 18, 771) := by decide +kernel
theorem at_41_4 : am_at (am_m 41) 4 = some (.aload_n 0, 0) := by decide +kernel
theorem at_41_5 : am_at (am_m 41) 5 = some (.getfield 21, 772) := by decide +kernel
theorem at_41_8 : am_at (am_m 41) 8 = some (.imul, 0) := by decide +kernel
theorem at_41_9 : am_at (am_m 41) 9 = some (.istore_n 3, 0) := by decide +kernel
theorem at_41_10 : am_at (am_m 41) 10 = some (.iload_n 3, 0) := by decide +kernel
theorem at_41_11 : am_at (am_m 41) 11 = some (.aload_n 0, 0) := by decide +kernel
theorem at_41_12 : am_at (am_m 41) 12 = some (.getfield 21, 772) := by decide +kernel
theorem at_41_15 : am_at (am_m 41) 15 = some (.iadd, 0) := by decide +kernel
theorem at_41_16 : am_at (am_m 41) 16 = some (.aload_n 0, 0) := by decide +kernel
theorem at_41_17 : am_at (am_m 41) 17 = some (.getfield 43, 768) := by decide +kernel
theorem at_41_20 : am_at (am_m 41) 20 = some (.arraylength, 0) := by decide +kernel
theorem at_41_21 : am_at (am_m 41) 21 = some (.if_icmp .le 5, 26) := by decide +kernel
theorem at_41_24 : am_at (am_m 41) 24 = some (.iconst 0, 0) := by decide +kernel
theorem at_41_25 : am_at (am_m 41) 25 = some (.ireturn, 0) := by decide +kernel
theorem at_41_26 : am_at (am_m 41) 26 = some (.iconst 2, 0) := by decide +kernel
theorem at_41_27 : am_at (am_m 41) 27 = some (.istore 4, 0) := by decide +kernel
theorem at_41_29 : am_at (am_m 41) 29 = some (.iload 4, 0) := by decide +kernel
theorem at_41_31 : am_at (am_m 41) 31 = some (.aload_n 0, 0) := by decide +kernel
theorem at_41_32 : am_at (am_m 41) 32 = some (.getfield 21, 772) := by decide +kernel
theorem at_41_35 : am_at (am_m 41) 35 = some (.if_icmp .ge 19, 54) := by decide +kernel
theorem at_41_38 : am_at (am_m 41) 38 = some (.aload_n 0, 0) := by decide +kernel
theorem at_41_39 : am_at (am_m 41) 39 = some (.getfield 43, 768) := by decide +kernel
theorem at_41_42 : am_at (am_m 41) 42 = some (.iload_n 3, 0) := by decide +kernel
theorem at_41_43 : am_at (am_m 41) 43 = some (.iload 4, 0) := by decide +kernel
theorem at_41_45 : am_at (am_m 41) 45 = some (.iadd, 0) := by decide +kernel
theorem at_41_46 : am_at (am_m 41) 46 = some (.iconst 0, 0) := by decide +kernel
theorem at_41_47 : am_at (am_m 41) 47 = some (.iastore, 0) := by decide +kernel
theorem at_41_48 : am_at (am_m 41) 48 = some (.iinc 4 1, 0) := by decide +kernel
theorem at_41_51 : am_at (am_m 41) 51 = some (.goto (-22), 29) := by decide +kernel
theorem at_41_54 : am_at (am_m 41) 54 = some (.aload_n 0, 0) := by decide +kernel
theorem at_41_55 : am_at (am_m 41) 55 = some (.getfield 43, 768) := by decide +kernel
theorem at_41_58 : am_at (am_m 41) 58 = some (.iload_n 3, 0) := by decide +kernel
theorem at_41_59 : am_at (am_m 41) 59 = some (.iload_n 1, 0) := by decide +kernel
theorem at_41_60 : am_at (am_m 41) 60 = some (.iastore, 0) := by decide +kernel
theorem at_41_61 : am_at (am_m 41) 61 = some (.aload_n 0, 0) := by decide +kernel
theorem at_41_62 : am_at (am_m 41) 62 = some (.getfield 43, 768) := by decide +kernel
theorem at_41_65 : am_at (am_m 41) 65 = some (.iload_n 3, 0) := by decide +kernel
theorem at_41_66 : am_at (am_m 41) 66 = some (.iconst 1, 0) := by decide +kernel
theorem at_41_67 : am_at (am_m 41) 67 = some (.iadd, 0) := by decide +kernel
theorem at_41_68 : am_at (am_m 41) 68 = some (.iload_n 2, 0) := by decide +kernel
theorem at_41_69 : am_at (am_m 41) 69 = some (.iastore, 0) := by decide +kernel
theorem at_41_70 : am_at (am_m 41) 70 = some (.aload_n 0, 0) := by decide +kernel
theorem at_41_71 : am_at (am_m 41) 71 = some (.dup, 0) := by decide +kernel
theorem at_41_72 : am_at (am_m 41) 72 = some (.getfield 18, 771) := by decide +kernel
theorem at_41_75 : am_at (am_m 41) 75 = some (.iconst 1, 0) := by decide +kernel
theorem at_41_76 : am_at (am_m 41) 76 = some (.iadd, 0) := by decide +kernel
theorem at_41_77 : am_at (am_m 41) 77 = some (.putfield 18, 771) := by decide +kernel
theorem at_41_80 : am_at (am_m 41) 80 = some (.iconst 1, 0) := by decide +kernel
theorem at_41_81 : am_at (am_m 41) 81 = some (.ireturn, 0) := by decide +kernel
theorem at_42_0 : am_at (am_m 42) 0 = some (.aload_n 0, 0) := by decide +kernel
theorem at_42_1 : am_at (am_m 42) 1 = some (.getfield 22, 2307) := by decide +kernel
theorem at_42_4 : am_at (am_m 42) 4 = some (.ifCond .ge 23, 27) := by decide +kernel
theorem at_42_7 : am_at (am_m 42) 7 = some (.aload_n 0, 0) := by decide +kernel
theorem at_42_8 : am_at (am_m 42) 8 = some (.invokevirtual 76, 36) := by decide +kernel
theorem at_42_11 : am_at (am_m 42) 11 = some (.iload_n 1, 0) := by decide +kernel
theorem at_42_12 : am_at (am_m 42) 12 = some (.if_icmp .ne 15, 27) := by decide +kernel
theorem at_42_15 : am_at (am_m 42) 15 = some (.aload_n 0, 0) := by decide +kernel
theorem at_42_16 : am_at (am_m 42) 16 = some (.dup, 0) := by decide +kernel
theorem at_42_17 : am_at (am_m 42) 17 = some (.getfield 19, 2306) := by decide +kernel
theorem at_42_20 : am_at (am_m 42) 20 = some (.iconst 1, 0) := by decide +kernel
theorem at_42_21 : am_at (am_m 42) 21 = some (.iadd, 0) := by decide +kernel
theorem at_42_22 : am_at (am_m 42) 22 = some (.putfield 19, 2306) := by decide +kernel
theorem at_42_25 : am_at (am_m 42) 25 = some (.iconst 1, 0) := by decide +kernel
theorem at_42_26 : am_at (am_m 42) 26 = some (.ireturn, 0) := by decide +kernel
theorem at_42_27 : am_at (am_m 42) 27 = some (.aload_n 0, 0) := by decide +kernel
theorem at_42_28 : am_at (am_m 42) 28 = some (.invokevirtual 65, 39) := by decide +kernel
theorem at_42_31 : am_at (am_m 42) 31 = some (.iconst 0, 0) := by decide +kernel
theorem at_42_32 : am_at (am_m 42) 32 = some (.ireturn, 0) := by decide +kernel
theorem at_43_0 : am_at (am_m 43) 0 = some (.aload_n 0, 0) := by decide +kernel
theorem at_43_1 : am_at (am_m 43) 1 = some (.invokevirtual 76, 36) := by decide +kernel
theorem at_43_4 : am_at (am_m 43) 4 = some (.bipush 45, 0) := by decide +kernel
theorem at_43_6 : am_at (am_m 43) 6 = some (.if_icmp .ne 7, 13) := by decide +kernel
theorem at_43_9 : am_at (am_m 43) 9 = some (.iconst 1, 0) := by decide +kernel
theorem at_43_10 : am_at (am_m 43) 10 = some (.goto 4, 14) := by decide +kernel
theorem at_43_13 : am_at (am_m 43) 13 = some (.iconst 0, 0) := by decide +kernel
theorem at_43_14 : am_at (am_m 43) 14 = some (.istore_n 1, 0) := by decide +kernel
theorem at_43_15 : am_at (am_m 43) 15 = some (.iload_n 1, 0) := by decide +kernel
theorem at_43_16 : am_at (am_m 43) 16 = some (.ifCond .eq 13, 29) := by decide +kernel
theorem at_43_19 : am_at (am_m 43) 19 = some (.aload_n 0, 0) := by decide +kernel
theorem at_43_20 : am_at (am_m 43) 20 = some (.dup, 0) := by decide +kernel
theorem at_43_21 : am_at (am_m 43) 21 = some (.getfield 19, 2306) := by decide +kernel
theorem at_43_24 : am_at (am_m 43) 24 = some (.iconst 1, 0) := by decide +kernel
theorem at_43_25 : am_at (am_m 43) 25 = some (.iadd, 0) := by decide +kernel
theorem at_43_26 : am_at (am_m 43) 26 = some (.putfield 19, 2306) := by decide +kernel
theorem at_43_29 : am_at (am_m 43) 29 = some (.aload_n 0, 0) := by decide +kernel
theorem at_43_30 : am_at (am_m 43) 30 = some (.invokevirtual 84, 44) := by decide +kernel
theorem at_43_33 : am_at (am_m 43) 33 = some (.istore_n 2, 0) := by decide +kernel
theorem at_43_34 : am_at (am_m 43) 34 = some (.iload_n 1, 0) := by decide +kernel
theorem at_43_35 : am_at (am_m 43) 35 = some (.ifCond .eq 8, 43) := by decide +kernel
theorem at_43_38 : am_at (am_m 43) 38 = some (.iload_n 2, 0) := by decide +kernel
theorem at_43_39 : am_at (am_m 43) 39 = some (.ineg, 0) := by decide +kernel
theorem at_43_40 : am_at (am_m 43) 40 = some (.goto 4, 44) := by decide +kernel
theorem at_43_43 : am_at (am_m 43) 43 = some (.iload_n 2, 0) := by decide +kernel
theorem at_43_44 : am_at (am_m 43) 44 = some (.ireturn, 0) := by decide +kernel
theorem at_44_0 : am_at (am_m 44) 0 = some (.iconst 0, 0) := by decide +kernel
theorem at_44_1 : am_at (am_m 44) 1 = some (.istore_n 1, 0) := by decide +kernel
theorem at_44_2 : am_at (am_m 44) 2 = some (.aload_n 0, 0) := by decide +kernel
theorem at_44_3 : am_at (am_m 44) 3 = some (.getfield 22, 2307) := by decide +kernel
theorem at_44_6 : am_at (am_m 44) 6 = some (.ifCond .ge 13, 19) := by decide +kernel
theorem at_44_9 : am_at (am_m 44) 9 = some (.aload_n 0, 0) := by decide +kernel
theorem at_44_10 : am_at (am_m 44) 10 = some (.invokevirtual 76, 36) := by decide +kernel
theorem at_44_13 : am_at (am_m 44) 13 = some (.invokestatic 80, 45) := by decide +kernel
theorem at_44_16 : am_at (am_m 44) 16 = some (.ifCond .ne 7, 23) := by decide +kernel
theorem at_44_19 : am_at (am_m 44) 19 = some (.aload_n 0, 0) := by decide +kernel
theorem at_44_20 : am_at (am_m 44) 20 = some (.invokevirtual 65, 39) := by decide +kernel
theorem at_44_23 : am_at (am_m 44) 23 = some (.iconst 0, 0) := by decide +kernel
theorem at_44_24 : am_at (am_m 44) 24 = some (.istore_n 2, 0) := by decide +kernel
theorem at_44_25 : am_at (am_m 44) 25 = some (.iload_n 2, 0) := by decide +kernel
theorem at_44_26 : am_at (am_m 44) 26 = some (.iconst 2, 0) := by decide +kernel
theorem at_44_27 : am_at (am_m 44) 27 = some (.if_icmp .ge 49, 76) := by decide +kernel
theorem at_44_30 : am_at (am_m 44) 30 = some (.aload_n 0, 0) := by decide +kernel
theorem at_44_31 : am_at (am_m 44) 31 = some (.getfield 22, 2307) := by decide +kernel
theorem at_44_34 : am_at (am_m 44) 34 = some (.ifCond .ge 42, 76) := by decide +kernel
theorem at_44_37 : am_at (am_m 44) 37 = some (.aload_n 0, 0) := by decide +kernel
theorem at_44_38 : am_at (am_m 44) 38 = some (.invokevirtual 76, 36) := by decide +kernel
theorem at_44_41 : am_at (am_m 44) 41 = some (.invokestatic 80, 45) := by decide +kernel
theorem at_44_44 : am_at (am_m 44) 44 = some (.ifCond .eq 32, 76) := by decide +kernel
theorem at_44_47 : am_at (am_m 44) 47 = some (.bipush 10, 0) := by decide +kernel
theorem at_44_49 : am_at (am_m 44) 49 = some (.iload_n 1, 0) := by decide +kernel
theorem at_44_50 : am_at (am_m 44) 50 = some (.imul, 0) := by decide +kernel
theorem at_44_51 : am_at (am_m 44) 51 = some (.aload_n 0, 0) := by decide +kernel
theorem at_44_52 : am_at (am_m 44) 52 = some (.invokevirtual 76, 36) := by decide +kernel
theorem at_44_55 : am_at (am_m 44) 55 = some (.iadd, 0) := by decide +kernel
theorem at_44_56 : am_at (am_m 44) 56 = some (.bipush 48, 0) := by decide +kernel
theorem at_44_58 : am_at (am_m 44) 58 = some (.isub, 0) := by decide +kernel
theorem at_44_59 : am_at (am_m 44) 59 = some (.istore_n 1, 0) := by decide +kernel
theorem at_44_60 : am_at (am_m 44) 60 = some (.aload_n 0, 0) := by decide +kernel
theorem at_44_61 : am_at (am_m 44) 61 = some (.dup, 0) := by decide +kernel
theorem at_44_62 : am_at (am_m 44) 62 = some (.getfield 19, 2306) := by decide +kernel
theorem at_44_65 : am_at (am_m 44) 65 = some (.iconst 1, 0) := by decide +kernel
theorem at_44_66 : am_at (am_m 44) 66 = some (.iadd, 0) := by decide +kernel
theorem at_44_67 : am_at (am_m 44) 67 = some (.putfield 19, 2306) := by decide +kernel
theorem at_44_70 : am_at (am_m 44) 70 = some (.iinc 2 1, 0) := by decide +kernel
theorem at_44_73 : am_at (am_m 44) 73 = some (.goto (-48), 25) := by decide +kernel
theorem at_44_76 : am_at (am_m 44) 76 = some (.iload_n 1, 0) := by decide +kernel
theorem at_44_77 : am_at (am_m 44) 77 = some (.ireturn, 0) := by decide +kernel
theorem at_45_0 : am_at (am_m 45) 0 = some (.iload_n 0, 0) := by decide +kernel
theorem at_45_1 : am_at (am_m 45) 1 = some (.bipush 48, 0) := by decide +kernel
theorem at_45_3 : am_at (am_m 45) 3 = some (.if_icmp .lt 13, 16) := by decide +kernel
theorem at_45_6 : am_at (am_m 45) 6 = some (.iload_n 0, 0) := by decide +kernel
theorem at_45_7 : am_at (am_m 45) 7 = some (.bipush 57, 0) := by decide +kernel
theorem at_45_9 : am_at (am_m 45) 9 = some (.if_icmp .gt 7, 16) := by decide +kernel
theorem at_45_12 : am_at (am_m 45) 12 = some (.iconst 1, 0) := by decide +kernel
theorem at_45_13 : am_at (am_m 45) 13 = some (.goto 4, 17) := by decide +kernel
theorem at_45_16 : am_at (am_m 45) 16 = some (.iconst 0, 0) := by decide +kernel
theorem at_45_17 : am_at (am_m 45) 17 = some (.ireturn, 0) := by decide +kernel
theorem at_54_0 : am_at (am_m 54) 0 = some (.iload_n 1, 0) := by decide +kernel
theorem at_54_1 : am_at (am_m 54) 1 = some (.ifCond .lt 39, 40) := by decide +kernel
theorem at_54_4 : am_at (am_m 54) 4 = some (.iload_n 1, 0) := by decide +kernel
theorem at_54_5 : am_at (am_m 54) 5 = some (.aload_n 0, 0) := by decide +kernel
theorem at_54_6 : am_at (am_m 54) 6 = some (.getfield 18, 771) := by decide +kernel
theorem at_54_9 : am_at (am_m 54) 9 = some (.if_icmp .ge 31, 40) := by decide +kernel
theorem at_54_12 : am_at (am_m 54) 12 = some (.iload_n 2, 0) := by decide +kernel
theorem at_54_13 : am_at (am_m 54) 13 = some (.ifCond .lt 27, 40) := by decide +kernel
theorem at_54_16 : am_at (am_m 54) 16 = some (.iload_n 2, 0) := by decide +kernel
theorem at_54_17 : am_at (am_m 54) 17 = some (.aload_n 0, 0) := by decide +kernel
theorem at_54_18 : am_at (am_m 54) 18 = some (.getfield 21, 772) := by decide +kernel
theorem at_54_21 : am_at (am_m 54) 21 = some (.if_icmp .ge 19, 40) := by decide +kernel
theorem at_54_24 : am_at (am_m 54) 24 = some (.aload_n 0, 0) := by decide +kernel
theorem at_54_25 : am_at (am_m 54) 25 = some (.getfield 43, 768) := by decide +kernel
theorem at_54_28 : am_at (am_m 54) 28 = some (.iload_n 1, 0) := by decide +kernel
theorem at_54_29 : am_at (am_m 54) 29 = some (.aload_n 0, 0) := by decide +kernel
theorem at_54_30 : am_at (am_m 54) 30 = some (.getfield 21, 772) := by decide +kernel
theorem at_54_33 : am_at (am_m 54) 33 = some (.imul, 0) := by decide +kernel
theorem at_54_34 : am_at (am_m 54) 34 = some (.iload_n 2, 0) := by decide +kernel
theorem at_54_35 : am_at (am_m 54) 35 = some (.iadd, 0) := by decide +kernel
theorem at_54_36 : am_at (am_m 54) 36 = some (.iaload, 0) := by decide +kernel
theorem at_54_37 : am_at (am_m 54) 37 = some (.goto 4, 41) := by decide +kernel
theorem at_54_40 : am_at (am_m 54) 40 = some (.iconst 0, 0) := by decide +kernel
theorem at_54_41 : am_at (am_m 54) 41 = some (.ireturn, 0) := by decide +kernel
theorem at_65_0 : am_at (am_m 65) 0 = some (.aload_n 0, 0) := by decide +kernel
theorem at_65_1 : am_at (am_m 65) 1 = some (.getfield 25, 2308) := by decide +kernel
theorem at_65_4 : am_at (am_m 65) 4 = some (.iload_n 1, 0) := by decide +kernel
theorem at_65_5 : am_at (am_m 65) 5 = some (.iconst 0, 0) := by decide +kernel
theorem at_65_6 : am_at (am_m 65) 6 = some (.invokevirtual 139, 54) := by decide +kernel
theorem at_65_9 : am_at (am_m 65) 9 = some (.istore_n 3, 0) := by decide +kernel
theorem at_65_10 : am_at (am_m 65) 10 = some (.iload_n 1, 0) := by decide +kernel
theorem at_65_11 : am_at (am_m 65) 11 = some (.iconst 1, 0) := by decide +kernel
theorem at_65_12 : am_at (am_m 65) 12 = some (.iadd, 0) := by decide +kernel
theorem at_65_13 : am_at (am_m 65) 13 = some (.istore 4, 0) := by decide +kernel
theorem at_65_15 : am_at (am_m 65) 15 = some (.iload_n 3, 0) := by decide +kernel
theorem at_65_16 : am_at (am_m 65) 16 = some (.ifCond .ne 19, 35) := by decide +kernel
theorem at_65_19 : am_at (am_m 65) 19 = some (.aload_n 0, 0) := by decide +kernel
theorem at_65_20 : am_at (am_m 65) 20 = some (.aload_n 0, 0) := by decide +kernel
theorem at_65_21 : am_at (am_m 65) 21 = some (.getfield 25, 2308) := by decide +kernel
theorem at_65_24 : am_at (am_m 65) 24 = some (.iload_n 1, 0) := by decide +kernel
theorem at_65_25 : am_at (am_m 65) 25 = some (.iconst 1, 0) := by decide +kernel
theorem at_65_26 : am_at (am_m 65) 26 = some (.invokevirtual 139, 54) := by decide +kernel
theorem at_65_29 : am_at (am_m 65) 29 = some (.invokevirtual 163, 66) := by decide +kernel
theorem at_65_32 : am_at (am_m 65) 32 = some (.goto 90, 122) := by decide +kernel
theorem at_65_35 : am_at (am_m 65) 35 = some (.iload_n 3, 0) := by decide +kernel
theorem at_65_36 : am_at (am_m 65) 36 = some (.bipush 7, 0) := by decide +kernel
theorem at_65_38 : am_at (am_m 65) 38 = some (.if_icmp .ge 18, 56) := by decide +kernel
theorem at_65_41 : am_at (am_m 65) 41 = some (.aload_n 0, 0) := by decide +kernel
theorem at_65_42 : am_at (am_m 65) 42 = some (.ldc 87, 5) := by decide +kernel
theorem at_65_44 : am_at (am_m 65) 44 = some (.iload_n 3, 0) := by decide +kernel
theorem at_65_45 : am_at (am_m 65) 45 = some (.iconst 1, 0) := by decide +kernel
theorem at_65_46 : am_at (am_m 65) 46 = some (.isub, 0) := by decide +kernel
theorem at_65_47 : am_at (am_m 65) 47 = some (.invokevirtual 166, 10002) := by decide +kernel
theorem at_65_50 : am_at (am_m 65) 50 = some (.invokevirtual 151, 68) := by decide +kernel
theorem at_65_53 : am_at (am_m 65) 53 = some (.goto 69, 122) := by decide +kernel
theorem at_65_56 : am_at (am_m 65) 56 = some (.aload_n 0, 0) := by decide +kernel
theorem at_65_57 : am_at (am_m 65) 57 = some (.bipush 40, 0) := by decide +kernel
theorem at_65_59 : am_at (am_m 65) 59 = some (.invokevirtual 151, 68) := by decide +kernel
theorem at_65_62 : am_at (am_m 65) 62 = some (.aload_n 0, 0) := by decide +kernel
theorem at_65_63 : am_at (am_m 65) 63 = some (.ldc 108, 6) := by decide +kernel
theorem at_65_65 : am_at (am_m 65) 65 = some (.iload_n 3, 0) := by decide +kernel
theorem at_65_66 : am_at (am_m 65) 66 = some (.bipush 7, 0) := by decide +kernel
theorem at_65_68 : am_at (am_m 65) 68 = some (.isub, 0) := by decide +kernel
theorem at_65_69 : am_at (am_m 65) 69 = some (.invokevirtual 166, 10002) := by decide +kernel
theorem at_65_72 : am_at (am_m 65) 72 = some (.invokevirtual 151, 68) := by decide +kernel
theorem at_65_75 : am_at (am_m 65) 75 = some (.iconst 0, 0) := by decide +kernel
theorem at_65_76 : am_at (am_m 65) 76 = some (.istore 5, 0) := by decide +kernel
theorem at_65_78 : am_at (am_m 65) 78 = some (.iload 5, 0) := by decide +kernel
theorem at_65_80 : am_at (am_m 65) 80 = some (.iload_n 3, 0) := by decide +kernel
theorem at_65_81 : am_at (am_m 65) 81 = some (.invokestatic 114, 14) := by decide +kernel
theorem at_65_84 : am_at (am_m 65) 84 = some (.if_icmp .ge 32, 116) := by decide +kernel
theorem at_65_87 : am_at (am_m 65) 87 = some (.iload_n 2, 0) := by decide +kernel
theorem at_65_88 : am_at (am_m 65) 88 = some (.bipush 12, 0) := by decide +kernel
theorem at_65_90 : am_at (am_m 65) 90 = some (.if_icmp .gt 26, 116) := by decide +kernel
theorem at_65_93 : am_at (am_m 65) 93 = some (.aload_n 0, 0) := by decide +kernel
theorem at_65_94 : am_at (am_m 65) 94 = some (.bipush 32, 0) := by decide +kernel
theorem at_65_96 : am_at (am_m 65) 96 = some (.invokevirtual 151, 68) := by decide +kernel
theorem at_65_99 : am_at (am_m 65) 99 = some (.aload_n 0, 0) := by decide +kernel
theorem at_65_100 : am_at (am_m 65) 100 = some (.iload 4, 0) := by decide +kernel
theorem at_65_102 : am_at (am_m 65) 102 = some (.iload_n 2, 0) := by decide +kernel
theorem at_65_103 : am_at (am_m 65) 103 = some (.iconst 1, 0) := by decide +kernel
theorem at_65_104 : am_at (am_m 65) 104 = some (.iadd, 0) := by decide +kernel
theorem at_65_105 : am_at (am_m 65) 105 = some (.invokevirtual 145, 65) := by decide +kernel
theorem at_65_108 : am_at (am_m 65) 108 = some (.istore 4, 0) := by decide +kernel
theorem at_65_110 : am_at (am_m 65) 110 = some (.iinc 5 1, 0) := by decide +kernel
theorem at_65_113 : am_at (am_m 65) 113 = some (.goto (-35), 78) := by decide +kernel
theorem at_65_116 : am_at (am_m 65) 116 = some (.aload_n 0, 0) := by decide +kernel
theorem at_65_117 : am_at (am_m 65) 117 = some (.bipush 41, 0) := by decide +kernel
theorem at_65_119 : am_at (am_m 65) 119 = some (.invokevirtual 151, 68) := by decide +kernel
theorem at_65_122 : am_at (am_m 65) 122 = some (.iload 4, 0) := by decide +kernel
theorem at_65_124 : am_at (am_m 65) 124 = some (.ireturn, 0) := by decide +kernel
theorem at_66_0 : am_at (am_m 66) 0 = some (.iload_n 1, 0) := by decide +kernel
theorem at_66_1 : am_at (am_m 66) 1 = some (.invokestatic 158, 67) := by decide +kernel
theorem at_66_4 : am_at (am_m 66) 4 = some (.istore_n 2, 0) := by decide +kernel
theorem at_66_5 : am_at (am_m 66) 5 = some (.iload_n 1, 0) := by decide +kernel
theorem at_66_6 : am_at (am_m 66) 6 = some (.ifCond .ge 9, 15) := by decide +kernel
theorem at_66_9 : am_at (am_m 66) 9 = some (.aload_n 0, 0) := by decide +kernel
theorem at_66_10 : am_at (am_m 66) 10 = some (.bipush 45, 0) := by decide +kernel
theorem at_66_12 : am_at (am_m 66) 12 = some (.invokevirtual 151, 68) := by decide +kernel
theorem at_66_15 : am_at (am_m 66) 15 = some (.iload_n 2, 0) := by decide +kernel
theorem at_66_16 : am_at (am_m 66) 16 = some (.bipush 9, 0) := by decide +kernel
theorem at_66_18 : am_at (am_m 66) 18 = some (.if_icmp .le 18, 36) := by decide +kernel
theorem at_66_21 : am_at (am_m 66) 21 = some (.aload_n 0, 0) := by decide +kernel
theorem at_66_22 : am_at (am_m 66) 22 = some (.bipush 48, 0) := by decide +kernel
theorem at_66_24 : am_at (am_m 66) 24 = some (.iload_n 2, 0) := by decide +kernel
theorem at_66_25 : am_at (am_m 66) 25 = some (.bipush 10, 0) := by decide +kernel
theorem at_66_27 : am_at (am_m 66) 27 = some (.idiv, 0) := by decide +kernel
theorem at_66_28 : am_at (am_m 66) 28 = some (.bipush 10, 0) := by decide +kernel
theorem at_66_30 : am_at (am_m 66) 30 = some (.irem, 0) := by decide +kernel
theorem at_66_31 : am_at (am_m 66) 31 = some (.iadd, 0) := by decide +kernel
theorem at_66_32 : am_at (am_m 66) 32 = some (.i2c, 0) := by decide +kernel
theorem at_66_33 : am_at (am_m 66) 33 = some (.invokevirtual 151, 68) := by decide +kernel
theorem at_66_36 : am_at (am_m 66) 36 = some (.aload_n 0, 0) := by decide +kernel
theorem at_66_37 : am_at (am_m 66) 37 = some (.bipush 48, 0) := by decide +kernel
theorem at_66_39 : am_at (am_m 66) 39 = some (.iload_n 2, 0) := by decide +kernel
theorem at_66_40 : am_at (am_m 66) 40 = some (.bipush 10, 0) := by decide +kernel
theorem at_66_42 : am_at (am_m 66) 42 = some (.irem, 0) := by decide +kernel
theorem at_66_43 : am_at (am_m 66) 43 = some (.iadd, 0) := by decide +kernel
theorem at_66_44 : am_at (am_m 66) 44 = some (.i2c, 0) := by decide +kernel
theorem at_66_45 : am_at (am_m 66) 45 = some (.invokevirtual 151, 68) := by decide +kernel
theorem at_66_48 : am_at (am_m 66) 48 = some (.return_, 0) := by decide +kernel
theorem at_67_0 : am_at (am_m 67) 0 = some (.iload_n 0, 0) := by decide +kernel
theorem at_67_1 : am_at (am_m 67) 1 = some (.ifCond .ge 8, 9) := by decide +kernel
theorem at_67_4 : am_at (am_m 67) 4 = some (.iload_n 0, 0) := by decide +kernel
theorem at_67_5 : am_at (am_m 67) 5 = some (.ineg, 0) := by decide +kernel
theorem at_67_6 : am_at (am_m 67) 6 = some (.goto 4, 10) := by decide +kernel
theorem at_67_9 : am_at (am_m 67) 9 = some (.iload_n 0, 0) := by decide +kernel
theorem at_67_10 : am_at (am_m 67) 10 = some (.ireturn, 0) := by decide +kernel
theorem at_68_0 : am_at (am_m 68) 0 = some (.aload_n 0, 0) := by decide +kernel
theorem at_68_1 : am_at (am_m 68) 1 = some (.getfield 43, 2312) := by decide +kernel
theorem at_68_4 : am_at (am_m 68) 4 = some (.aload_n 0, 0) := by decide +kernel
theorem at_68_5 : am_at (am_m 68) 5 = some (.getfield 40, 2311) := by decide +kernel
theorem at_68_8 : am_at (am_m 68) 8 = some (.arraylength, 0) := by decide +kernel
theorem at_68_9 : am_at (am_m 68) 9 = some (.if_icmp .ge 23, 32) := by decide +kernel
theorem at_68_12 : am_at (am_m 68) 12 = some (.aload_n 0, 0) := by decide +kernel
theorem at_68_13 : am_at (am_m 68) 13 = some (.getfield 40, 2311) := by decide +kernel
theorem at_68_16 : am_at (am_m 68) 16 = some (.aload_n 0, 0) := by decide +kernel
theorem at_68_17 : am_at (am_m 68) 17 = some (.getfield 43, 2312) := by decide +kernel
theorem at_68_20 : am_at (am_m 68) 20 = some (.iload_n 1, 0) := by decide +kernel
theorem at_68_21 : am_at (am_m 68) 21 = some (.castore, 0) := by decide +kernel
theorem at_68_22 : am_at (am_m 68) 22 = some (.aload_n 0, 0) := by decide +kernel
theorem at_68_23 : am_at (am_m 68) 23 = some (.dup, 0) := by decide +kernel
theorem at_68_24 : am_at (am_m 68) 24 = some (.getfield 43, 2312) := by decide +kernel
theorem at_68_27 : am_at (am_m 68) 27 = some (.iconst 1, 0) := by decide +kernel
theorem at_68_28 : am_at (am_m 68) 28 = some (.iadd, 0) := by decide +kernel
theorem at_68_29 : am_at (am_m 68) 29 = some (.putfield 43, 2312) := by decide +kernel
theorem at_68_32 : am_at (am_m 68) 32 = some (.return_, 0) := by decide +kernel
theorem mi_3 : am_mi 3 = (1, 2, 7, 1) := by decide +kernel
theorem mi_9 : am_mi 9 = (4, 1, 4, 9) := by decide +kernel
theorem mi_10 : am_mi 10 = (2, 0, 4, 3) := by decide +kernel
theorem mi_11 : am_mi 11 = (1, 0, 11, 1) := by decide +kernel
theorem mi_12 : am_mi 12 = (3, 0, 4, 4) := by decide +kernel
theorem mi_13 : am_mi 13 = (2, 0, 11, 2) := by decide +kernel
theorem mi_14 : am_mi 14 = (1, 0, 11, 1) := by decide +kernel
theorem mi_15 : am_mi 15 = (3, 1, 4, 3) := by decide +kernel
theorem mi_16 : am_mi 16 = (4, 1, 4, 7) := by decide +kernel
theorem mi_35 : am_mi 35 = (4, 1, 9, 6) := by decide +kernel
theorem mi_36 : am_mi 36 = (1, 1, 9, 1) := by decide +kernel
theorem mi_39 : am_mi 39 = (1, 1, 9, 1) := by decide +kernel
theorem mi_40 : am_mi 40 = (4, 1, 9, 7) := by decide +kernel
theorem mi_41 : am_mi 41 = (3, 1, 3, 5) := by decide +kernel
theorem mi_42 : am_mi 42 = (2, 1, 9, 2) := by decide +kernel
theorem mi_43 : am_mi 43 = (1, 1, 9, 3) := by decide +kernel
theorem mi_44 : am_mi 44 = (1, 1, 9, 3) := by decide +kernel
theorem mi_45 : am_mi 45 = (1, 0, 9, 1) := by decide +kernel
theorem mi_54 : am_mi 54 = (3, 1, 3, 3) := by decide +kernel
theorem mi_65 : am_mi 65 = (3, 1, 9, 6) := by decide +kernel
theorem mi_66 : am_mi 66 = (2, 1, 9, 3) := by decide +kernel
theorem mi_67 : am_mi 67 = (1, 0, 14, 1) := by decide +kernel
theorem mi_68 : am_mi 68 = (2, 1, 9, 2) := by decide +kernel
theorem rt_3 : am_rt (am_m 3) = none := by decide +kernel
theorem rt_8 : am_rt (am_m 8) = none := by decide +kernel
theorem rt_9 : am_rt (am_m 9) = (some FieldType.long) := by decide +kernel
theorem rt_10 : am_rt (am_m 10) = (some FieldType.boolean) := by decide +kernel
theorem rt_11 : am_rt (am_m 11) = (some FieldType.boolean) := by decide +kernel
theorem rt_12 : am_rt (am_m 12) = (some FieldType.int) := by decide +kernel
theorem rt_13 : am_rt (am_m 13) = (some FieldType.boolean) := by decide +kernel
theorem rt_14 : am_rt (am_m 14) = (some FieldType.int) := by decide +kernel
theorem rt_15 : am_rt (am_m 15) = (some FieldType.long) := by decide +kernel
theorem rt_16 : am_rt (am_m 16) = (some FieldType.long) := by decide +kernel
theorem rt_35 : am_rt (am_m 35) = none := by decide +kernel
theorem rt_36 : am_rt (am_m 36) = (some FieldType.char) := by decide +kernel
theorem rt_39 : am_rt (am_m 39) = none := by decide +kernel
theorem rt_40 : am_rt (am_m 40) = none := by decide +kernel
theorem rt_41 : am_rt (am_m 41) = (some FieldType.boolean) := by decide +kernel
theorem rt_42 : am_rt (am_m 42) = (some FieldType.boolean) := by decide +kernel
theorem rt_43 : am_rt (am_m 43) = (some FieldType.int) := by decide +kernel
theorem rt_44 : am_rt (am_m 44) = (some FieldType.int) := by decide +kernel
theorem rt_45 : am_rt (am_m 45) = (some FieldType.boolean) := by decide +kernel
theorem rt_54 : am_rt (am_m 54) = (some FieldType.int) := by decide +kernel
theorem rt_65 : am_rt (am_m 65) = (some FieldType.int) := by decide +kernel
theorem rt_66 : am_rt (am_m 66) = none := by decide +kernel
theorem rt_67 : am_rt (am_m 67) = (some FieldType.int) := by decide +kernel
theorem rt_68 : am_rt (am_m 68) = none := by decide +kernel
theorem hh_8 : am_hh (am_m 8) = [] := by decide +kernel
theorem hh_9 : am_hh (am_m 9) = [] := by decide +kernel
theorem hh_16 : am_hh (am_m 16) = [] := by decide +kernel
theorem hh_35 : am_hh (am_m 35) = [] := by decide +kernel
theorem hh_40 : am_hh (am_m 40) = [] := by decide +kernel
theorem hh_42 : am_hh (am_m 42) = [] := by decide +kernel
theorem hh_43 : am_hh (am_m 43) = [] := by decide +kernel
theorem hh_44 : am_hh (am_m 44) = [] := by decide +kernel
theorem hh_65 : am_hh (am_m 65) = [] := by decide +kernel
theorem hh_66 : am_hh (am_m 66) = [] := by decide +kernel
