theorem at_259_114 : am_at (am_m 259) 114 = some (.aload_n 0, 0) := by decide +kernel
theorem at_259_115 : am_at (am_m 259) 115 = some (.aload_n 2, 0) := by decide +kernel
theorem at_259_116 : am_at (am_m 259) 116 = some (.getfield 156, 775) := by decide +kernel
theorem at_259_119 : am_at (am_m 259) 119 = some (.invokevirtual 132, 63) := by decide +kernel
theorem at_259_122 : am_at (am_m 259) 122 = some (.goto 4, 126) := by decide +kernel
theorem at_259_125 : am_at (am_m 259) 125 = some (.aconst_null, 0) := by decide +kernel
theorem at_259_126 : am_at (am_m 259) 126 = some (.aload_n 2, 0) := by decide +kernel
theorem at_259_127 : am_at (am_m 259) 127 = some (.getfield 159, 776) := by decide +kernel
theorem at_259_130 : am_at (am_m 259) 130 = some (.invokevirtual 307, 159) := by decide +kernel
theorem at_259_133 : am_at (am_m 259) 133 = some (.pop, 0) := by decide +kernel
theorem at_259_134 : am_at (am_m 259) 134 = some (.aload_n 0, 0) := by decide +kernel
theorem at_259_135 : am_at (am_m 259) 135 = some (.getfield 54, 2823) := by decide +kernel
theorem at_259_138 : am_at (am_m 259) 138 = some (.aload_n 2, 0) := by decide +kernel
theorem at_259_139 : am_at (am_m 259) 139 = some (.getfield 162, 777) := by decide +kernel
theorem at_259_142 : am_at (am_m 259) 142 = some (.invokevirtual 313, 187) := by decide +kernel
theorem at_259_145 : am_at (am_m 259) 145 = some (.ifCond .ne 5, 150) := by decide +kernel
theorem at_259_148 : am_at (am_m 259) 148 = some (.iconst 0, 0) := by decide +kernel
theorem at_259_149 : am_at (am_m 259) 149 = some (.ireturn, 0) := by decide +kernel
theorem at_259_150 : am_at (am_m 259) 150 = some (.aload_n 0, 0) := by decide +kernel
theorem at_259_151 : am_at (am_m 259) 151 = some (.getfield 54, 2823) := by decide +kernel
theorem at_259_154 : am_at (am_m 259) 154 = some (.getfield 319, 0) := by decide +kernel
theorem at_259_157 : am_at (am_m 259) 157 = some (.aload_n 2, 0) := by decide +kernel
theorem at_259_158 : am_at (am_m 259) 158 = some (.invokevirtual 186, 86) := by decide +kernel
theorem at_259_161 : am_at (am_m 259) 161 = some (.ireturn, 0) := by decide +kernel
theorem at_260_0 : am_at (am_m 260) 0 = some (.aload_n 2, 0) := by decide +kernel
theorem at_260_1 : am_at (am_m 260) 1 = some (.iconst 0, 0) := by decide +kernel
theorem at_260_2 : am_at (am_m 260) 2 = some (.aload_n 0, 0) := by decide +kernel
theorem at_260_3 : am_at (am_m 260) 3 = some (.iload_n 1, 0) := by decide +kernel
theorem at_260_4 : am_at (am_m 260) 4 = some (.invokevirtual 149, 261) := by decide +kernel
theorem at_260_7 : am_at (am_m 260) 7 = some (.i2l, 0) := by decide +kernel
theorem at_260_8 : am_at (am_m 260) 8 = some (.lastore, 0) := by decide +kernel
theorem at_260_9 : am_at (am_m 260) 9 = some (.goto 9, 18) := by decide +kernel
theorem at_260_13 : am_at (am_m 260) 13 = some (.iconst 1, 0) := by decide +kernel
theorem at_260_14 : am_at (am_m 260) 14 = some (.ireturn, 0) := by decide +kernel
theorem at_260_16 : am_at (am_m 260) 16 = some (.iconst 2, 0) := by decide +kernel
theorem at_260_17 : am_at (am_m 260) 17 = some (.ireturn, 0) := by decide +kernel
theorem at_260_18 : am_at (am_m 260) 18 = some (.iconst 0, 0) := by decide +kernel
theorem at_260_19 : am_at (am_m 260) 19 = some (.ireturn, 0) := by decide +kernel
theorem at_261_0 : am_at (am_m 261) 0 = some (.iload_n 1, 0) := by decide +kernel
theorem at_261_1 : am_at (am_m 261) 1 = some (.iconst 1, 0) := by decide +kernel
theorem at_261_2 : am_at (am_m 261) 2 = some (.if_icmp .lt 8, 10) := by decide +kernel
theorem at_261_5 : am_at (am_m 261) 5 = some (.iload_n 1, 0) := by decide +kernel
theorem at_261_6 : am_at (am_m 261) 6 = some (.iconst 5, 0) := by decide +kernel
theorem at_261_7 : am_at (am_m 261) 7 = some (.if_icmp .le 13, 20) := by decide +kernel
theorem at_261_10 : am_at (am_m 261) 10 = some (.new 114, 100) := by decide +kernel
theorem at_261_20 : am_at (am_m 261) 20 = some (.aload_n 0, 0) := by decide +kernel
theorem at_261_21 : am_at (am_m 261) 21 = some (.iconst 1, 0) := by decide +kernel
theorem at_261_22 : am_at (am_m 261) 22 = some (.invokevirtual 121, 32) := by decide +kernel
theorem at_261_25 : am_at (am_m 261) 25 = some (.aload_n 0, 0) := by decide +kernel
theorem at_261_26 : am_at (am_m 261) 26 = some (.getfield 47, 2822) := by decide +kernel
theorem at_261_29 : am_at (am_m 261) 29 = some (.aload_n 0, 0) := by decide +kernel
theorem at_261_30 : am_at (am_m 261) 30 = some (.getfield 29, 2819) := by decide +kernel
theorem at_261_33 : am_at (am_m 261) 33 = some (.iload_n 1, 0) := by decide +kernel
theorem at_261_34 : am_at (am_m 261) 34 = some (.invokevirtual 418, 262) := by decide +kernel
theorem at_261_37 : am_at (am_m 261) 37 = some (.istore_n 2, 0) := by decide +kernel
theorem at_261_38 : am_at (am_m 261) 38 = some (.iload_n 2, 0) := by decide +kernel
theorem at_261_39 : am_at (am_m 261) 39 = some (.ifCond .ge 5, 44) := by decide +kernel
theorem at_261_42 : am_at (am_m 261) 42 = some (.iconst (-1), 0) := by decide +kernel
theorem at_261_43 : am_at (am_m 261) 43 = some (.ireturn, 0) := by decide +kernel
theorem at_261_44 : am_at (am_m 261) 44 = some (.aload_n 0, 0) := by decide +kernel
theorem at_261_45 : am_at (am_m 261) 45 = some (.getfield 47, 2822) := by decide +kernel
theorem at_261_48 : am_at (am_m 261) 48 = some (.iconst 4, 0) := by decide +kernel
theorem at_261_49 : am_at (am_m 261) 49 = some (.aload_n 0, 0) := by decide +kernel
theorem at_261_50 : am_at (am_m 261) 50 = some (.getfield 47, 2822) := by decide +kernel
theorem at_261_53 : am_at (am_m 261) 53 = some (.getfield 422, 1032) := by decide +kernel
theorem at_261_56 : am_at (am_m 261) 56 = some (.iload_n 2, 0) := by decide +kernel
theorem at_261_57 : am_at (am_m 261) 57 = some (.i2l, 0) := by decide +kernel
theorem at_261_58 : am_at (am_m 261) 58 = some (.aload_n 0, 0) := by decide +kernel
theorem at_261_59 : am_at (am_m 261) 59 = some (.getfield 90, 2831) := by decide +kernel
theorem at_261_62 : am_at (am_m 261) 62 = some (.invokevirtual 198, 91) := by decide +kernel
theorem at_261_65 : am_at (am_m 261) 65 = some (.aload_n 0, 0) := by decide +kernel
theorem at_261_66 : am_at (am_m 261) 66 = some (.aload_n 0, 0) := by decide +kernel
theorem at_261_67 : am_at (am_m 261) 67 = some (.getfield 90, 2831) := by decide +kernel
theorem at_261_70 : am_at (am_m 261) 70 = some (.iconst 1, 0) := by decide +kernel
theorem at_261_71 : am_at (am_m 261) 71 = some (.iconst (-1), 0) := by decide +kernel
theorem at_261_72 : am_at (am_m 261) 72 = some (.iconst (-1), 0) := by decide +kernel
theorem at_261_73 : am_at (am_m 261) 73 = some (.iconst (-1), 0) := by decide +kernel
theorem at_261_74 : am_at (am_m 261) 74 = some (.iconst (-1), 0) := by decide +kernel
theorem at_261_75 : am_at (am_m 261) 75 = some (.lconst 0, 0) := by decide +kernel
theorem at_261_76 : am_at (am_m 261) 76 = some (.invokevirtual 128, 59) := by decide +kernel
theorem at_261_79 : am_at (am_m 261) 79 = some (.ireturn, 0) := by decide +kernel
theorem at_262_0 : am_at (am_m 262) 0 = some (.aload_n 0, 0) := by decide +kernel
theorem at_262_1 : am_at (am_m 262) 1 = some (.aload_n 1, 0) := by decide +kernel
theorem at_262_2 : am_at (am_m 262) 2 = some (.putfield 42, 1031) := by decide +kernel
theorem at_262_5 : am_at (am_m 262) 5 = some (.aload_n 0, 0) := by decide +kernel
theorem at_262_6 : am_at (am_m 262) 6 = some (.aload_n 0, 0) := by decide +kernel
theorem at_262_7 : am_at (am_m 262) 7 = some (.getfield 42, 1031) := by decide +kernel
theorem at_262_10 : am_at (am_m 262) 10 = some (.aload_n 0, 0) := by decide +kernel
theorem at_262_11 : am_at (am_m 262) 11 = some (.getfield 34, 1029) := by decide +kernel
theorem at_262_14 : am_at (am_m 262) 14 = some (.invokevirtual 131, 219) := by decide +kernel
theorem at_262_17 : am_at (am_m 262) 17 = some (.putfield 38, 1030) := by decide +kernel
theorem at_262_20 : am_at (am_m 262) 20 = some (.iconst 0, 0) := by decide +kernel
theorem at_262_21 : am_at (am_m 262) 21 = some (.istore_n 3, 0) := by decide +kernel
theorem at_262_22 : am_at (am_m 262) 22 = some (.iload_n 3, 0) := by decide +kernel
theorem at_262_23 : am_at (am_m 262) 23 = some (.aload_n 0, 0) := by decide +kernel
theorem at_262_24 : am_at (am_m 262) 24 = some (.getfield 38, 1030) := by decide +kernel
theorem at_262_27 : am_at (am_m 262) 27 = some (.if_icmp .ge 29, 56) := by decide +kernel
theorem at_262_30 : am_at (am_m 262) 30 = some (.aload_n 0, 0) := by decide +kernel
theorem at_262_31 : am_at (am_m 262) 31 = some (.getfield 30, 1028) := by decide +kernel
theorem at_262_34 : am_at (am_m 262) 34 = some (.iload_n 3, 0) := by decide +kernel
theorem at_262_35 : am_at (am_m 262) 35 = some (.aaload, 0) := by decide +kernel
theorem at_262_36 : am_at (am_m 262) 36 = some (.ifnonnull 14, 50) := by decide +kernel
theorem at_262_39 : am_at (am_m 262) 39 = some (.aload_n 0, 0) := by decide +kernel
theorem at_262_40 : am_at (am_m 262) 40 = some (.getfield 30, 1028) := by decide +kernel
theorem at_262_43 : am_at (am_m 262) 43 = some (.iload_n 3, 0) := by decide +kernel
theorem at_262_44 : am_at (am_m 262) 44 = some (.sipush 7070, 0) := by decide +kernel
theorem at_262_47 : am_at (am_m 262) 47 = some (.newarray .long, 1) := by decide +kernel
theorem at_262_49 : am_at (am_m 262) 49 = some (.aastore, 0) := by decide +kernel
theorem at_262_50 : am_at (am_m 262) 50 = some (.iinc 3 1, 0) := by decide +kernel
theorem at_262_53 : am_at (am_m 262) 53 = some (.goto (-31), 22) := by decide +kernel
theorem at_262_56 : am_at (am_m 262) 56 = some (.iconst (-1), 0) := by decide +kernel
theorem at_262_57 : am_at (am_m 262) 57 = some (.istore_n 3, 0) := by decide +kernel
theorem at_262_58 : am_at (am_m 262) 58 = some (.iconst 1, 0) := by decide +kernel
theorem at_262_59 : am_at (am_m 262) 59 = some (.istore 4, 0) := by decide +kernel
theorem at_262_61 : am_at (am_m 262) 61 = some (.iload_n 3, 0) := by decide +kernel
theorem at_262_62 : am_at (am_m 262) 62 = some (.ifCond .ge 62, 124) := by decide +kernel
theorem at_262_65 : am_at (am_m 262) 65 = some (.iload 4, 0) := by decide +kernel
theorem at_262_67 : am_at (am_m 262) 67 = some (.iload_n 2, 0) := by decide +kernel
theorem at_262_68 : am_at (am_m 262) 68 = some (.if_icmp .gt 56, 124) := by decide +kernel
theorem at_262_71 : am_at (am_m 262) 71 = some (.aload_n 0, 0) := by decide +kernel
theorem at_262_72 : am_at (am_m 262) 72 = some (.iload 4, 0) := by decide +kernel
theorem at_262_74 : am_at (am_m 262) 74 = some (.putfield 46, 1032) := by decide +kernel
theorem at_262_77 : am_at (am_m 262) 77 = some (.iload 4, 0) := by decide +kernel
theorem at_262_79 : am_at (am_m 262) 79 = some (.iconst 1, 0) := by decide +kernel
theorem at_262_80 : am_at (am_m 262) 80 = some (.if_icmp .ne 20, 100) := by decide +kernel
theorem at_262_83 : am_at (am_m 262) 83 = some (.aload_n 0, 0) := by decide +kernel
theorem at_262_84 : am_at (am_m 262) 84 = some (.iload_n 2, 0) := by decide +kernel
theorem at_262_85 : am_at (am_m 262) 85 = some (.iconst 1, 0) := by decide +kernel
theorem at_262_86 : am_at (am_m 262) 86 = some (.if_icmp .le 7, 93) := by decide +kernel
theorem at_262_89 : am_at (am_m 262) 89 = some (.iconst 1, 0) := by decide +kernel
theorem at_262_90 : am_at (am_m 262) 90 = some (.goto 4, 94) := by decide +kernel
theorem at_262_93 : am_at (am_m 262) 93 = some (.iconst 0, 0) := by decide +kernel
theorem at_262_94 : am_at (am_m 262) 94 = some (.invokevirtual 137, 263) := by decide +kernel
theorem at_262_97 : am_at (am_m 262) 97 = some (.goto 20, 117) := by decide +kernel
theorem at_262_100 : am_at (am_m 262) 100 = some (.aload_n 0, 0) := by decide +kernel
theorem at_262_101 : am_at (am_m 262) 101 = some (.iload 4, 0) := by decide +kernel
theorem at_262_103 : am_at (am_m 262) 103 = some (.iload 4, 0) := by decide +kernel
theorem at_262_105 : am_at (am_m 262) 105 = some (.iload_n 2, 0) := by decide +kernel
theorem at_262_106 : am_at (am_m 262) 106 = some (.if_icmp .ge 7, 113) := by decide +kernel
theorem at_262_109 : am_at (am_m 262) 109 = some (.iconst 1, 0) := by decide +kernel
theorem at_262_110 : am_at (am_m 262) 110 = some (.goto 4, 114) := by decide +kernel
theorem at_262_113 : am_at (am_m 262) 113 = some (.iconst 0, 0) := by decide +kernel
theorem at_262_114 : am_at (am_m 262) 114 = some (.invokevirtual 141, 266) := by decide +kernel
theorem at_262_117 : am_at (am_m 262) 117 = some (.istore_n 3, 0) := by decide +kernel
theorem at_262_118 : am_at (am_m 262) 118 = some (.iinc 4 1, 0) := by decide +kernel
theorem at_262_121 : am_at (am_m 262) 121 = some (.goto (-60), 61) := by decide +kernel
theorem at_262_124 : am_at (am_m 262) 124 = some (.iload_n 3, 0) := by decide +kernel
theorem at_262_125 : am_at (am_m 262) 125 = some (.ireturn, 0) := by decide +kernel
theorem at_263_0 : am_at (am_m 263) 0 = some (.iconst 0, 0) := by decide +kernel
theorem at_263_1 : am_at (am_m 263) 1 = some (.istore_n 2, 0) := by decide +kernel
theorem at_263_2 : am_at (am_m 263) 2 = some (.iload_n 2, 0) := by decide +kernel
theorem at_263_3 : am_at (am_m 263) 3 = some (.bipush 14, 0) := by decide +kernel
theorem at_263_5 : am_at (am_m 263) 5 = some (.if_icmp .ge 36, 41) := by decide +kernel
theorem at_263_8 : am_at (am_m 263) 8 = some (.aload_n 0, 0) := by decide +kernel
theorem at_263_9 : am_at (am_m 263) 9 = some (.iload_n 2, 0) := by decide +kernel
theorem at_263_10 : am_at (am_m 263) 10 = some (.bipush 10, 0) := by decide +kernel
theorem at_263_12 : am_at (am_m 263) 12 = some (.if_icmp .ge 7, 19) := by decide +kernel
theorem at_263_15 : am_at (am_m 263) 15 = some (.iconst 0, 0) := by decide +kernel
theorem at_263_16 : am_at (am_m 263) 16 = some (.goto 7, 23) := by decide +kernel
theorem at_263_19 : am_at (am_m 263) 19 = some (.iload_n 2, 0) := by decide +kernel
theorem at_263_20 : am_at (am_m 263) 20 = some (.bipush 9, 0) := by decide +kernel
theorem at_263_22 : am_at (am_m 263) 22 = some (.isub, 0) := by decide +kernel
theorem at_263_23 : am_at (am_m 263) 23 = some (.iload_n 2, 0) := by decide +kernel
theorem at_263_24 : am_at (am_m 263) 24 = some (.iconst 0, 0) := by decide +kernel
theorem at_263_25 : am_at (am_m 263) 25 = some (.iload_n 2, 0) := by decide +kernel
theorem at_263_26 : am_at (am_m 263) 26 = some (.iload_n 1, 0) := by decide +kernel
theorem at_263_27 : am_at (am_m 263) 27 = some (.invokevirtual 145, 264) := by decide +kernel
theorem at_263_30 : am_at (am_m 263) 30 = some (.ifCond .eq 5, 35) := by decide +kernel
theorem at_263_33 : am_at (am_m 263) 33 = some (.iload_n 2, 0) := by decide +kernel
theorem at_263_34 : am_at (am_m 263) 34 = some (.ireturn, 0) := by decide +kernel
theorem at_263_35 : am_at (am_m 263) 35 = some (.iinc 2 1, 0) := by decide +kernel
theorem at_263_38 : am_at (am_m 263) 38 = some (.goto (-36), 2) := by decide +kernel
theorem at_263_41 : am_at (am_m 263) 41 = some (.iconst (-1), 0) := by decide +kernel
theorem at_263_42 : am_at (am_m 263) 42 = some (.ireturn, 0) := by decide +kernel
theorem at_264_0 : am_at (am_m 264) 0 = some (.iconst 1, 0) := by decide +kernel
theorem at_264_1 : am_at (am_m 264) 1 = some (.istore 6, 0) := by decide +kernel
theorem at_264_3 : am_at (am_m 264) 3 = some (.iconst 0, 0) := by decide +kernel
theorem at_264_4 : am_at (am_m 264) 4 = some (.istore 7, 0) := by decide +kernel
theorem at_264_6 : am_at (am_m 264) 6 = some (.iload 7, 0) := by decide +kernel
theorem at_264_8 : am_at (am_m 264) 8 = some (.aload_n 0, 0) := by decide +kernel
theorem at_264_9 : am_at (am_m 264) 9 = some (.getfield 38, 1030) := by decide +kernel
theorem at_264_12 : am_at (am_m 264) 12 = some (.if_icmp .ge 91, 103) := by decide +kernel
theorem at_264_15 : am_at (am_m 264) 15 = some (.aload_n 0, 0) := by decide +kernel
theorem at_264_16 : am_at (am_m 264) 16 = some (.iload_n 1, 0) := by decide +kernel
theorem at_264_17 : am_at (am_m 264) 17 = some (.iload_n 2, 0) := by decide +kernel
theorem at_264_18 : am_at (am_m 264) 18 = some (.iload_n 3, 0) := by decide +kernel
theorem at_264_19 : am_at (am_m 264) 19 = some (.iload 7, 0) := by decide +kernel
theorem at_264_21 : am_at (am_m 264) 21 = some (.invokevirtual 152, 265) := by decide +kernel
theorem at_264_24 : am_at (am_m 264) 24 = some (.lstore 8, 0) := by decide +kernel
theorem at_264_26 : am_at (am_m 264) 26 = some (.iload 5, 0) := by decide +kernel
theorem at_264_28 : am_at (am_m 264) 28 = some (.ifCond .eq 23, 51) := by decide +kernel
theorem at_264_31 : am_at (am_m 264) 31 = some (.iload 4, 0) := by decide +kernel
theorem at_264_33 : am_at (am_m 264) 33 = some (.sipush 7070, 0) := by decide +kernel
theorem at_264_36 : am_at (am_m 264) 36 = some (.if_icmp .ge 15, 51) := by decide +kernel
theorem at_264_39 : am_at (am_m 264) 39 = some (.aload_n 0, 0) := by decide +kernel
theorem at_264_40 : am_at (am_m 264) 40 = some (.getfield 30, 1028) := by decide +kernel
theorem at_264_43 : am_at (am_m 264) 43 = some (.iload 7, 0) := by decide +kernel
theorem at_264_45 : am_at (am_m 264) 45 = some (.aaload, 0) := by decide +kernel
theorem at_264_46 : am_at (am_m 264) 46 = some (.iload 4, 0) := by decide +kernel
theorem at_264_48 : am_at (am_m 264) 48 = some (.lload 8, 0) := by decide +kernel
theorem at_264_50 : am_at (am_m 264) 50 = some (.lastore, 0) := by decide +kernel
theorem at_264_51 : am_at (am_m 264) 51 = some (.iload 6, 0) := by decide +kernel
theorem at_264_53 : am_at (am_m 264) 53 = some (.ifCond .eq 29, 82) := by decide +kernel
theorem at_264_56 : am_at (am_m 264) 56 = some (.lload 8, 0) := by decide +kernel
theorem at_264_58 : am_at (am_m 264) 58 = some (.aload_n 0, 0) := by decide +kernel
theorem at_264_59 : am_at (am_m 264) 59 = some (.getfield 42, 1031) := by decide +kernel
theorem at_264_62 : am_at (am_m 264) 62 = some (.aload_n 0, 0) := by decide +kernel
theorem at_264_63 : am_at (am_m 264) 63 = some (.getfield 34, 1029) := by decide +kernel
theorem at_264_66 : am_at (am_m 264) 66 = some (.iload 7, 0) := by decide +kernel
theorem at_264_68 : am_at (am_m 264) 68 = some (.iaload, 0) := by decide +kernel
theorem at_264_69 : am_at (am_m 264) 69 = some (.iconst 3, 0) := by decide +kernel
theorem at_264_70 : am_at (am_m 264) 70 = some (.invokevirtual 155, 112) := by decide +kernel
theorem at_264_73 : am_at (am_m 264) 73 = some (.i2l, 0) := by decide +kernel
theorem at_264_74 : am_at (am_m 264) 74 = some (.lcmp, 0) := by decide +kernel
theorem at_264_75 : am_at (am_m 264) 75 = some (.ifCond .ne 7, 82) := by decide +kernel
theorem at_264_78 : am_at (am_m 264) 78 = some (.iconst 1, 0) := by decide +kernel
theorem at_264_79 : am_at (am_m 264) 79 = some (.goto 4, 83) := by decide +kernel
theorem at_264_82 : am_at (am_m 264) 82 = some (.iconst 0, 0) := by decide +kernel
theorem at_264_83 : am_at (am_m 264) 83 = some (.istore 6, 0) := by decide +kernel
theorem at_264_85 : am_at (am_m 264) 85 = some (.iload 6, 0) := by decide +kernel
theorem at_264_87 : am_at (am_m 264) 87 = some (.ifCond .ne 10, 97) := by decide +kernel
theorem at_264_90 : am_at (am_m 264) 90 = some (.iload 5, 0) := by decide +kernel
theorem at_264_92 : am_at (am_m 264) 92 = some (.ifCond .ne 5, 97) := by decide +kernel
theorem at_264_95 : am_at (am_m 264) 95 = some (.iconst 0, 0) := by decide +kernel
theorem at_264_96 : am_at (am_m 264) 96 = some (.ireturn, 0) := by decide +kernel
theorem at_264_97 : am_at (am_m 264) 97 = some (.iinc 7 1, 0) := by decide +kernel
theorem at_264_100 : am_at (am_m 264) 100 = some (.goto (-94), 6) := by decide +kernel
theorem at_264_103 : am_at (am_m 264) 103 = some (.iload 6, 0) := by decide +kernel
theorem at_264_105 : am_at (am_m 264) 105 = some (.ireturn, 0) := by decide +kernel
theorem at_265_0 : am_at (am_m 265) 0 = some (.aload_n 0, 0) := by decide +kernel
theorem at_265_1 : am_at (am_m 265) 1 = some (.getfield 34, 1029) := by decide +kernel
theorem at_265_4 : am_at (am_m 265) 4 = some (.iload 4, 0) := by decide +kernel
theorem at_265_6 : am_at (am_m 265) 6 = some (.iaload, 0) := by decide +kernel
theorem at_265_7 : am_at (am_m 265) 7 = some (.istore 5, 0) := by decide +kernel
theorem at_265_9 : am_at (am_m 265) 9 = some (.aload_n 0, 0) := by decide +kernel
theorem at_265_10 : am_at (am_m 265) 10 = some (.getfield 42, 1031) := by decide +kernel
theorem at_265_13 : am_at (am_m 265) 13 = some (.iload 5, 0) := by decide +kernel
theorem at_265_15 : am_at (am_m 265) 15 = some (.bipush 6, 0) := by decide +kernel
theorem at_265_17 : am_at (am_m 265) 17 = some (.invokevirtual 155, 112) := by decide +kernel
theorem at_265_20 : am_at (am_m 265) 20 = some (.istore 6, 0) := by decide +kernel
theorem at_265_22 : am_at (am_m 265) 22 = some (.iload_n 1, 0) := by decide +kernel
theorem at_265_23 : am_at (am_m 265) 23 = some (.bipush 7, 0) := by decide +kernel
theorem at_265_25 : am_at (am_m 265) 25 = some (.if_icmp .ge 37, 62) := by decide +kernel
theorem at_265_28 : am_at (am_m 265) 28 = some (.iload_n 1, 0) := by decide +kernel
theorem at_265_29 : am_at (am_m 265) 29 = some (.ifCond .ne 8, 37) := by decide +kernel
theorem at_265_32 : am_at (am_m 265) 32 = some (.iload_n 2, 0) := by decide +kernel
theorem at_265_33 : am_at (am_m 265) 33 = some (.i2l, 0) := by decide +kernel
theorem at_265_34 : am_at (am_m 265) 34 = some (.goto 27, 61) := by decide +kernel
theorem at_265_37 : am_at (am_m 265) 37 = some (.iload_n 1, 0) := by decide +kernel
theorem at_265_38 : am_at (am_m 265) 38 = some (.iconst 4, 0) := by decide +kernel
theorem at_265_39 : am_at (am_m 265) 39 = some (.if_icmp .ne 9, 48) := by decide +kernel
theorem at_265_42 : am_at (am_m 265) 42 = some (.iload 6, 0) := by decide +kernel
theorem at_265_44 : am_at (am_m 265) 44 = some (.i2l, 0) := by decide +kernel
theorem at_265_45 : am_at (am_m 265) 45 = some (.goto 16, 61) := by decide +kernel
theorem at_265_48 : am_at (am_m 265) 48 = some (.aload_n 0, 0) := by decide +kernel
theorem at_265_49 : am_at (am_m 265) 49 = some (.getfield 42, 1031) := by decide +kernel
theorem at_265_52 : am_at (am_m 265) 52 = some (.iload 5, 0) := by decide +kernel
theorem at_265_54 : am_at (am_m 265) 54 = some (.iload_n 1, 0) := by decide +kernel
theorem at_265_55 : am_at (am_m 265) 55 = some (.iconst 1, 0) := by decide +kernel
theorem at_265_56 : am_at (am_m 265) 56 = some (.isub, 0) := by decide +kernel
theorem at_265_57 : am_at (am_m 265) 57 = some (.invokevirtual 155, 112) := by decide +kernel
theorem at_265_60 : am_at (am_m 265) 60 = some (.i2l, 0) := by decide +kernel
theorem at_265_61 : am_at (am_m 265) 61 = some (.lreturn, 0) := by decide +kernel
theorem at_265_62 : am_at (am_m 265) 62 = some (.aload_n 0, 0) := by decide +kernel
theorem at_265_63 : am_at (am_m 265) 63 = some (.getfield 30, 1028) := by decide +kernel
theorem at_265_66 : am_at (am_m 265) 66 = some (.iload 4, 0) := by decide +kernel
theorem at_265_68 : am_at (am_m 265) 68 = some (.aaload, 0) := by decide +kernel
theorem at_265_69 : am_at (am_m 265) 69 = some (.iload_n 2, 0) := by decide +kernel
theorem at_265_70 : am_at (am_m 265) 70 = some (.laload, 0) := by decide +kernel
theorem at_265_71 : am_at (am_m 265) 71 = some (.lstore 7, 0) := by decide +kernel
theorem at_265_73 : am_at (am_m 265) 73 = some (.iload_n 1, 0) := by decide +kernel
theorem at_265_74 : am_at (am_m 265) 74 = some (.bipush 10, 0) := by decide +kernel
theorem at_265_76 : am_at (am_m 265) 76 = some (.if_icmp .ge 7, 83) := by decide +kernel
theorem at_265_79 : am_at (am_m 265) 79 = some (.lconst 0, 0) := by decide +kernel
theorem at_265_80 : am_at (am_m 265) 80 = some (.goto 12, 92) := by decide +kernel
theorem at_265_83 : am_at (am_m 265) 83 = some (.aload_n 0, 0) := by decide +kernel
theorem at_265_84 : am_at (am_m 265) 84 = some (.getfield 30, 1028) := by decide +kernel
theorem at_265_87 : am_at (am_m 265) 87 = some (.iload 4, 0) := by decide +kernel
theorem at_265_89 : am_at (am_m 265) 89 = some (.aaload, 0) := by decide +kernel
theorem at_265_90 : am_at (am_m 265) 90 = some (.iload_n 3, 0) := by decide +kernel
theorem at_265_91 : am_at (am_m 265) 91 = some (.laload, 0) := by decide +kernel
theorem at_265_92 : am_at (am_m 265) 92 = some (.lstore 9, 0) := by decide +kernel
theorem at_265_94 : am_at (am_m 265) 94 = some (.lload 7, 0) := by decide +kernel
theorem at_265_96 : am_at (am_m 265) 96 = some (.ldc2_w 158, 41) := by decide +kernel
theorem at_265_99 : am_at (am_m 265) 99 = some (.lcmp, 0) := by decide +kernel
theorem at_265_100 : am_at (am_m 265) 100 = some (.ifCond .eq 31, 131) := by decide +kernel
theorem at_265_103 : am_at (am_m 265) 103 = some (.lload 9, 0) := by decide +kernel
theorem at_265_105 : am_at (am_m 265) 105 = some (.ldc2_w 158, 41) := by decide +kernel
theorem at_265_108 : am_at (am_m 265) 108 = some (.lcmp, 0) := by decide +kernel
theorem at_265_109 : am_at (am_m 265) 109 = some (.ifCond .eq 22, 131) := by decide +kernel
theorem at_265_112 : am_at (am_m 265) 112 = some (.iload_n 1, 0) := by decide +kernel
theorem at_265_113 : am_at (am_m 265) 113 = some (.bipush 13, 0) := by decide +kernel
theorem at_265_115 : am_at (am_m 265) 115 = some (.if_icmp .eq 9, 124) := by decide +kernel
theorem at_265_118 : am_at (am_m 265) 118 = some (.iload_n 1, 0) := by decide +kernel
theorem at_265_119 : am_at (am_m 265) 119 = some (.bipush 14, 0) := by decide +kernel
theorem at_265_121 : am_at (am_m 265) 121 = some (.if_icmp .ne 14, 135) := by decide +kernel
theorem at_265_124 : am_at (am_m 265) 124 = some (.lload 9, 0) := by decide +kernel
theorem at_265_126 : am_at (am_m 265) 126 = some (.lconst 0, 0) := by decide +kernel
theorem at_265_127 : am_at (am_m 265) 127 = some (.lcmp, 0) := by decide +kernel
theorem at_265_128 : am_at (am_m 265) 128 = some (.ifCond .ne 7, 135) := by decide +kernel
theorem at_265_131 : am_at (am_m 265) 131 = some (.ldc2_w 158, 41) := by decide +kernel
theorem at_265_134 : am_at (am_m 265) 134 = some (.lreturn, 0) := by decide +kernel
theorem at_265_135 : am_at (am_m 265) 135 = some (.iload_n 1, 0) := by decide +kernel
theorem at_265_136 : am_at (am_m 265) 136 = some (.bipush 8, 0) := by decide +kernel
theorem at_265_138 : am_at (am_m 265) 138 = some (.if_icmp .ne 42, 180) := by decide +kernel
theorem at_265_141 : am_at (am_m 265) 141 = some (.lload 7, 0) := by decide +kernel
theorem at_265_143 : am_at (am_m 265) 143 = some (.lconst 0, 0) := by decide +kernel
theorem at_265_144 : am_at (am_m 265) 144 = some (.lcmp, 0) := by decide +kernel
theorem at_265_145 : am_at (am_m 265) 145 = some (.ifCond .lt 12, 157) := by decide +kernel
theorem at_265_148 : am_at (am_m 265) 148 = some (.lload 7, 0) := by decide +kernel
theorem at_265_150 : am_at (am_m 265) 150 = some (.iload 6, 0) := by decide +kernel
theorem at_265_152 : am_at (am_m 265) 152 = some (.i2l, 0) := by decide +kernel
theorem at_265_153 : am_at (am_m 265) 153 = some (.lcmp, 0) := by decide +kernel
theorem at_265_154 : am_at (am_m 265) 154 = some (.ifCond .lt 9, 163) := by decide +kernel
theorem at_265_157 : am_at (am_m 265) 157 = some (.ldc2_w 158, 41) := by decide +kernel
theorem at_265_160 : am_at (am_m 265) 160 = some (.goto 19, 179) := by decide +kernel
theorem at_265_163 : am_at (am_m 265) 163 = some (.aload_n 0, 0) := by decide +kernel
theorem at_265_164 : am_at (am_m 265) 164 = some (.getfield 42, 1031) := by decide +kernel
theorem at_265_167 : am_at (am_m 265) 167 = some (.iload 5, 0) := by decide +kernel
theorem at_265_169 : am_at (am_m 265) 169 = some (.bipush 7, 0) := by decide +kernel
theorem at_265_171 : am_at (am_m 265) 171 = some (.lload 7, 0) := by decide +kernel
theorem at_265_173 : am_at (am_m 265) 173 = some (.l2i, 0) := by decide +kernel
theorem at_265_174 : am_at (am_m 265) 174 = some (.iadd, 0) := by decide +kernel
theorem at_265_175 : am_at (am_m 265) 175 = some (.invokevirtual 155, 112) := by decide +kernel
theorem at_265_178 : am_at (am_m 265) 178 = some (.i2l, 0) := by decide +kernel
theorem at_265_179 : am_at (am_m 265) 179 = some (.lreturn, 0) := by decide +kernel
theorem at_265_180 : am_at (am_m 265) 180 = some (.iload_n 1, 0) := by decide +kernel
theorem at_265_181 : am_at (am_m 265) 181 = some (.bipush 7, 0) := by decide +kernel
theorem at_265_183 : am_at (am_m 265) 183 = some (.if_icmp .ne 11, 194) := by decide +kernel
theorem at_265_186 : am_at (am_m 265) 186 = some (.lload 7, 0) := by decide +kernel
theorem at_265_188 : am_at (am_m 265) 188 = some (.l2i, 0) := by decide +kernel
theorem at_265_189 : am_at (am_m 265) 189 = some (.ineg, 0) := by decide +kernel
theorem at_265_190 : am_at (am_m 265) 190 = some (.i2l, 0) := by decide +kernel
theorem at_265_191 : am_at (am_m 265) 191 = some (.goto 21, 212) := by decide +kernel
theorem at_265_194 : am_at (am_m 265) 194 = some (.aload_n 0, 0) := by decide +kernel
theorem at_265_195 : am_at (am_m 265) 195 = some (.getfield 42, 1031) := by decide +kernel
theorem at_265_198 : am_at (am_m 265) 198 = some (.getfield 160, 514) := by decide +kernel
theorem at_265_201 : am_at (am_m 265) 201 = some (.iload_n 1, 0) := by decide +kernel
theorem at_265_202 : am_at (am_m 265) 202 = some (.lload 7, 0) := by decide +kernel
theorem at_265_204 : am_at (am_m 265) 204 = some (.l2i, 0) := by decide +kernel
theorem at_265_205 : am_at (am_m 265) 205 = some (.lload 9, 0) := by decide +kernel
theorem at_265_207 : am_at (am_m 265) 207 = some (.l2i, 0) := by decide +kernel
theorem at_265_208 : am_at (am_m 265) 208 = some (.invokevirtual 164, 122) := by decide +kernel
theorem at_265_211 : am_at (am_m 265) 211 = some (.i2l, 0) := by decide +kernel
theorem at_265_212 : am_at (am_m 265) 212 = some (.lreturn, 0) := by decide +kernel
theorem at_266_0 : am_at (am_m 266) 0 = some (.getstatic 149, 30) := by decide +kernel
theorem at_266_3 : am_at (am_m 266) 3 = some (.iload_n 1, 0) := by decide +kernel
theorem at_266_4 : am_at (am_m 266) 4 = some (.iaload, 0) := by decide +kernel
theorem at_266_5 : am_at (am_m 266) 5 = some (.istore_n 3, 0) := by decide +kernel
theorem at_266_6 : am_at (am_m 266) 6 = some (.iload_n 3, 0) := by decide +kernel
theorem at_266_7 : am_at (am_m 266) 7 = some (.istore 4, 0) := by decide +kernel
theorem at_266_9 : am_at (am_m 266) 9 = some (.bipush 7, 0) := by decide +kernel
theorem at_266_11 : am_at (am_m 266) 11 = some (.istore 5, 0) := by decide +kernel
theorem at_266_13 : am_at (am_m 266) 13 = some (.iload 5, 0) := by decide +kernel
theorem at_266_15 : am_at (am_m 266) 15 = some (.bipush 14, 0) := by decide +kernel
theorem at_266_17 : am_at (am_m 266) 17 = some (.if_icmp .gt 174, 191) := by decide +kernel
theorem at_266_20 : am_at (am_m 266) 20 = some (.iload 5, 0) := by decide +kernel
theorem at_266_22 : am_at (am_m 266) 22 = some (.bipush 9, 0) := by decide +kernel
theorem at_266_24 : am_at (am_m 266) 24 = some (.if_icmp .ge 7, 31) := by decide +kernel
theorem at_266_27 : am_at (am_m 266) 27 = some (.iconst 1, 0) := by decide +kernel
theorem at_266_28 : am_at (am_m 266) 28 = some (.goto 4, 32) := by decide +kernel
theorem at_266_31 : am_at (am_m 266) 31 = some (.iconst 0, 0) := by decide +kernel
theorem at_266_32 : am_at (am_m 266) 32 = some (.istore 6, 0) := by decide +kernel
theorem at_266_34 : am_at (am_m 266) 34 = some (.iload 5, 0) := by decide +kernel
theorem at_266_36 : am_at (am_m 266) 36 = some (.bipush 9, 0) := by decide +kernel
theorem at_266_38 : am_at (am_m 266) 38 = some (.if_icmp .ne 7, 45) := by decide +kernel
theorem at_266_41 : am_at (am_m 266) 41 = some (.iconst 0, 0) := by decide +kernel
theorem at_266_42 : am_at (am_m 266) 42 = some (.goto 15, 57) := by decide +kernel
theorem at_266_45 : am_at (am_m 266) 45 = some (.iload 6, 0) := by decide +kernel
theorem at_266_47 : am_at (am_m 266) 47 = some (.ifCond .eq 7, 54) := by decide +kernel
theorem at_266_50 : am_at (am_m 266) 50 = some (.iload_n 1, 0) := by decide +kernel
theorem at_266_51 : am_at (am_m 266) 51 = some (.goto 6, 57) := by decide +kernel
theorem at_266_54 : am_at (am_m 266) 54 = some (.iload_n 1, 0) := by decide +kernel
theorem at_266_55 : am_at (am_m 266) 55 = some (.iconst 1, 0) := by decide +kernel
theorem at_266_56 : am_at (am_m 266) 56 = some (.isub, 0) := by decide +kernel
theorem at_266_57 : am_at (am_m 266) 57 = some (.istore 7, 0) := by decide +kernel
theorem at_266_59 : am_at (am_m 266) 59 = some (.iload 6, 0) := by decide +kernel
theorem at_266_61 : am_at (am_m 266) 61 = some (.ifCond .eq 9, 70) := by decide +kernel
theorem at_266_64 : am_at (am_m 266) 64 = some (.iload_n 1, 0) := by decide +kernel
theorem at_266_65 : am_at (am_m 266) 65 = some (.iconst 1, 0) := by decide +kernel
theorem at_266_66 : am_at (am_m 266) 66 = some (.isub, 0) := by decide +kernel
theorem at_266_67 : am_at (am_m 266) 67 = some (.goto 4, 71) := by decide +kernel
theorem at_266_70 : am_at (am_m 266) 70 = some (.iconst 1, 0) := by decide +kernel
theorem at_266_71 : am_at (am_m 266) 71 = some (.istore 8, 0) := by decide +kernel
theorem at_266_73 : am_at (am_m 266) 73 = some (.iload 8, 0) := by decide +kernel
theorem at_266_75 : am_at (am_m 266) 75 = some (.iload 7, 0) := by decide +kernel
theorem at_266_77 : am_at (am_m 266) 77 = some (.if_icmp .ge 108, 185) := by decide +kernel
theorem at_266_80 : am_at (am_m 266) 80 = some (.iload_n 1, 0) := by decide +kernel
theorem at_266_81 : am_at (am_m 266) 81 = some (.iconst 1, 0) := by decide +kernel
theorem at_266_82 : am_at (am_m 266) 82 = some (.isub, 0) := by decide +kernel
theorem at_266_83 : am_at (am_m 266) 83 = some (.iload 8, 0) := by decide +kernel
theorem at_266_85 : am_at (am_m 266) 85 = some (.isub, 0) := by decide +kernel
theorem at_266_86 : am_at (am_m 266) 86 = some (.istore 9, 0) := by decide +kernel
theorem at_266_88 : am_at (am_m 266) 88 = some (.iload 6, 0) := by decide +kernel
theorem at_266_90 : am_at (am_m 266) 90 = some (.ifCond .eq 7, 97) := by decide +kernel
theorem at_266_93 : am_at (am_m 266) 93 = some (.iconst 1, 0) := by decide +kernel
theorem at_266_94 : am_at (am_m 266) 94 = some (.goto 11, 105) := by decide +kernel
theorem at_266_97 : am_at (am_m 266) 97 = some (.getstatic 149, 30) := by decide +kernel
theorem at_266_100 : am_at (am_m 266) 100 = some (.iload 9, 0) := by decide +kernel
theorem at_266_102 : am_at (am_m 266) 102 = some (.iconst 1, 0) := by decide +kernel
theorem at_266_103 : am_at (am_m 266) 103 = some (.iadd, 0) := by decide +kernel
theorem at_266_104 : am_at (am_m 266) 104 = some (.iaload, 0) := by decide +kernel
theorem at_266_105 : am_at (am_m 266) 105 = some (.istore 10, 0) := by decide +kernel
theorem at_266_107 : am_at (am_m 266) 107 = some (.getstatic 149, 30) := by decide +kernel
theorem at_266_110 : am_at (am_m 266) 110 = some (.iload 8, 0) := by decide +kernel
theorem at_266_112 : am_at (am_m 266) 112 = some (.iaload, 0) := by decide +kernel
theorem at_266_113 : am_at (am_m 266) 113 = some (.istore 11, 0) := by decide +kernel
theorem at_266_115 : am_at (am_m 266) 115 = some (.iload 11, 0) := by decide +kernel
theorem at_266_117 : am_at (am_m 266) 117 = some (.getstatic 149, 30) := by decide +kernel
theorem at_266_120 : am_at (am_m 266) 120 = some (.iload 8, 0) := by decide +kernel
theorem at_266_122 : am_at (am_m 266) 122 = some (.iconst 1, 0) := by decide +kernel
theorem at_266_123 : am_at (am_m 266) 123 = some (.iadd, 0) := by decide +kernel
theorem at_266_124 : am_at (am_m 266) 124 = some (.iaload, 0) := by decide +kernel
theorem at_266_125 : am_at (am_m 266) 125 = some (.if_icmp .ge 54, 179) := by decide +kernel
theorem at_266_128 : am_at (am_m 266) 128 = some (.getstatic 149, 30) := by decide +kernel
theorem at_266_131 : am_at (am_m 266) 131 = some (.iload 9, 0) := by decide +kernel
theorem at_266_133 : am_at (am_m 266) 133 = some (.iaload, 0) := by decide +kernel
theorem at_266_134 : am_at (am_m 266) 134 = some (.istore 12, 0) := by decide +kernel
theorem at_266_136 : am_at (am_m 266) 136 = some (.iload 12, 0) := by decide +kernel
theorem at_266_138 : am_at (am_m 266) 138 = some (.iload 10, 0) := by decide +kernel
theorem at_266_140 : am_at (am_m 266) 140 = some (.if_icmp .ge 33, 173) := by decide +kernel
theorem at_266_143 : am_at (am_m 266) 143 = some (.aload_n 0, 0) := by decide +kernel
theorem at_266_144 : am_at (am_m 266) 144 = some (.iload 5, 0) := by decide +kernel
theorem at_266_146 : am_at (am_m 266) 146 = some (.iload 11, 0) := by decide +kernel
theorem at_266_148 : am_at (am_m 266) 148 = some (.iload 12, 0) := by decide +kernel
theorem at_266_150 : am_at (am_m 266) 150 = some (.iload 4, 0) := by decide +kernel
theorem at_266_152 : am_at (am_m 266) 152 = some (.iload_n 2, 0) := by decide +kernel
theorem at_266_153 : am_at (am_m 266) 153 = some (.invokevirtual 145, 264) := by decide +kernel
theorem at_266_156 : am_at (am_m 266) 156 = some (.ifCond .eq 8, 164) := by decide +kernel
theorem at_266_159 : am_at (am_m 266) 159 = some (.iload 4, 0) := by decide +kernel
theorem at_266_161 : am_at (am_m 266) 161 = some (.iload_n 3, 0) := by decide +kernel
theorem at_266_162 : am_at (am_m 266) 162 = some (.isub, 0) := by decide +kernel
theorem at_266_163 : am_at (am_m 266) 163 = some (.ireturn, 0) := by decide +kernel
theorem at_266_164 : am_at (am_m 266) 164 = some (.iinc 4 1, 0) := by decide +kernel
theorem at_266_167 : am_at (am_m 266) 167 = some (.iinc 12 1, 0) := by decide +kernel
theorem at_266_170 : am_at (am_m 266) 170 = some (.goto (-34), 136) := by decide +kernel
theorem at_266_173 : am_at (am_m 266) 173 = some (.iinc 11 1, 0) := by decide +kernel
theorem at_266_176 : am_at (am_m 266) 176 = some (.goto (-61), 115) := by decide +kernel
theorem at_266_179 : am_at (am_m 266) 179 = some (.iinc 8 1, 0) := by decide +kernel
theorem at_266_182 : am_at (am_m 266) 182 = some (.goto (-109), 73) := by decide +kernel
theorem at_266_185 : am_at (am_m 266) 185 = some (.iinc 5 1, 0) := by decide +kernel
theorem at_266_188 : am_at (am_m 266) 188 = some (.goto (-175), 13) := by decide +kernel
theorem at_266_191 : am_at (am_m 266) 191 = some (.iconst (-1), 0) := by decide +kernel
theorem at_266_192 : am_at (am_m 266) 192 = some (.ireturn, 0) := by decide +kernel
theorem at_267_0 : am_at (am_m 267) 0 = some (.aload_n 2, 0) := by decide +kernel
theorem at_267_1 : am_at (am_m 267) 1 = some (.iconst 0, 0) := by decide +kernel
theorem at_267_2 : am_at (am_m 267) 2 = some (.aload_n 0, 0) := by decide +kernel
theorem at_267_3 : am_at (am_m 267) 3 = some (.iload_n 1, 0) := by decide +kernel
theorem at_267_4 : am_at (am_m 267) 4 = some (.invokevirtual 152, 268) := by decide +kernel
theorem at_267_7 : am_at (am_m 267) 7 = some (.i2l, 0) := by decide +kernel
theorem at_267_8 : am_at (am_m 267) 8 = some (.lastore, 0) := by decide +kernel
theorem at_267_9 : am_at (am_m 267) 9 = some (.goto 12, 21) := by decide +kernel
theorem at_267_13 : am_at (am_m 267) 13 = some (.iconst 1, 0) := by decide +kernel
theorem at_267_14 : am_at (am_m 267) 14 = some (.ireturn, 0) := by decide +kernel
theorem at_267_16 : am_at (am_m 267) 16 = some (.iconst 2, 0) := by decide +kernel
theorem at_267_17 : am_at (am_m 267) 17 = some (.ireturn, 0) := by decide +kernel
theorem at_267_19 : am_at (am_m 267) 19 = some (.iconst 3, 0) := by decide +kernel
theorem at_267_20 : am_at (am_m 267) 20 = some (.ireturn, 0) := by decide +kernel
theorem at_267_21 : am_at (am_m 267) 21 = some (.iconst 0, 0) := by decide +kernel
theorem at_267_22 : am_at (am_m 267) 22 = some (.ireturn, 0) := by decide +kernel
theorem at_268_0 : am_at (am_m 268) 0 = some (.aload_n 0, 0) := by decide +kernel
theorem at_268_1 : am_at (am_m 268) 1 = some (.iload_n 1, 0) := by decide +kernel
theorem at_268_2 : am_at (am_m 268) 2 = some (.invokevirtual 132, 63) := by decide +kernel
theorem at_268_5 : am_at (am_m 268) 5 = some (.astore_n 2, 0) := by decide +kernel
theorem at_268_6 : am_at (am_m 268) 6 = some (.aload_n 2, 0) := by decide +kernel
theorem at_268_7 : am_at (am_m 268) 7 = some (.getfield 144, 769) := by decide +kernel
theorem at_268_10 : am_at (am_m 268) 10 = some (.ifCond .eq 14, 24) := by decide +kernel
theorem at_268_13 : am_at (am_m 268) 13 = some (.new 114, 100) := by decide +kernel
theorem at_268_24 : am_at (am_m 268) 24 = some (.aload_n 0, 0) := by decide +kernel
theorem at_268_25 : am_at (am_m 268) 25 = some (.iconst 1, 0) := by decide +kernel
theorem at_268_26 : am_at (am_m 268) 26 = some (.invokevirtual 121, 32) := by decide +kernel
theorem at_268_29 : am_at (am_m 268) 29 = some (.aload_n 0, 0) := by decide +kernel
theorem at_268_30 : am_at (am_m 268) 30 = some (.getfield 90, 2831) := by decide +kernel
theorem at_268_33 : am_at (am_m 268) 33 = some (.aload_n 2, 0) := by decide +kernel
theorem at_268_34 : am_at (am_m 268) 34 = some (.invokevirtual 415, 60) := by decide +kernel
theorem at_268_37 : am_at (am_m 268) 37 = some (.aload_n 0, 0) := by decide +kernel
theorem at_268_38 : am_at (am_m 268) 38 = some (.getfield 61, 2824) := by decide +kernel
theorem at_268_41 : am_at (am_m 268) 41 = some (.aload_n 0, 0) := by decide +kernel
theorem at_268_42 : am_at (am_m 268) 42 = some (.getfield 90, 2831) := by decide +kernel
theorem at_268_45 : am_at (am_m 268) 45 = some (.iconst 1, 0) := by decide +kernel
theorem at_268_46 : am_at (am_m 268) 46 = some (.invokevirtual 427, 269) := by decide +kernel
theorem at_268_49 : am_at (am_m 268) 49 = some (.aload_n 0, 0) := by decide +kernel
theorem at_268_50 : am_at (am_m 268) 50 = some (.aload_n 0, 0) := by decide +kernel
theorem at_268_51 : am_at (am_m 268) 51 = some (.getfield 90, 2831) := by decide +kernel
theorem at_268_54 : am_at (am_m 268) 54 = some (.iconst 5, 0) := by decide +kernel
theorem at_268_55 : am_at (am_m 268) 55 = some (.iload_n 1, 0) := by decide +kernel
theorem at_268_56 : am_at (am_m 268) 56 = some (.iconst (-1), 0) := by decide +kernel
theorem at_268_57 : am_at (am_m 268) 57 = some (.iconst (-1), 0) := by decide +kernel
theorem at_268_58 : am_at (am_m 268) 58 = some (.iconst (-1), 0) := by decide +kernel
theorem at_268_59 : am_at (am_m 268) 59 = some (.lconst 0, 0) := by decide +kernel
theorem at_268_60 : am_at (am_m 268) 60 = some (.invokevirtual 128, 59) := by decide +kernel
theorem at_268_63 : am_at (am_m 268) 63 = some (.ireturn, 0) := by decide +kernel
theorem at_269_0 : am_at (am_m 269) 0 = some (.iload_n 2, 0) := by decide +kernel
theorem at_269_1 : am_at (am_m 269) 1 = some (.ifCond .eq 8, 9) := by decide +kernel
theorem at_269_4 : am_at (am_m 269) 4 = some (.aload_n 0, 0) := by decide +kernel
theorem at_269_5 : am_at (am_m 269) 5 = some (.iconst 0, 0) := by decide +kernel
theorem at_269_6 : am_at (am_m 269) 6 = some (.putfield 18, 1282) := by decide +kernel
theorem at_269_9 : am_at (am_m 269) 9 = some (.iconst 1, 0) := by decide +kernel
theorem at_269_10 : am_at (am_m 269) 10 = some (.istore_n 3, 0) := by decide +kernel
theorem at_269_11 : am_at (am_m 269) 11 = some (.iconst 0, 0) := by decide +kernel
theorem at_269_12 : am_at (am_m 269) 12 = some (.istore 4, 0) := by decide +kernel
theorem at_269_14 : am_at (am_m 269) 14 = some (.iload_n 3, 0) := by decide +kernel
theorem at_269_15 : am_at (am_m 269) 15 = some (.ifCond .eq 23, 38) := by decide +kernel
theorem at_269_18 : am_at (am_m 269) 18 = some (.iload 4, 0) := by decide +kernel
theorem at_269_20 : am_at (am_m 269) 20 = some (.bipush 60, 0) := by decide +kernel
theorem at_269_22 : am_at (am_m 269) 22 = some (.if_icmp .ge 16, 38) := by decide +kernel
theorem at_269_25 : am_at (am_m 269) 25 = some (.aload_n 0, 0) := by decide +kernel
theorem at_269_26 : am_at (am_m 269) 26 = some (.aload_n 1, 0) := by decide +kernel
theorem at_269_27 : am_at (am_m 269) 27 = some (.iload_n 2, 0) := by decide +kernel
theorem at_269_28 : am_at (am_m 269) 28 = some (.invokevirtual 44, 270) := by decide +kernel
theorem at_269_31 : am_at (am_m 269) 31 = some (.istore_n 3, 0) := by decide +kernel
theorem at_269_32 : am_at (am_m 269) 32 = some (.iinc 4 1, 0) := by decide +kernel
theorem at_269_35 : am_at (am_m 269) 35 = some (.goto (-21), 14) := by decide +kernel
theorem at_269_38 : am_at (am_m 269) 38 = some (.return_, 0) := by decide +kernel
theorem at_270_0 : am_at (am_m 270) 0 = some (.aload_n 0, 0) := by decide +kernel
theorem at_270_1 : am_at (am_m 270) 1 = some (.aload_n 1, 0) := by decide +kernel
theorem at_270_2 : am_at (am_m 270) 2 = some (.putfield 38, 1285) := by decide +kernel
theorem at_270_5 : am_at (am_m 270) 5 = some (.aload_n 0, 0) := by decide +kernel
theorem at_270_6 : am_at (am_m 270) 6 = some (.getfield 25, 1283) := by decide +kernel
theorem at_270_9 : am_at (am_m 270) 9 = some (.aload_n 1, 0) := by decide +kernel
theorem at_270_10 : am_at (am_m 270) 10 = some (.invokevirtual 48, 77) := by decide +kernel
theorem at_270_13 : am_at (am_m 270) 13 = some (.aload_n 1, 0) := by decide +kernel
theorem at_270_14 : am_at (am_m 270) 14 = some (.getfield 52, 771) := by decide +kernel
theorem at_270_17 : am_at (am_m 270) 17 = some (.iconst 1, 0) := by decide +kernel
theorem at_270_18 : am_at (am_m 270) 18 = some (.isub, 0) := by decide +kernel
theorem at_270_19 : am_at (am_m 270) 19 = some (.istore_n 3, 0) := by decide +kernel
theorem at_270_20 : am_at (am_m 270) 20 = some (.iload_n 3, 0) := by decide +kernel
theorem at_270_21 : am_at (am_m 270) 21 = some (.ifCond .lt 96, 117) := by decide +kernel
theorem at_270_24 : am_at (am_m 270) 24 = some (.iconst 0, 0) := by decide +kernel
theorem at_270_25 : am_at (am_m 270) 25 = some (.istore 4, 0) := by decide +kernel
theorem at_270_27 : am_at (am_m 270) 27 = some (.iload 4, 0) := by decide +kernel
theorem at_270_29 : am_at (am_m 270) 29 = some (.bipush 9, 0) := by decide +kernel
theorem at_270_31 : am_at (am_m 270) 31 = some (.if_icmp .ge 80, 111) := by decide +kernel
theorem at_270_34 : am_at (am_m 270) 34 = some (.aload_n 0, 0) := by decide +kernel
theorem at_270_35 : am_at (am_m 270) 35 = some (.iload_n 3, 0) := by decide +kernel
theorem at_270_36 : am_at (am_m 270) 36 = some (.iload 4, 0) := by decide +kernel
theorem at_270_38 : am_at (am_m 270) 38 = some (.invokevirtual 55, 271) := by decide +kernel
theorem at_270_41 : am_at (am_m 270) 41 = some (.istore 5, 0) := by decide +kernel
theorem at_270_43 : am_at (am_m 270) 43 = some (.iload 5, 0) := by decide +kernel
theorem at_270_45 : am_at (am_m 270) 45 = some (.iconst (-1), 0) := by decide +kernel
theorem at_270_46 : am_at (am_m 270) 46 = some (.if_icmp .eq 59, 105) := by decide +kernel
theorem at_270_49 : am_at (am_m 270) 49 = some (.aload_n 0, 0) := by decide +kernel
theorem at_270_50 : am_at (am_m 270) 50 = some (.iload_n 3, 0) := by decide +kernel
theorem at_270_51 : am_at (am_m 270) 51 = some (.iload 5, 0) := by decide +kernel
theorem at_270_53 : am_at (am_m 270) 53 = some (.invokevirtual 59, 282) := by decide +kernel
theorem at_270_56 : am_at (am_m 270) 56 = some (.iload_n 2, 0) := by decide +kernel
theorem at_270_57 : am_at (am_m 270) 57 = some (.ifCond .eq 46, 103) := by decide +kernel
theorem at_270_60 : am_at (am_m 270) 60 = some (.aload_n 0, 0) := by decide +kernel
theorem at_270_61 : am_at (am_m 270) 61 = some (.getfield 18, 1282) := by decide +kernel
theorem at_270_64 : am_at (am_m 270) 64 = some (.aload_n 0, 0) := by decide +kernel
theorem at_270_65 : am_at (am_m 270) 65 = some (.getfield 9, 1280) := by decide +kernel
theorem at_270_68 : am_at (am_m 270) 68 = some (.arraylength, 0) := by decide +kernel
theorem at_270_69 : am_at (am_m 270) 69 = some (.if_icmp .ge 34, 103) := by decide +kernel
theorem at_270_72 : am_at (am_m 270) 72 = some (.aload_n 0, 0) := by decide +kernel
theorem at_270_73 : am_at (am_m 270) 73 = some (.getfield 9, 1280) := by decide +kernel
theorem at_270_76 : am_at (am_m 270) 76 = some (.aload_n 0, 0) := by decide +kernel
theorem at_270_77 : am_at (am_m 270) 77 = some (.getfield 18, 1282) := by decide +kernel
theorem at_270_80 : am_at (am_m 270) 80 = some (.iload_n 3, 0) := by decide +kernel
theorem at_270_81 : am_at (am_m 270) 81 = some (.iastore, 0) := by decide +kernel
theorem at_270_82 : am_at (am_m 270) 82 = some (.aload_n 0, 0) := by decide +kernel
theorem at_270_83 : am_at (am_m 270) 83 = some (.getfield 15, 1281) := by decide +kernel
theorem at_270_86 : am_at (am_m 270) 86 = some (.aload_n 0, 0) := by decide +kernel
theorem at_270_87 : am_at (am_m 270) 87 = some (.getfield 18, 1282) := by decide +kernel
theorem at_270_90 : am_at (am_m 270) 90 = some (.iload 4, 0) := by decide +kernel
theorem at_270_92 : am_at (am_m 270) 92 = some (.iastore, 0) := by decide +kernel
theorem at_270_93 : am_at (am_m 270) 93 = some (.aload_n 0, 0) := by decide +kernel
theorem at_270_94 : am_at (am_m 270) 94 = some (.dup, 0) := by decide +kernel
theorem at_270_95 : am_at (am_m 270) 95 = some (.getfield 18, 1282) := by decide +kernel
theorem at_270_98 : am_at (am_m 270) 98 = some (.iconst 1, 0) := by decide +kernel
theorem at_270_99 : am_at (am_m 270) 99 = some (.iadd, 0) := by decide +kernel
theorem at_270_100 : am_at (am_m 270) 100 = some (.putfield 18, 1282) := by decide +kernel
theorem at_270_103 : am_at (am_m 270) 103 = some (.iconst 1, 0) := by decide +kernel
theorem at_270_104 : am_at (am_m 270) 104 = some (.ireturn, 0) := by decide +kernel
theorem at_270_105 : am_at (am_m 270) 105 = some (.iinc 4 1, 0) := by decide +kernel
theorem at_270_108 : am_at (am_m 270) 108 = some (.goto (-81), 27) := by decide +kernel
theorem at_270_111 : am_at (am_m 270) 111 = some (.iinc 3 (-1), 0) := by decide +kernel
theorem at_270_114 : am_at (am_m 270) 114 = some (.goto (-94), 20) := by decide +kernel
theorem at_270_117 : am_at (am_m 270) 117 = some (.iconst 0, 0) := by decide +kernel
theorem at_270_118 : am_at (am_m 270) 118 = some (.ireturn, 0) := by decide +kernel
theorem at_271_0 : am_at (am_m 271) 0 = some (.aload_n 0, 0) := by decide +kernel
theorem at_271_1 : am_at (am_m 271) 1 = some (.getfield 38, 1285) := by decide +kernel
theorem at_271_4 : am_at (am_m 271) 4 = some (.iload_n 1, 0) := by decide +kernel
theorem at_271_5 : am_at (am_m 271) 5 = some (.iconst 0, 0) := by decide +kernel
theorem at_271_6 : am_at (am_m 271) 6 = some (.invokevirtual 63, 54) := by decide +kernel
theorem at_271_9 : am_at (am_m 271) 9 = some (.istore_n 3, 0) := by decide +kernel
theorem at_271_10 : am_at (am_m 271) 10 = some (.iload_n 1, 0) := by decide +kernel
theorem at_271_11 : am_at (am_m 271) 11 = some (.iconst 1, 0) := by decide +kernel
theorem at_271_12 : am_at (am_m 271) 12 = some (.iadd, 0) := by decide +kernel
theorem at_271_13 : am_at (am_m 271) 13 = some (.istore 4, 0) := by decide +kernel
theorem at_271_15 : am_at (am_m 271) 15 = some (.aload_n 0, 0) := by decide +kernel
theorem at_271_16 : am_at (am_m 271) 16 = some (.getfield 25, 1283) := by decide +kernel
theorem at_271_19 : am_at (am_m 271) 19 = some (.iload 4, 0) := by decide +kernel
theorem at_271_21 : am_at (am_m 271) 21 = some (.invokevirtual 66, 100) := by decide +kernel
theorem at_271_24 : am_at (am_m 271) 24 = some (.istore 5, 0) := by decide +kernel
theorem at_271_26 : am_at (am_m 271) 26 = some (.iload_n 2, 0) := by decide +kernel
theorem at_271_27 : am_at (am_m 271) 27 = some (.tableswitch 242 0 7 #[45, 55, 65, 100, 110, 150, 160, 188], 0) := by decide +kernel
theorem at_271_72 : am_at (am_m 271) 72 = some (.aload_n 0, 0) := by decide +kernel
theorem at_271_73 : am_at (am_m 271) 73 = some (.iload_n 3, 0) := by decide +kernel
theorem at_271_74 : am_at (am_m 271) 74 = some (.iload 4, 0) := by decide +kernel
theorem at_271_76 : am_at (am_m 271) 76 = some (.iload 5, 0) := by decide +kernel
theorem at_271_78 : am_at (am_m 271) 78 = some (.invokevirtual 70, 272) := by decide +kernel
theorem at_271_81 : am_at (am_m 271) 81 = some (.ireturn, 0) := by decide +kernel
theorem at_271_82 : am_at (am_m 271) 82 = some (.aload_n 0, 0) := by decide +kernel
theorem at_271_83 : am_at (am_m 271) 83 = some (.iload_n 3, 0) := by decide +kernel
theorem at_271_84 : am_at (am_m 271) 84 = some (.iload 4, 0) := by decide +kernel
theorem at_271_86 : am_at (am_m 271) 86 = some (.iload 5, 0) := by decide +kernel
theorem at_271_88 : am_at (am_m 271) 88 = some (.invokevirtual 74, 275) := by decide +kernel
theorem at_271_91 : am_at (am_m 271) 91 = some (.ireturn, 0) := by decide +kernel
theorem at_271_92 : am_at (am_m 271) 92 = some (.iload_n 3, 0) := by decide +kernel
theorem at_271_93 : am_at (am_m 271) 93 = some (.bipush 7, 0) := by decide +kernel
theorem at_271_95 : am_at (am_m 271) 95 = some (.if_icmp .eq 9, 104) := by decide +kernel
theorem at_271_98 : am_at (am_m 271) 98 = some (.iload_n 3, 0) := by decide +kernel
theorem at_271_99 : am_at (am_m 271) 99 = some (.bipush 9, 0) := by decide +kernel
theorem at_271_101 : am_at (am_m 271) 101 = some (.if_icmp .ne 24, 125) := by decide +kernel
theorem at_271_104 : am_at (am_m 271) 104 = some (.aload_n 0, 0) := by decide +kernel
theorem at_271_105 : am_at (am_m 271) 105 = some (.getfield 38, 1285) := by decide +kernel
theorem at_271_108 : am_at (am_m 271) 108 = some (.iload 4, 0) := by decide +kernel
theorem at_271_110 : am_at (am_m 271) 110 = some (.iconst 0, 0) := by decide +kernel
theorem at_271_111 : am_at (am_m 271) 111 = some (.invokevirtual 63, 54) := by decide +kernel
theorem at_271_114 : am_at (am_m 271) 114 = some (.iload_n 3, 0) := by decide +kernel
theorem at_271_115 : am_at (am_m 271) 115 = some (.if_icmp .ne 10, 125) := by decide +kernel
theorem at_271_118 : am_at (am_m 271) 118 = some (.iload 4, 0) := by decide +kernel
theorem at_271_120 : am_at (am_m 271) 120 = some (.iconst 1, 0) := by decide +kernel
theorem at_271_121 : am_at (am_m 271) 121 = some (.iadd, 0) := by decide +kernel
theorem at_271_122 : am_at (am_m 271) 122 = some (.goto 4, 126) := by decide +kernel
theorem at_271_125 : am_at (am_m 271) 125 = some (.iconst (-1), 0) := by decide +kernel
theorem at_271_126 : am_at (am_m 271) 126 = some (.ireturn, 0) := by decide +kernel
theorem at_271_127 : am_at (am_m 271) 127 = some (.aload_n 0, 0) := by decide +kernel
theorem at_271_128 : am_at (am_m 271) 128 = some (.iload_n 3, 0) := by decide +kernel
theorem at_271_129 : am_at (am_m 271) 129 = some (.iload 4, 0) := by decide +kernel
theorem at_271_131 : am_at (am_m 271) 131 = some (.iload 5, 0) := by decide +kernel
theorem at_271_133 : am_at (am_m 271) 133 = some (.invokevirtual 77, 277) := by decide +kernel
theorem at_271_136 : am_at (am_m 271) 136 = some (.ireturn, 0) := by decide +kernel
theorem at_271_137 : am_at (am_m 271) 137 = some (.iload_n 3, 0) := by decide +kernel
theorem at_271_138 : am_at (am_m 271) 138 = some (.bipush 20, 0) := by decide +kernel
theorem at_271_140 : am_at (am_m 271) 140 = some (.if_icmp .ne 35, 175) := by decide +kernel
theorem at_271_143 : am_at (am_m 271) 143 = some (.aload_n 0, 0) := by decide +kernel
theorem at_271_144 : am_at (am_m 271) 144 = some (.iload 4, 0) := by decide +kernel
theorem at_271_146 : am_at (am_m 271) 146 = some (.invokevirtual 80, 278) := by decide +kernel
theorem at_271_149 : am_at (am_m 271) 149 = some (.ifCond .eq 26, 175) := by decide +kernel
theorem at_271_152 : am_at (am_m 271) 152 = some (.aload_n 0, 0) := by decide +kernel
theorem at_271_153 : am_at (am_m 271) 153 = some (.iload 5, 0) := by decide +kernel
theorem at_271_155 : am_at (am_m 271) 155 = some (.aload_n 0, 0) := by decide +kernel
theorem at_271_156 : am_at (am_m 271) 156 = some (.getfield 25, 1283) := by decide +kernel
theorem at_271_159 : am_at (am_m 271) 159 = some (.iload 5, 0) := by decide +kernel
theorem at_271_161 : am_at (am_m 271) 161 = some (.invokevirtual 66, 100) := by decide +kernel
theorem at_271_164 : am_at (am_m 271) 164 = some (.invokevirtual 84, 280) := by decide +kernel
theorem at_271_167 : am_at (am_m 271) 167 = some (.ifCond .eq 8, 175) := by decide +kernel
theorem at_271_170 : am_at (am_m 271) 170 = some (.iload 5, 0) := by decide +kernel
theorem at_271_172 : am_at (am_m 271) 172 = some (.goto 4, 176) := by decide +kernel
theorem at_271_175 : am_at (am_m 271) 175 = some (.iconst (-1), 0) := by decide +kernel
theorem at_271_176 : am_at (am_m 271) 176 = some (.ireturn, 0) := by decide +kernel
theorem at_271_177 : am_at (am_m 271) 177 = some (.aload_n 0, 0) := by decide +kernel
theorem at_271_178 : am_at (am_m 271) 178 = some (.iload_n 3, 0) := by decide +kernel
theorem at_271_179 : am_at (am_m 271) 179 = some (.iload 4, 0) := by decide +kernel
theorem at_271_181 : am_at (am_m 271) 181 = some (.iload 5, 0) := by decide +kernel
theorem at_271_183 : am_at (am_m 271) 183 = some (.invokevirtual 88, 281) := by decide +kernel
theorem at_271_186 : am_at (am_m 271) 186 = some (.ireturn, 0) := by decide +kernel
theorem at_271_187 : am_at (am_m 271) 187 = some (.iload_n 3, 0) := by decide +kernel
theorem at_271_188 : am_at (am_m 271) 188 = some (.bipush 20, 0) := by decide +kernel
theorem at_271_190 : am_at (am_m 271) 190 = some (.if_icmp .ne 23, 213) := by decide +kernel
theorem at_271_193 : am_at (am_m 271) 193 = some (.aload_n 0, 0) := by decide +kernel
theorem at_271_194 : am_at (am_m 271) 194 = some (.getfield 38, 1285) := by decide +kernel
theorem at_271_197 : am_at (am_m 271) 197 = some (.iload 4, 0) := by decide +kernel
theorem at_271_199 : am_at (am_m 271) 199 = some (.iconst 0, 0) := by decide +kernel
theorem at_271_200 : am_at (am_m 271) 200 = some (.invokevirtual 63, 54) := by decide +kernel
theorem at_271_203 : am_at (am_m 271) 203 = some (.bipush 9, 0) := by decide +kernel
theorem at_271_205 : am_at (am_m 271) 205 = some (.if_icmp .ne 8, 213) := by decide +kernel
theorem at_271_208 : am_at (am_m 271) 208 = some (.bipush (-3), 0) := by decide +kernel
theorem at_271_210 : am_at (am_m 271) 210 = some (.goto 4, 214) := by decide +kernel
theorem at_271_213 : am_at (am_m 271) 213 = some (.iconst (-1), 0) := by decide +kernel
theorem at_271_214 : am_at (am_m 271) 214 = some (.ireturn, 0) := by decide +kernel
theorem at_271_215 : am_at (am_m 271) 215 = some (.iload_n 3, 0) := by decide +kernel
theorem at_271_216 : am_at (am_m 271) 216 = some (.bipush 12, 0) := by decide +kernel
theorem at_271_218 : am_at (am_m 271) 218 = some (.if_icmp .ne 49, 267) := by decide +kernel
theorem at_271_221 : am_at (am_m 271) 221 = some (.aload_n 0, 0) := by decide +kernel
theorem at_271_222 : am_at (am_m 271) 222 = some (.iload 4, 0) := by decide +kernel
theorem at_271_224 : am_at (am_m 271) 224 = some (.iconst 0, 0) := by decide +kernel
theorem at_271_225 : am_at (am_m 271) 225 = some (.invokevirtual 91, 276) := by decide +kernel
theorem at_271_228 : am_at (am_m 271) 228 = some (.ifCond .eq 12, 240) := by decide +kernel
theorem at_271_231 : am_at (am_m 271) 231 = some (.aload_n 0, 0) := by decide +kernel
theorem at_271_232 : am_at (am_m 271) 232 = some (.iload 5, 0) := by decide +kernel
theorem at_271_234 : am_at (am_m 271) 234 = some (.invokevirtual 80, 278) := by decide +kernel
theorem at_271_237 : am_at (am_m 271) 237 = some (.ifCond .ne 22, 259) := by decide +kernel
theorem at_271_240 : am_at (am_m 271) 240 = some (.aload_n 0, 0) := by decide +kernel
theorem at_271_241 : am_at (am_m 271) 241 = some (.iload 5, 0) := by decide +kernel
theorem at_271_243 : am_at (am_m 271) 243 = some (.iconst 0, 0) := by decide +kernel
theorem at_271_244 : am_at (am_m 271) 244 = some (.invokevirtual 91, 276) := by decide +kernel
theorem at_271_247 : am_at (am_m 271) 247 = some (.ifCond .eq 20, 267) := by decide +kernel
theorem at_271_250 : am_at (am_m 271) 250 = some (.aload_n 0, 0) := by decide +kernel
theorem at_271_251 : am_at (am_m 271) 251 = some (.iload 4, 0) := by decide +kernel
theorem at_271_253 : am_at (am_m 271) 253 = some (.invokevirtual 80, 278) := by decide +kernel
theorem at_271_256 : am_at (am_m 271) 256 = some (.ifCond .eq 11, 267) := by decide +kernel
theorem at_271_259 : am_at (am_m 271) 259 = some (.aload_n 0, 0) := by decide +kernel
theorem at_271_260 : am_at (am_m 271) 260 = some (.iconst 0, 0) := by decide +kernel
theorem at_271_261 : am_at (am_m 271) 261 = some (.invokevirtual 94, 274) := by decide +kernel
theorem at_271_264 : am_at (am_m 271) 264 = some (.goto 4, 268) := by decide +kernel
theorem at_271_267 : am_at (am_m 271) 267 = some (.iconst (-1), 0) := by decide +kernel
theorem at_271_268 : am_at (am_m 271) 268 = some (.ireturn, 0) := by decide +kernel
theorem at_271_269 : am_at (am_m 271) 269 = some (.iload_n 3, 0) := by decide +kernel
theorem at_271_270 : am_at (am_m 271) 270 = some (.bipush 14, 0) := by decide +kernel
theorem at_271_272 : am_at (am_m 271) 272 = some (.if_icmp .ne 30, 302) := by decide +kernel
theorem at_271_275 : am_at (am_m 271) 275 = some (.aload_n 0, 0) := by decide +kernel
theorem at_271_276 : am_at (am_m 271) 276 = some (.iload 5, 0) := by decide +kernel
theorem at_271_278 : am_at (am_m 271) 278 = some (.iconst 1, 0) := by decide +kernel
theorem at_271_279 : am_at (am_m 271) 279 = some (.invokevirtual 91, 276) := by decide +kernel
theorem at_271_282 : am_at (am_m 271) 282 = some (.ifCond .eq 20, 302) := by decide +kernel
theorem at_271_285 : am_at (am_m 271) 285 = some (.aload_n 0, 0) := by decide +kernel
theorem at_271_286 : am_at (am_m 271) 286 = some (.iload 4, 0) := by decide +kernel
theorem at_271_288 : am_at (am_m 271) 288 = some (.invokevirtual 80, 278) := by decide +kernel
theorem at_271_291 : am_at (am_m 271) 291 = some (.ifCond .eq 11, 302) := by decide +kernel
theorem at_271_294 : am_at (am_m 271) 294 = some (.aload_n 0, 0) := by decide +kernel
theorem at_271_295 : am_at (am_m 271) 295 = some (.iconst 0, 0) := by decide +kernel
theorem at_271_296 : am_at (am_m 271) 296 = some (.invokevirtual 94, 274) := by decide +kernel
theorem at_271_299 : am_at (am_m 271) 299 = some (.goto 4, 303) := by decide +kernel
theorem at_271_302 : am_at (am_m 271) 302 = some (.iconst (-1), 0) := by decide +kernel
theorem at_271_303 : am_at (am_m 271) 303 = some (.ireturn, 0) := by decide +kernel
theorem at_272_0 : am_at (am_m 272) 0 = some (.iload_n 1, 0) := by decide +kernel
theorem at_272_1 : am_at (am_m 272) 1 = some (.bipush 7, 0) := by decide +kernel
theorem at_272_3 : am_at (am_m 272) 3 = some (.if_icmp .lt 11, 14) := by decide +kernel
theorem at_272_6 : am_at (am_m 272) 6 = some (.aload_n 0, 0) := by decide +kernel
theorem at_272_7 : am_at (am_m 272) 7 = some (.iload_n 2, 0) := by decide +kernel
theorem at_272_8 : am_at (am_m 272) 8 = some (.invokevirtual 99, 273) := by decide +kernel
theorem at_272_11 : am_at (am_m 272) 11 = some (.ifCond .ne 5, 16) := by decide +kernel
theorem at_272_14 : am_at (am_m 272) 14 = some (.iconst (-1), 0) := by decide +kernel
theorem at_272_15 : am_at (am_m 272) 15 = some (.ireturn, 0) := by decide +kernel
theorem at_272_16 : am_at (am_m 272) 16 = some (.aload_n 0, 0) := by decide +kernel
theorem at_272_17 : am_at (am_m 272) 17 = some (.getfield 38, 1285) := by decide +kernel
theorem at_272_20 : am_at (am_m 272) 20 = some (.iload_n 2, 0) := by decide +kernel
theorem at_272_21 : am_at (am_m 272) 21 = some (.iconst 1, 0) := by decide +kernel
theorem at_272_22 : am_at (am_m 272) 22 = some (.invokevirtual 63, 54) := by decide +kernel
theorem at_272_25 : am_at (am_m 272) 25 = some (.istore 4, 0) := by decide +kernel
theorem at_272_27 : am_at (am_m 272) 27 = some (.iload_n 1, 0) := by decide +kernel
theorem at_272_28 : am_at (am_m 272) 28 = some (.bipush 7, 0) := by decide +kernel
theorem at_272_30 : am_at (am_m 272) 30 = some (.if_icmp .ne 11, 41) := by decide +kernel
theorem at_272_33 : am_at (am_m 272) 33 = some (.aload_n 0, 0) := by decide +kernel
theorem at_272_34 : am_at (am_m 272) 34 = some (.iload 4, 0) := by decide +kernel
theorem at_272_36 : am_at (am_m 272) 36 = some (.ineg, 0) := by decide +kernel
theorem at_272_37 : am_at (am_m 272) 37 = some (.invokevirtual 94, 274) := by decide +kernel
theorem at_272_40 : am_at (am_m 272) 40 = some (.ireturn, 0) := by decide +kernel
theorem at_272_41 : am_at (am_m 272) 41 = some (.iload_n 1, 0) := by decide +kernel
theorem at_272_42 : am_at (am_m 272) 42 = some (.bipush 10, 0) := by decide +kernel
theorem at_272_44 : am_at (am_m 272) 44 = some (.if_icmp .lt 17, 61) := by decide +kernel
theorem at_272_47 : am_at (am_m 272) 47 = some (.iload_n 1, 0) := by decide +kernel
theorem at_272_48 : am_at (am_m 272) 48 = some (.bipush 14, 0) := by decide +kernel
theorem at_272_50 : am_at (am_m 272) 50 = some (.if_icmp .gt 11, 61) := by decide +kernel
theorem at_272_53 : am_at (am_m 272) 53 = some (.aload_n 0, 0) := by decide +kernel
theorem at_272_54 : am_at (am_m 272) 54 = some (.iload_n 3, 0) := by decide +kernel
theorem at_272_55 : am_at (am_m 272) 55 = some (.invokevirtual 99, 273) := by decide +kernel
theorem at_272_58 : am_at (am_m 272) 58 = some (.ifCond .ne 5, 63) := by decide +kernel
theorem at_272_61 : am_at (am_m 272) 61 = some (.iconst (-1), 0) := by decide +kernel
theorem at_272_62 : am_at (am_m 272) 62 = some (.ireturn, 0) := by decide +kernel
theorem at_272_63 : am_at (am_m 272) 63 = some (.aload_n 0, 0) := by decide +kernel
theorem at_272_64 : am_at (am_m 272) 64 = some (.getfield 38, 1285) := by decide +kernel
theorem at_272_67 : am_at (am_m 272) 67 = some (.iload_n 3, 0) := by decide +kernel
theorem at_272_68 : am_at (am_m 272) 68 = some (.iconst 1, 0) := by decide +kernel
theorem at_272_69 : am_at (am_m 272) 69 = some (.invokevirtual 63, 54) := by decide +kernel
theorem at_272_72 : am_at (am_m 272) 72 = some (.istore 5, 0) := by decide +kernel
theorem at_272_74 : am_at (am_m 272) 74 = some (.iload_n 1, 0) := by decide +kernel
theorem at_272_75 : am_at (am_m 272) 75 = some (.bipush 10, 0) := by decide +kernel
theorem at_272_77 : am_at (am_m 272) 77 = some (.if_icmp .eq 15, 92) := by decide +kernel
theorem at_272_80 : am_at (am_m 272) 80 = some (.iload_n 1, 0) := by decide +kernel
theorem at_272_81 : am_at (am_m 272) 81 = some (.bipush 11, 0) := by decide +kernel
theorem at_272_83 : am_at (am_m 272) 83 = some (.if_icmp .eq 9, 92) := by decide +kernel
theorem at_272_86 : am_at (am_m 272) 86 = some (.iload_n 1, 0) := by decide +kernel
theorem at_272_87 : am_at (am_m 272) 87 = some (.bipush 12, 0) := by decide +kernel
theorem at_272_89 : am_at (am_m 272) 89 = some (.if_icmp .ne 41, 130) := by decide +kernel
theorem at_272_92 : am_at (am_m 272) 92 = some (.aload_n 0, 0) := by decide +kernel
theorem at_272_93 : am_at (am_m 272) 93 = some (.iload_n 1, 0) := by decide +kernel
theorem at_272_94 : am_at (am_m 272) 94 = some (.bipush 10, 0) := by decide +kernel
theorem at_272_96 : am_at (am_m 272) 96 = some (.if_icmp .ne 11, 107) := by decide +kernel
theorem at_272_99 : am_at (am_m 272) 99 = some (.iload 4, 0) := by decide +kernel
theorem at_272_101 : am_at (am_m 272) 101 = some (.iload 5, 0) := by decide +kernel
theorem at_272_103 : am_at (am_m 272) 103 = some (.iadd, 0) := by decide +kernel
theorem at_272_104 : am_at (am_m 272) 104 = some (.goto 22, 126) := by decide +kernel
theorem at_272_107 : am_at (am_m 272) 107 = some (.iload_n 1, 0) := by decide +kernel
theorem at_272_108 : am_at (am_m 272) 108 = some (.bipush 11, 0) := by decide +kernel
theorem at_272_110 : am_at (am_m 272) 110 = some (.if_icmp .ne 11, 121) := by decide +kernel
theorem at_272_113 : am_at (am_m 272) 113 = some (.iload 4, 0) := by decide +kernel
theorem at_272_115 : am_at (am_m 272) 115 = some (.iload 5, 0) := by decide +kernel
theorem at_272_117 : am_at (am_m 272) 117 = some (.isub, 0) := by decide +kernel
theorem at_272_118 : am_at (am_m 272) 118 = some (.goto 8, 126) := by decide +kernel
theorem at_272_121 : am_at (am_m 272) 121 = some (.iload 4, 0) := by decide +kernel
theorem at_272_123 : am_at (am_m 272) 123 = some (.iload 5, 0) := by decide +kernel
theorem at_272_125 : am_at (am_m 272) 125 = some (.imul, 0) := by decide +kernel
theorem at_272_126 : am_at (am_m 272) 126 = some (.invokevirtual 94, 274) := by decide +kernel
theorem at_272_129 : am_at (am_m 272) 129 = some (.ireturn, 0) := by decide +kernel
theorem at_272_130 : am_at (am_m 272) 130 = some (.iload 5, 0) := by decide +kernel
theorem at_272_132 : am_at (am_m 272) 132 = some (.ifCond .ne 7, 139) := by decide +kernel
theorem at_272_135 : am_at (am_m 272) 135 = some (.iconst (-1), 0) := by decide +kernel
theorem at_272_136 : am_at (am_m 272) 136 = some (.goto 26, 162) := by decide +kernel
theorem at_272_139 : am_at (am_m 272) 139 = some (.aload_n 0, 0) := by decide +kernel
theorem at_272_140 : am_at (am_m 272) 140 = some (.iload_n 1, 0) := by decide +kernel
theorem at_272_141 : am_at (am_m 272) 141 = some (.bipush 13, 0) := by decide +kernel
theorem at_272_143 : am_at (am_m 272) 143 = some (.if_icmp .ne 11, 154) := by decide +kernel
theorem at_272_146 : am_at (am_m 272) 146 = some (.iload 4, 0) := by decide +kernel
theorem at_272_148 : am_at (am_m 272) 148 = some (.iload 5, 0) := by decide +kernel
theorem at_272_150 : am_at (am_m 272) 150 = some (.idiv, 0) := by decide +kernel
theorem at_272_151 : am_at (am_m 272) 151 = some (.goto 8, 159) := by decide +kernel
theorem at_272_154 : am_at (am_m 272) 154 = some (.iload 4, 0) := by decide +kernel
theorem at_272_156 : am_at (am_m 272) 156 = some (.iload 5, 0) := by decide +kernel
theorem at_272_158 : am_at (am_m 272) 158 = some (.irem, 0) := by decide +kernel
theorem at_272_159 : am_at (am_m 272) 159 = some (.invokevirtual 94, 274) := by decide +kernel
theorem at_272_162 : am_at (am_m 272) 162 = some (.ireturn, 0) := by decide +kernel
theorem at_273_0 : am_at (am_m 273) 0 = some (.iload_n 1, 0) := by decide +kernel
theorem at_273_1 : am_at (am_m 273) 1 = some (.aload_n 0, 0) := by decide +kernel
theorem at_273_2 : am_at (am_m 273) 2 = some (.getfield 38, 1285) := by decide +kernel
theorem at_273_5 : am_at (am_m 273) 5 = some (.getfield 52, 771) := by decide +kernel
theorem at_273_8 : am_at (am_m 273) 8 = some (.if_icmp .ge 19, 27) := by decide +kernel
theorem at_273_11 : am_at (am_m 273) 11 = some (.aload_n 0, 0) := by decide +kernel
theorem at_273_12 : am_at (am_m 273) 12 = some (.getfield 38, 1285) := by decide +kernel
theorem at_273_15 : am_at (am_m 273) 15 = some (.iload_n 1, 0) := by decide +kernel
theorem at_273_16 : am_at (am_m 273) 16 = some (.iconst 0, 0) := by decide +kernel
theorem at_273_17 : am_at (am_m 273) 17 = some (.invokevirtual 63, 54) := by decide +kernel
theorem at_273_20 : am_at (am_m 273) 20 = some (.ifCond .ne 7, 27) := by decide +kernel
theorem at_273_23 : am_at (am_m 273) 23 = some (.iconst 1, 0) := by decide +kernel
theorem at_273_24 : am_at (am_m 273) 24 = some (.goto 4, 28) := by decide +kernel
theorem at_273_27 : am_at (am_m 273) 27 = some (.iconst 0, 0) := by decide +kernel
theorem at_273_28 : am_at (am_m 273) 28 = some (.ireturn, 0) := by decide +kernel
theorem at_274_0 : am_at (am_m 274) 0 = some (.aload_n 0, 0) := by decide +kernel
theorem at_274_1 : am_at (am_m 274) 1 = some (.iload_n 1, 0) := by decide +kernel
theorem at_274_2 : am_at (am_m 274) 2 = some (.putfield 41, 1286) := by decide +kernel
theorem at_274_5 : am_at (am_m 274) 5 = some (.iload_n 1, 0) := by decide +kernel
theorem at_274_6 : am_at (am_m 274) 6 = some (.bipush (-99), 0) := by decide +kernel
theorem at_274_8 : am_at (am_m 274) 8 = some (.if_icmp .lt 14, 22) := by decide +kernel
theorem at_274_11 : am_at (am_m 274) 11 = some (.iload_n 1, 0) := by decide +kernel
theorem at_274_12 : am_at (am_m 274) 12 = some (.bipush 99, 0) := by decide +kernel
theorem at_274_14 : am_at (am_m 274) 14 = some (.if_icmp .gt 8, 22) := by decide +kernel
theorem at_274_17 : am_at (am_m 274) 17 = some (.bipush (-2), 0) := by decide +kernel
theorem at_274_19 : am_at (am_m 274) 19 = some (.goto 4, 23) := by decide +kernel
theorem at_274_22 : am_at (am_m 274) 22 = some (.iconst (-1), 0) := by decide +kernel
theorem at_274_23 : am_at (am_m 274) 23 = some (.ireturn, 0) := by decide +kernel
theorem at_275_0 : am_at (am_m 275) 0 = some (.iload_n 1, 0) := by decide +kernel
theorem at_275_1 : am_at (am_m 275) 1 = some (.bipush 10, 0) := by decide +kernel
theorem at_275_3 : am_at (am_m 275) 3 = some (.if_icmp .eq 9, 12) := by decide +kernel
theorem at_275_6 : am_at (am_m 275) 6 = some (.iload_n 1, 0) := by decide +kernel
theorem at_275_7 : am_at (am_m 275) 7 = some (.bipush 11, 0) := by decide +kernel
theorem at_275_9 : am_at (am_m 275) 9 = some (.if_icmp .ne 7, 16) := by decide +kernel
theorem at_275_12 : am_at (am_m 275) 12 = some (.iconst 0, 0) := by decide +kernel
theorem at_275_13 : am_at (am_m 275) 13 = some (.goto 4, 17) := by decide +kernel
theorem at_275_16 : am_at (am_m 275) 16 = some (.iconst 1, 0) := by decide +kernel
theorem at_275_17 : am_at (am_m 275) 17 = some (.istore 4, 0) := by decide +kernel
theorem at_275_19 : am_at (am_m 275) 19 = some (.iload_n 1, 0) := by decide +kernel
theorem at_275_20 : am_at (am_m 275) 20 = some (.bipush 10, 0) := by decide +kernel
theorem at_275_22 : am_at (am_m 275) 22 = some (.if_icmp .lt 9, 31) := by decide +kernel
theorem at_275_25 : am_at (am_m 275) 25 = some (.iload_n 1, 0) := by decide +kernel
theorem at_275_26 : am_at (am_m 275) 26 = some (.bipush 13, 0) := by decide +kernel
theorem at_275_28 : am_at (am_m 275) 28 = some (.if_icmp .le 5, 33) := by decide +kernel
theorem at_275_31 : am_at (am_m 275) 31 = some (.iconst (-1), 0) := by decide +kernel
theorem at_275_32 : am_at (am_m 275) 32 = some (.ireturn, 0) := by decide +kernel
theorem at_275_33 : am_at (am_m 275) 33 = some (.aload_n 0, 0) := by decide +kernel
theorem at_275_34 : am_at (am_m 275) 34 = some (.iload_n 3, 0) := by decide +kernel
theorem at_275_35 : am_at (am_m 275) 35 = some (.iload 4, 0) := by decide +kernel
theorem at_275_37 : am_at (am_m 275) 37 = some (.invokevirtual 91, 276) := by decide +kernel
theorem at_275_40 : am_at (am_m 275) 40 = some (.ifCond .eq 5, 45) := by decide +kernel
theorem at_275_43 : am_at (am_m 275) 43 = some (.iload_n 2, 0) := by decide +kernel
theorem at_275_44 : am_at (am_m 275) 44 = some (.ireturn, 0) := by decide +kernel
theorem at_275_45 : am_at (am_m 275) 45 = some (.iload_n 1, 0) := by decide +kernel
theorem at_275_46 : am_at (am_m 275) 46 = some (.bipush 10, 0) := by decide +kernel
theorem at_275_48 : am_at (am_m 275) 48 = some (.if_icmp .eq 9, 57) := by decide +kernel
theorem at_275_51 : am_at (am_m 275) 51 = some (.iload_n 1, 0) := by decide +kernel
theorem at_275_52 : am_at (am_m 275) 52 = some (.bipush 12, 0) := by decide +kernel
theorem at_275_54 : am_at (am_m 275) 54 = some (.if_icmp .ne 17, 71) := by decide +kernel
theorem at_275_57 : am_at (am_m 275) 57 = some (.aload_n 0, 0) := by decide +kernel
theorem at_275_58 : am_at (am_m 275) 58 = some (.iload_n 2, 0) := by decide +kernel
theorem at_275_59 : am_at (am_m 275) 59 = some (.iload 4, 0) := by decide +kernel
theorem at_275_61 : am_at (am_m 275) 61 = some (.invokevirtual 91, 276) := by decide +kernel
theorem at_275_64 : am_at (am_m 275) 64 = some (.ifCond .eq 7, 71) := by decide +kernel
theorem at_275_67 : am_at (am_m 275) 67 = some (.iload_n 3, 0) := by decide +kernel
theorem at_275_68 : am_at (am_m 275) 68 = some (.goto 4, 72) := by decide +kernel
theorem at_275_71 : am_at (am_m 275) 71 = some (.iconst (-1), 0) := by decide +kernel
theorem at_275_72 : am_at (am_m 275) 72 = some (.ireturn, 0) := by decide +kernel
theorem at_276_0 : am_at (am_m 276) 0 = some (.iload_n 1, 0) := by decide +kernel
theorem at_276_1 : am_at (am_m 276) 1 = some (.aload_n 0, 0) := by decide +kernel
theorem at_276_2 : am_at (am_m 276) 2 = some (.getfield 38, 1285) := by decide +kernel
theorem at_276_5 : am_at (am_m 276) 5 = some (.getfield 52, 771) := by decide +kernel
theorem at_276_8 : am_at (am_m 276) 8 = some (.if_icmp .ge 32, 40) := by decide +kernel
theorem at_276_11 : am_at (am_m 276) 11 = some (.aload_n 0, 0) := by decide +kernel
theorem at_276_12 : am_at (am_m 276) 12 = some (.getfield 38, 1285) := by decide +kernel
theorem at_276_15 : am_at (am_m 276) 15 = some (.iload_n 1, 0) := by decide +kernel
theorem at_276_16 : am_at (am_m 276) 16 = some (.iconst 0, 0) := by decide +kernel
theorem at_276_17 : am_at (am_m 276) 17 = some (.invokevirtual 63, 54) := by decide +kernel
theorem at_276_20 : am_at (am_m 276) 20 = some (.ifCond .ne 20, 40) := by decide +kernel
theorem at_276_23 : am_at (am_m 276) 23 = some (.aload_n 0, 0) := by decide +kernel
theorem at_276_24 : am_at (am_m 276) 24 = some (.getfield 38, 1285) := by decide +kernel
theorem at_276_27 : am_at (am_m 276) 27 = some (.iload_n 1, 0) := by decide +kernel
theorem at_276_28 : am_at (am_m 276) 28 = some (.iconst 1, 0) := by decide +kernel
theorem at_276_29 : am_at (am_m 276) 29 = some (.invokevirtual 63, 54) := by decide +kernel
theorem at_276_32 : am_at (am_m 276) 32 = some (.iload_n 2, 0) := by decide +kernel
theorem at_276_33 : am_at (am_m 276) 33 = some (.if_icmp .ne 7, 40) := by decide +kernel
theorem at_276_36 : am_at (am_m 276) 36 = some (.iconst 1, 0) := by decide +kernel
theorem at_276_37 : am_at (am_m 276) 37 = some (.goto 4, 41) := by decide +kernel
theorem at_276_40 : am_at (am_m 276) 40 = some (.iconst 0, 0) := by decide +kernel
theorem at_276_41 : am_at (am_m 276) 41 = some (.ireturn, 0) := by decide +kernel
theorem at_277_0 : am_at (am_m 277) 0 = some (.aload_n 0, 0) := by decide +kernel
theorem at_277_1 : am_at (am_m 277) 1 = some (.getfield 38, 1285) := by decide +kernel
theorem at_277_4 : am_at (am_m 277) 4 = some (.iload_n 2, 0) := by decide +kernel
theorem at_277_5 : am_at (am_m 277) 5 = some (.iconst 0, 0) := by decide +kernel
theorem at_277_6 : am_at (am_m 277) 6 = some (.invokevirtual 63, 54) := by decide +kernel
theorem at_277_9 : am_at (am_m 277) 9 = some (.istore 4, 0) := by decide +kernel
theorem at_277_11 : am_at (am_m 277) 11 = some (.iload_n 1, 0) := by decide +kernel
theorem at_277_12 : am_at (am_m 277) 12 = some (.bipush 20, 0) := by decide +kernel
theorem at_277_14 : am_at (am_m 277) 14 = some (.if_icmp .ne 37, 51) := by decide +kernel
theorem at_277_17 : am_at (am_m 277) 17 = some (.iload 4, 0) := by decide +kernel
theorem at_277_19 : am_at (am_m 277) 19 = some (.bipush 15, 0) := by decide +kernel
theorem at_277_21 : am_at (am_m 277) 21 = some (.if_icmp .eq 10, 31) := by decide +kernel
theorem at_277_24 : am_at (am_m 277) 24 = some (.iload 4, 0) := by decide +kernel
theorem at_277_26 : am_at (am_m 277) 26 = some (.bipush 16, 0) := by decide +kernel
theorem at_277_28 : am_at (am_m 277) 28 = some (.if_icmp .ne 23, 51) := by decide +kernel
theorem at_277_31 : am_at (am_m 277) 31 = some (.aload_n 0, 0) := by decide +kernel
theorem at_277_32 : am_at (am_m 277) 32 = some (.iload_n 2, 0) := by decide +kernel
theorem at_277_33 : am_at (am_m 277) 33 = some (.iconst 1, 0) := by decide +kernel
theorem at_277_34 : am_at (am_m 277) 34 = some (.iadd, 0) := by decide +kernel
theorem at_277_35 : am_at (am_m 277) 35 = some (.invokevirtual 99, 273) := by decide +kernel
theorem at_277_38 : am_at (am_m 277) 38 = some (.ifCond .eq 13, 51) := by decide +kernel
theorem at_277_41 : am_at (am_m 277) 41 = some (.aload_n 0, 0) := by decide +kernel
theorem at_277_42 : am_at (am_m 277) 42 = some (.iload_n 2, 0) := by decide +kernel
theorem at_277_43 : am_at (am_m 277) 43 = some (.iconst 2, 0) := by decide +kernel
theorem at_277_44 : am_at (am_m 277) 44 = some (.iadd, 0) := by decide +kernel
theorem at_277_45 : am_at (am_m 277) 45 = some (.invokevirtual 99, 273) := by decide +kernel
theorem at_277_48 : am_at (am_m 277) 48 = some (.ifCond .ne 5, 53) := by decide +kernel
theorem at_277_51 : am_at (am_m 277) 51 = some (.iconst (-1), 0) := by decide +kernel
theorem at_277_52 : am_at (am_m 277) 52 = some (.ireturn, 0) := by decide +kernel
theorem at_277_53 : am_at (am_m 277) 53 = some (.aload_n 0, 0) := by decide +kernel
theorem at_277_54 : am_at (am_m 277) 54 = some (.getfield 38, 1285) := by decide +kernel
theorem at_277_57 : am_at (am_m 277) 57 = some (.iload_n 2, 0) := by decide +kernel
theorem at_277_58 : am_at (am_m 277) 58 = some (.iconst 1, 0) := by decide +kernel
theorem at_277_59 : am_at (am_m 277) 59 = some (.iadd, 0) := by decide +kernel
theorem at_277_60 : am_at (am_m 277) 60 = some (.iconst 1, 0) := by decide +kernel
theorem at_277_61 : am_at (am_m 277) 61 = some (.invokevirtual 63, 54) := by decide +kernel
theorem at_277_64 : am_at (am_m 277) 64 = some (.istore 5, 0) := by decide +kernel
theorem at_277_66 : am_at (am_m 277) 66 = some (.aload_n 0, 0) := by decide +kernel
theorem at_277_67 : am_at (am_m 277) 67 = some (.getfield 38, 1285) := by decide +kernel
theorem at_277_70 : am_at (am_m 277) 70 = some (.iload_n 2, 0) := by decide +kernel
theorem at_277_71 : am_at (am_m 277) 71 = some (.iconst 2, 0) := by decide +kernel
theorem at_277_72 : am_at (am_m 277) 72 = some (.iadd, 0) := by decide +kernel
theorem at_277_73 : am_at (am_m 277) 73 = some (.iconst 1, 0) := by decide +kernel
theorem at_277_74 : am_at (am_m 277) 74 = some (.invokevirtual 63, 54) := by decide +kernel
theorem at_277_77 : am_at (am_m 277) 77 = some (.istore 6, 0) := by decide +kernel
theorem at_277_79 : am_at (am_m 277) 79 = some (.iload 4, 0) := by decide +kernel
theorem at_277_81 : am_at (am_m 277) 81 = some (.bipush 15, 0) := by decide +kernel
theorem at_277_83 : am_at (am_m 277) 83 = some (.if_icmp .ne 13, 96) := by decide +kernel
theorem at_277_86 : am_at (am_m 277) 86 = some (.iload 5, 0) := by decide +kernel
theorem at_277_88 : am_at (am_m 277) 88 = some (.iload 6, 0) := by decide +kernel
theorem at_277_90 : am_at (am_m 277) 90 = some (.if_icmp .ge 17, 107) := by decide +kernel
theorem at_277_93 : am_at (am_m 277) 93 = some (.goto 10, 103) := by decide +kernel
theorem at_277_96 : am_at (am_m 277) 96 = some (.iload 5, 0) := by decide +kernel
theorem at_277_98 : am_at (am_m 277) 98 = some (.iload 6, 0) := by decide +kernel
theorem at_277_100 : am_at (am_m 277) 100 = some (.if_icmp .ne 7, 107) := by decide +kernel
theorem at_277_103 : am_at (am_m 277) 103 = some (.iload_n 3, 0) := by decide +kernel
theorem at_277_104 : am_at (am_m 277) 104 = some (.goto 11, 115) := by decide +kernel
theorem at_277_107 : am_at (am_m 277) 107 = some (.aload_n 0, 0) := by decide +kernel
theorem at_277_108 : am_at (am_m 277) 108 = some (.getfield 25, 1283) := by decide +kernel
theorem at_277_111 : am_at (am_m 277) 111 = some (.iload_n 3, 0) := by decide +kernel
theorem at_277_112 : am_at (am_m 277) 112 = some (.invokevirtual 66, 100) := by decide +kernel
theorem at_277_115 : am_at (am_m 277) 115 = some (.ireturn, 0) := by decide +kernel
theorem at_278_0 : am_at (am_m 278) 0 = some (.aload_n 0, 0) := by decide +kernel
theorem at_278_1 : am_at (am_m 278) 1 = some (.getfield 38, 1285) := by decide +kernel
theorem at_278_4 : am_at (am_m 278) 4 = some (.iload_n 1, 0) := by decide +kernel
theorem at_278_5 : am_at (am_m 278) 5 = some (.aload_n 0, 0) := by decide +kernel
theorem at_278_6 : am_at (am_m 278) 6 = some (.getfield 25, 1283) := by decide +kernel
theorem at_278_9 : am_at (am_m 278) 9 = some (.iload_n 1, 0) := by decide +kernel
theorem at_278_10 : am_at (am_m 278) 10 = some (.invokevirtual 66, 100) := by decide +kernel
theorem at_278_13 : am_at (am_m 278) 13 = some (.invokevirtual 97, 279) := by decide +kernel
theorem at_278_16 : am_at (am_m 278) 16 = some (.ireturn, 0) := by decide +kernel
theorem at_279_0 : am_at (am_m 279) 0 = some (.iload_n 1, 0) := by decide +kernel
theorem at_279_1 : am_at (am_m 279) 1 = some (.istore_n 3, 0) := by decide +kernel
theorem at_279_2 : am_at (am_m 279) 2 = some (.iload_n 3, 0) := by decide +kernel
theorem at_279_3 : am_at (am_m 279) 3 = some (.iload_n 2, 0) := by decide +kernel
theorem at_279_4 : am_at (am_m 279) 4 = some (.if_icmp .ge 47, 51) := by decide +kernel
theorem at_279_7 : am_at (am_m 279) 7 = some (.aload_n 0, 0) := by decide +kernel
theorem at_279_8 : am_at (am_m 279) 8 = some (.iload_n 3, 0) := by decide +kernel
theorem at_279_9 : am_at (am_m 279) 9 = some (.iconst 0, 0) := by decide +kernel
theorem at_279_10 : am_at (am_m 279) 10 = some (.invokevirtual 57, 54) := by decide +kernel
theorem at_279_13 : am_at (am_m 279) 13 = some (.istore 4, 0) := by decide +kernel
theorem at_279_15 : am_at (am_m 279) 15 = some (.iload 4, 0) := by decide +kernel
theorem at_279_17 : am_at (am_m 279) 17 = some (.bipush 13, 0) := by decide +kernel
theorem at_279_19 : am_at (am_m 279) 19 = some (.if_icmp .eq 24, 43) := by decide +kernel
theorem at_279_22 : am_at (am_m 279) 22 = some (.iload 4, 0) := by decide +kernel
theorem at_279_24 : am_at (am_m 279) 24 = some (.bipush 14, 0) := by decide +kernel
theorem at_279_26 : am_at (am_m 279) 26 = some (.if_icmp .eq 17, 43) := by decide +kernel
theorem at_279_29 : am_at (am_m 279) 29 = some (.iload 4, 0) := by decide +kernel
theorem at_279_31 : am_at (am_m 279) 31 = some (.bipush 8, 0) := by decide +kernel
theorem at_279_33 : am_at (am_m 279) 33 = some (.if_icmp .eq 10, 43) := by decide +kernel
theorem at_279_36 : am_at (am_m 279) 36 = some (.iload 4, 0) := by decide +kernel
theorem at_279_38 : am_at (am_m 279) 38 = some (.bipush 19, 0) := by decide +kernel
theorem at_279_40 : am_at (am_m 279) 40 = some (.if_icmp .ne 5, 45) := by decide +kernel
theorem at_279_43 : am_at (am_m 279) 43 = some (.iconst 0, 0) := by decide +kernel
theorem at_279_44 : am_at (am_m 279) 44 = some (.ireturn, 0) := by decide +kernel
theorem at_279_45 : am_at (am_m 279) 45 = some (.iinc 3 1, 0) := by decide +kernel
theorem at_279_48 : am_at (am_m 279) 48 = some (.goto (-46), 2) := by decide +kernel
theorem at_279_51 : am_at (am_m 279) 51 = some (.iconst 1, 0) := by decide +kernel
theorem at_279_52 : am_at (am_m 279) 52 = some (.ireturn, 0) := by decide +kernel
theorem at_280_0 : am_at (am_m 280) 0 = some (.aload_n 0, 0) := by decide +kernel
theorem at_280_1 : am_at (am_m 280) 1 = some (.getfield 25, 1283) := by decide +kernel
theorem at_280_4 : am_at (am_m 280) 4 = some (.iload_n 1, 0) := by decide +kernel
theorem at_280_5 : am_at (am_m 280) 5 = some (.invokevirtual 66, 100) := by decide +kernel
theorem at_280_8 : am_at (am_m 280) 8 = some (.iload_n 1, 0) := by decide +kernel
theorem at_280_9 : am_at (am_m 280) 9 = some (.isub, 0) := by decide +kernel
theorem at_280_10 : am_at (am_m 280) 10 = some (.istore_n 3, 0) := by decide +kernel
theorem at_280_11 : am_at (am_m 280) 11 = some (.iload_n 3, 0) := by decide +kernel
theorem at_280_12 : am_at (am_m 280) 12 = some (.aload_n 0, 0) := by decide +kernel
theorem at_280_13 : am_at (am_m 280) 13 = some (.getfield 25, 1283) := by decide +kernel
theorem at_280_16 : am_at (am_m 280) 16 = some (.iload_n 2, 0) := by decide +kernel
theorem at_280_17 : am_at (am_m 280) 17 = some (.invokevirtual 66, 100) := by decide +kernel
theorem at_280_20 : am_at (am_m 280) 20 = some (.iload_n 2, 0) := by decide +kernel
theorem at_280_21 : am_at (am_m 280) 21 = some (.isub, 0) := by decide +kernel
theorem at_280_22 : am_at (am_m 280) 22 = some (.if_icmp .eq 5, 27) := by decide +kernel
theorem at_280_25 : am_at (am_m 280) 25 = some (.iconst 0, 0) := by decide +kernel
theorem at_280_26 : am_at (am_m 280) 26 = some (.ireturn, 0) := by decide +kernel
theorem at_280_27 : am_at (am_m 280) 27 = some (.iconst 0, 0) := by decide +kernel
theorem at_280_28 : am_at (am_m 280) 28 = some (.istore 4, 0) := by decide +kernel
theorem at_280_30 : am_at (am_m 280) 30 = some (.iload 4, 0) := by decide +kernel
theorem at_280_32 : am_at (am_m 280) 32 = some (.iload_n 3, 0) := by decide +kernel
theorem at_280_33 : am_at (am_m 280) 33 = some (.if_icmp .ge 65, 98) := by decide +kernel
theorem at_280_36 : am_at (am_m 280) 36 = some (.aload_n 0, 0) := by decide +kernel
theorem at_280_37 : am_at (am_m 280) 37 = some (.getfield 38, 1285) := by decide +kernel
theorem at_280_40 : am_at (am_m 280) 40 = some (.iload_n 1, 0) := by decide +kernel
theorem at_280_41 : am_at (am_m 280) 41 = some (.iload 4, 0) := by decide +kernel
theorem at_280_43 : am_at (am_m 280) 43 = some (.iadd, 0) := by decide +kernel
theorem at_280_44 : am_at (am_m 280) 44 = some (.iconst 0, 0) := by decide +kernel
theorem at_280_45 : am_at (am_m 280) 45 = some (.invokevirtual 63, 54) := by decide +kernel
theorem at_280_48 : am_at (am_m 280) 48 = some (.aload_n 0, 0) := by decide +kernel
theorem at_280_49 : am_at (am_m 280) 49 = some (.getfield 38, 1285) := by decide +kernel
theorem at_280_52 : am_at (am_m 280) 52 = some (.iload_n 2, 0) := by decide +kernel
theorem at_280_53 : am_at (am_m 280) 53 = some (.iload 4, 0) := by decide +kernel
theorem at_280_55 : am_at (am_m 280) 55 = some (.iadd, 0) := by decide +kernel
theorem at_280_56 : am_at (am_m 280) 56 = some (.iconst 0, 0) := by decide +kernel
theorem at_280_57 : am_at (am_m 280) 57 = some (.invokevirtual 63, 54) := by decide +kernel
theorem at_280_60 : am_at (am_m 280) 60 = some (.if_icmp .ne 30, 90) := by decide +kernel
theorem at_280_63 : am_at (am_m 280) 63 = some (.aload_n 0, 0) := by decide +kernel
theorem at_280_64 : am_at (am_m 280) 64 = some (.getfield 38, 1285) := by decide +kernel
theorem at_280_67 : am_at (am_m 280) 67 = some (.iload_n 1, 0) := by decide +kernel
theorem at_280_68 : am_at (am_m 280) 68 = some (.iload 4, 0) := by decide +kernel
theorem at_280_70 : am_at (am_m 280) 70 = some (.iadd, 0) := by decide +kernel
theorem at_280_71 : am_at (am_m 280) 71 = some (.iconst 1, 0) := by decide +kernel
theorem at_280_72 : am_at (am_m 280) 72 = some (.invokevirtual 63, 54) := by decide +kernel
theorem at_280_75 : am_at (am_m 280) 75 = some (.aload_n 0, 0) := by decide +kernel
theorem at_280_76 : am_at (am_m 280) 76 = some (.getfield 38, 1285) := by decide +kernel
theorem at_280_79 : am_at (am_m 280) 79 = some (.iload_n 2, 0) := by decide +kernel
theorem at_280_80 : am_at (am_m 280) 80 = some (.iload 4, 0) := by decide +kernel
theorem at_280_82 : am_at (am_m 280) 82 = some (.iadd, 0) := by decide +kernel
theorem at_280_83 : am_at (am_m 280) 83 = some (.iconst 1, 0) := by decide +kernel
theorem at_280_84 : am_at (am_m 280) 84 = some (.invokevirtual 63, 54) := by decide +kernel
theorem at_280_87 : am_at (am_m 280) 87 = some (.if_icmp .eq 5, 92) := by decide +kernel
theorem at_280_90 : am_at (am_m 280) 90 = some (.iconst 0, 0) := by decide +kernel
theorem at_280_91 : am_at (am_m 280) 91 = some (.ireturn, 0) := by decide +kernel
theorem at_280_92 : am_at (am_m 280) 92 = some (.iinc 4 1, 0) := by decide +kernel
theorem at_280_95 : am_at (am_m 280) 95 = some (.goto (-65), 30) := by decide +kernel
theorem at_280_98 : am_at (am_m 280) 98 = some (.iconst 1, 0) := by decide +kernel
theorem at_280_99 : am_at (am_m 280) 99 = some (.ireturn, 0) := by decide +kernel
theorem at_281_0 : am_at (am_m 281) 0 = some (.iload_n 1, 0) := by decide +kernel
theorem at_281_1 : am_at (am_m 281) 1 = some (.bipush 11, 0) := by decide +kernel
theorem at_281_3 : am_at (am_m 281) 3 = some (.if_icmp .ne 30, 33) := by decide +kernel
theorem at_281_6 : am_at (am_m 281) 6 = some (.aload_n 0, 0) := by decide +kernel
theorem at_281_7 : am_at (am_m 281) 7 = some (.iload_n 2, 0) := by decide +kernel
theorem at_281_8 : am_at (am_m 281) 8 = some (.iload_n 3, 0) := by decide +kernel
theorem at_281_9 : am_at (am_m 281) 9 = some (.invokevirtual 84, 280) := by decide +kernel
theorem at_281_12 : am_at (am_m 281) 12 = some (.ifCond .eq 19, 31) := by decide +kernel
theorem at_281_15 : am_at (am_m 281) 15 = some (.aload_n 0, 0) := by decide +kernel
theorem at_281_16 : am_at (am_m 281) 16 = some (.iload_n 2, 0) := by decide +kernel
theorem at_281_17 : am_at (am_m 281) 17 = some (.invokevirtual 80, 278) := by decide +kernel
theorem at_281_20 : am_at (am_m 281) 20 = some (.ifCond .eq 11, 31) := by decide +kernel
theorem at_281_23 : am_at (am_m 281) 23 = some (.aload_n 0, 0) := by decide +kernel
theorem at_281_24 : am_at (am_m 281) 24 = some (.iconst 0, 0) := by decide +kernel
theorem at_281_25 : am_at (am_m 281) 25 = some (.invokevirtual 94, 274) := by decide +kernel
theorem at_281_28 : am_at (am_m 281) 28 = some (.goto 4, 32) := by decide +kernel
theorem at_281_31 : am_at (am_m 281) 31 = some (.iconst (-1), 0) := by decide +kernel
theorem at_281_32 : am_at (am_m 281) 32 = some (.ireturn, 0) := by decide +kernel
theorem at_281_33 : am_at (am_m 281) 33 = some (.aload_n 0, 0) := by decide +kernel
theorem at_281_34 : am_at (am_m 281) 34 = some (.getfield 38, 1285) := by decide +kernel
theorem at_281_37 : am_at (am_m 281) 37 = some (.iload_n 2, 0) := by decide +kernel
theorem at_281_38 : am_at (am_m 281) 38 = some (.iconst 0, 0) := by decide +kernel
theorem at_281_39 : am_at (am_m 281) 39 = some (.invokevirtual 63, 54) := by decide +kernel
theorem at_281_42 : am_at (am_m 281) 42 = some (.istore 4, 0) := by decide +kernel
theorem at_281_44 : am_at (am_m 281) 44 = some (.iload_n 1, 0) := by decide +kernel
theorem at_281_45 : am_at (am_m 281) 45 = some (.bipush 20, 0) := by decide +kernel
theorem at_281_47 : am_at (am_m 281) 47 = some (.if_icmp .ne 47, 94) := by decide +kernel
theorem at_281_50 : am_at (am_m 281) 50 = some (.iload 4, 0) := by decide +kernel
theorem at_281_52 : am_at (am_m 281) 52 = some (.bipush 15, 0) := by decide +kernel
theorem at_281_54 : am_at (am_m 281) 54 = some (.if_icmp .eq 10, 64) := by decide +kernel
theorem at_281_57 : am_at (am_m 281) 57 = some (.iload 4, 0) := by decide +kernel
theorem at_281_59 : am_at (am_m 281) 59 = some (.bipush 16, 0) := by decide +kernel
theorem at_281_61 : am_at (am_m 281) 61 = some (.if_icmp .ne 33, 94) := by decide +kernel
theorem at_281_64 : am_at (am_m 281) 64 = some (.aload_n 0, 0) := by decide +kernel
theorem at_281_65 : am_at (am_m 281) 65 = some (.iload_n 2, 0) := by decide +kernel
theorem at_281_66 : am_at (am_m 281) 66 = some (.iconst 1, 0) := by decide +kernel
theorem at_281_67 : am_at (am_m 281) 67 = some (.iadd, 0) := by decide +kernel
theorem at_281_68 : am_at (am_m 281) 68 = some (.aload_n 0, 0) := by decide +kernel
theorem at_281_69 : am_at (am_m 281) 69 = some (.getfield 25, 1283) := by decide +kernel
theorem at_281_72 : am_at (am_m 281) 72 = some (.iload_n 2, 0) := by decide +kernel
theorem at_281_73 : am_at (am_m 281) 73 = some (.iconst 1, 0) := by decide +kernel
theorem at_281_74 : am_at (am_m 281) 74 = some (.iadd, 0) := by decide +kernel
theorem at_281_75 : am_at (am_m 281) 75 = some (.invokevirtual 66, 100) := by decide +kernel
theorem at_281_78 : am_at (am_m 281) 78 = some (.invokevirtual 84, 280) := by decide +kernel
theorem at_281_81 : am_at (am_m 281) 81 = some (.ifCond .eq 13, 94) := by decide +kernel
theorem at_281_84 : am_at (am_m 281) 84 = some (.aload_n 0, 0) := by decide +kernel
theorem at_281_85 : am_at (am_m 281) 85 = some (.iload_n 2, 0) := by decide +kernel
theorem at_281_86 : am_at (am_m 281) 86 = some (.iconst 1, 0) := by decide +kernel
theorem at_281_87 : am_at (am_m 281) 87 = some (.iadd, 0) := by decide +kernel
theorem at_281_88 : am_at (am_m 281) 88 = some (.invokevirtual 80, 278) := by decide +kernel
theorem at_281_91 : am_at (am_m 281) 91 = some (.ifCond .ne 5, 96) := by decide +kernel
theorem at_281_94 : am_at (am_m 281) 94 = some (.iconst (-1), 0) := by decide +kernel
theorem at_281_95 : am_at (am_m 281) 95 = some (.ireturn, 0) := by decide +kernel
theorem at_281_96 : am_at (am_m 281) 96 = some (.iload 4, 0) := by decide +kernel
theorem at_281_98 : am_at (am_m 281) 98 = some (.bipush 16, 0) := by decide +kernel
theorem at_281_100 : am_at (am_m 281) 100 = some (.if_icmp .ne 7, 107) := by decide +kernel
theorem at_281_103 : am_at (am_m 281) 103 = some (.iload_n 3, 0) := by decide +kernel
theorem at_281_104 : am_at (am_m 281) 104 = some (.goto 11, 115) := by decide +kernel
theorem at_281_107 : am_at (am_m 281) 107 = some (.aload_n 0, 0) := by decide +kernel
theorem at_281_108 : am_at (am_m 281) 108 = some (.getfield 25, 1283) := by decide +kernel
theorem at_281_111 : am_at (am_m 281) 111 = some (.iload_n 3, 0) := by decide +kernel
theorem at_281_112 : am_at (am_m 281) 112 = some (.invokevirtual 66, 100) := by decide +kernel
theorem at_281_115 : am_at (am_m 281) 115 = some (.ireturn, 0) := by decide +kernel
theorem at_282_0 : am_at (am_m 282) 0 = some (.aload_n 0, 0) := by decide +kernel
theorem at_282_1 : am_at (am_m 282) 1 = some (.getfield 25, 1283) := by decide +kernel
theorem at_282_4 : am_at (am_m 282) 4 = some (.iload_n 1, 0) := by decide +kernel
theorem at_282_5 : am_at (am_m 282) 5 = some (.invokevirtual 66, 100) := by decide +kernel
theorem at_282_8 : am_at (am_m 282) 8 = some (.istore_n 3, 0) := by decide +kernel
theorem at_282_9 : am_at (am_m 282) 9 = some (.aload_n 0, 0) := by decide +kernel
theorem at_282_10 : am_at (am_m 282) 10 = some (.getfield 34, 1284) := by decide +kernel
theorem at_282_13 : am_at (am_m 282) 13 = some (.iconst 0, 0) := by decide +kernel
theorem at_282_14 : am_at (am_m 282) 14 = some (.iconst 0, 0) := by decide +kernel
theorem at_282_15 : am_at (am_m 282) 15 = some (.invokevirtual 102, 34) := by decide +kernel
theorem at_282_18 : am_at (am_m 282) 18 = some (.aload_n 0, 0) := by decide +kernel
theorem at_282_19 : am_at (am_m 282) 19 = some (.getfield 34, 1284) := by decide +kernel
theorem at_282_22 : am_at (am_m 282) 22 = some (.aload_n 0, 0) := by decide +kernel
theorem at_282_23 : am_at (am_m 282) 23 = some (.getfield 38, 1285) := by decide +kernel
theorem at_282_26 : am_at (am_m 282) 26 = some (.iconst 0, 0) := by decide +kernel
theorem at_282_27 : am_at (am_m 282) 27 = some (.iload_n 1, 0) := by decide +kernel
theorem at_282_28 : am_at (am_m 282) 28 = some (.invokevirtual 105, 170) := by decide +kernel
theorem at_282_31 : am_at (am_m 282) 31 = some (.pop, 0) := by decide +kernel
theorem at_282_32 : am_at (am_m 282) 32 = some (.iload_n 2, 0) := by decide +kernel
theorem at_282_33 : am_at (am_m 282) 33 = some (.bipush (-2), 0) := by decide +kernel
theorem at_282_35 : am_at (am_m 282) 35 = some (.if_icmp .ne 19, 54) := by decide +kernel
theorem at_282_38 : am_at (am_m 282) 38 = some (.aload_n 0, 0) := by decide +kernel
theorem at_282_39 : am_at (am_m 282) 39 = some (.getfield 34, 1284) := by decide +kernel
theorem at_282_42 : am_at (am_m 282) 42 = some (.iconst 0, 0) := by decide +kernel
theorem at_282_43 : am_at (am_m 282) 43 = some (.aload_n 0, 0) := by decide +kernel
theorem at_282_44 : am_at (am_m 282) 44 = some (.getfield 41, 1286) := by decide +kernel
theorem at_282_47 : am_at (am_m 282) 47 = some (.invokevirtual 109, 41) := by decide +kernel
theorem at_282_50 : am_at (am_m 282) 50 = some (.pop, 0) := by decide +kernel
theorem at_282_51 : am_at (am_m 282) 51 = some (.goto 115, 166) := by decide +kernel
theorem at_282_54 : am_at (am_m 282) 54 = some (.iload_n 2, 0) := by decide +kernel
theorem at_282_55 : am_at (am_m 282) 55 = some (.bipush (-3), 0) := by decide +kernel
theorem at_282_57 : am_at (am_m 282) 57 = some (.if_icmp .ne 88, 145) := by decide +kernel
theorem at_282_60 : am_at (am_m 282) 60 = some (.aload_n 0, 0) := by decide +kernel
theorem at_282_61 : am_at (am_m 282) 61 = some (.getfield 25, 1283) := by decide +kernel
theorem at_282_64 : am_at (am_m 282) 64 = some (.iload_n 1, 0) := by decide +kernel
theorem at_282_65 : am_at (am_m 282) 65 = some (.iconst 1, 0) := by decide +kernel
theorem at_282_66 : am_at (am_m 282) 66 = some (.iadd, 0) := by decide +kernel
theorem at_282_67 : am_at (am_m 282) 67 = some (.invokevirtual 66, 100) := by decide +kernel
theorem at_282_70 : am_at (am_m 282) 70 = some (.istore 4, 0) := by decide +kernel
theorem at_282_72 : am_at (am_m 282) 72 = some (.aload_n 0, 0) := by decide +kernel
theorem at_282_73 : am_at (am_m 282) 73 = some (.getfield 25, 1283) := by decide +kernel
theorem at_282_76 : am_at (am_m 282) 76 = some (.iload 4, 0) := by decide +kernel
theorem at_282_78 : am_at (am_m 282) 78 = some (.invokevirtual 66, 100) := by decide +kernel
theorem at_282_81 : am_at (am_m 282) 81 = some (.istore 5, 0) := by decide +kernel
theorem at_282_83 : am_at (am_m 282) 83 = some (.aload_n 0, 0) := by decide +kernel
theorem at_282_84 : am_at (am_m 282) 84 = some (.getfield 34, 1284) := by decide +kernel
theorem at_282_87 : am_at (am_m 282) 87 = some (.bipush 20, 0) := by decide +kernel
theorem at_282_89 : am_at (am_m 282) 89 = some (.iconst 0, 0) := by decide +kernel
theorem at_282_90 : am_at (am_m 282) 90 = some (.invokevirtual 109, 41) := by decide +kernel
theorem at_282_93 : am_at (am_m 282) 93 = some (.pop, 0) := by decide +kernel
theorem at_282_94 : am_at (am_m 282) 94 = some (.aload_n 0, 0) := by decide +kernel
theorem at_282_95 : am_at (am_m 282) 95 = some (.getfield 34, 1284) := by decide +kernel
theorem at_282_98 : am_at (am_m 282) 98 = some (.aload_n 0, 0) := by decide +kernel
theorem at_282_99 : am_at (am_m 282) 99 = some (.getfield 38, 1285) := by decide +kernel
theorem at_282_102 : am_at (am_m 282) 102 = some (.iload_n 1, 0) := by decide +kernel
theorem at_282_103 : am_at (am_m 282) 103 = some (.iconst 2, 0) := by decide +kernel
theorem at_282_104 : am_at (am_m 282) 104 = some (.iadd, 0) := by decide +kernel
theorem at_282_105 : am_at (am_m 282) 105 = some (.iload 4, 0) := by decide +kernel
theorem at_282_107 : am_at (am_m 282) 107 = some (.invokevirtual 105, 170) := by decide +kernel
theorem at_282_110 : am_at (am_m 282) 110 = some (.pop, 0) := by decide +kernel
theorem at_282_111 : am_at (am_m 282) 111 = some (.aload_n 0, 0) := by decide +kernel
theorem at_282_112 : am_at (am_m 282) 112 = some (.getfield 34, 1284) := by decide +kernel
theorem at_282_115 : am_at (am_m 282) 115 = some (.aload_n 0, 0) := by decide +kernel
theorem at_282_116 : am_at (am_m 282) 116 = some (.getfield 38, 1285) := by decide +kernel
theorem at_282_119 : am_at (am_m 282) 119 = some (.iload 5, 0) := by decide +kernel
theorem at_282_121 : am_at (am_m 282) 121 = some (.iload_n 3, 0) := by decide +kernel
theorem at_282_122 : am_at (am_m 282) 122 = some (.invokevirtual 105, 170) := by decide +kernel
theorem at_282_125 : am_at (am_m 282) 125 = some (.pop, 0) := by decide +kernel
theorem at_282_126 : am_at (am_m 282) 126 = some (.aload_n 0, 0) := by decide +kernel
theorem at_282_127 : am_at (am_m 282) 127 = some (.getfield 34, 1284) := by decide +kernel
theorem at_282_130 : am_at (am_m 282) 130 = some (.aload_n 0, 0) := by decide +kernel
theorem at_282_131 : am_at (am_m 282) 131 = some (.getfield 38, 1285) := by decide +kernel
theorem at_282_134 : am_at (am_m 282) 134 = some (.iload 4, 0) := by decide +kernel
theorem at_282_136 : am_at (am_m 282) 136 = some (.iload 5, 0) := by decide +kernel
theorem at_282_138 : am_at (am_m 282) 138 = some (.invokevirtual 105, 170) := by decide +kernel
theorem at_282_141 : am_at (am_m 282) 141 = some (.pop, 0) := by decide +kernel
theorem at_282_142 : am_at (am_m 282) 142 = some (.goto 24, 166) := by decide +kernel
theorem at_282_145 : am_at (am_m 282) 145 = some (.aload_n 0, 0) := by decide +kernel
theorem at_282_146 : am_at (am_m 282) 146 = some (.getfield 34, 1284) := by decide +kernel
theorem at_282_149 : am_at (am_m 282) 149 = some (.aload_n 0, 0) := by decide +kernel
theorem at_282_150 : am_at (am_m 282) 150 = some (.getfield 38, 1285) := by decide +kernel
theorem at_282_153 : am_at (am_m 282) 153 = some (.iload_n 2, 0) := by decide +kernel
theorem at_282_154 : am_at (am_m 282) 154 = some (.aload_n 0, 0) := by decide +kernel
theorem at_282_155 : am_at (am_m 282) 155 = some (.getfield 25, 1283) := by decide +kernel
theorem at_282_158 : am_at (am_m 282) 158 = some (.iload_n 2, 0) := by decide +kernel
theorem at_282_159 : am_at (am_m 282) 159 = some (.invokevirtual 66, 100) := by decide +kernel
theorem at_282_162 : am_at (am_m 282) 162 = some (.invokevirtual 105, 170) := by decide +kernel
theorem at_282_165 : am_at (am_m 282) 165 = some (.pop, 0) := by decide +kernel
theorem at_282_166 : am_at (am_m 282) 166 = some (.aload_n 0, 0) := by decide +kernel
theorem at_282_167 : am_at (am_m 282) 167 = some (.getfield 34, 1284) := by decide +kernel
theorem at_282_170 : am_at (am_m 282) 170 = some (.aload_n 0, 0) := by decide +kernel
theorem at_282_171 : am_at (am_m 282) 171 = some (.getfield 38, 1285) := by decide +kernel
theorem at_282_174 : am_at (am_m 282) 174 = some (.iload_n 3, 0) := by decide +kernel
theorem at_282_175 : am_at (am_m 282) 175 = some (.aload_n 0, 0) := by decide +kernel
theorem at_282_176 : am_at (am_m 282) 176 = some (.getfield 38, 1285) := by decide +kernel
theorem at_282_179 : am_at (am_m 282) 179 = some (.getfield 52, 771) := by decide +kernel
theorem at_282_182 : am_at (am_m 282) 182 = some (.invokevirtual 105, 170) := by decide +kernel
theorem at_282_185 : am_at (am_m 282) 185 = some (.pop, 0) := by decide +kernel
theorem at_282_186 : am_at (am_m 282) 186 = some (.aload_n 0, 0) := by decide +kernel
theorem at_282_187 : am_at (am_m 282) 187 = some (.getfield 38, 1285) := by decide +kernel
theorem at_282_190 : am_at (am_m 282) 190 = some (.aload_n 0, 0) := by decide +kernel
theorem at_282_191 : am_at (am_m 282) 191 = some (.getfield 34, 1284) := by decide +kernel
theorem at_282_194 : am_at (am_m 282) 194 = some (.invokevirtual 112, 60) := by decide +kernel
theorem at_282_197 : am_at (am_m 282) 197 = some (.return_, 0) := by decide +kernel
theorem at_283_0 : am_at (am_m 283) 0 = some (.aload_n 3, 0) := by decide +kernel
theorem at_283_1 : am_at (am_m 283) 1 = some (.iconst 0, 0) := by decide +kernel
theorem at_283_2 : am_at (am_m 283) 2 = some (.aload_n 0, 0) := by decide +kernel
theorem at_283_3 : am_at (am_m 283) 3 = some (.iload_n 1, 0) := by decide +kernel
theorem at_283_4 : am_at (am_m 283) 4 = some (.iload_n 2, 0) := by decide +kernel
theorem at_283_5 : am_at (am_m 283) 5 = some (.invokevirtual 155, 284) := by decide +kernel
theorem at_283_8 : am_at (am_m 283) 8 = some (.ifCond .eq 7, 15) := by decide +kernel
theorem at_283_11 : am_at (am_m 283) 11 = some (.lconst 1, 0) := by decide +kernel
theorem at_283_12 : am_at (am_m 283) 12 = some (.goto 4, 16) := by decide +kernel
theorem at_283_15 : am_at (am_m 283) 15 = some (.lconst 0, 0) := by decide +kernel
theorem at_283_16 : am_at (am_m 283) 16 = some (.lastore, 0) := by decide +kernel
theorem at_283_17 : am_at (am_m 283) 17 = some (.goto 7, 24) := by decide +kernel
theorem at_283_22 : am_at (am_m 283) 22 = some (.iconst 1, 0) := by decide +kernel
theorem at_283_23 : am_at (am_m 283) 23 = some (.ireturn, 0) := by decide +kernel
theorem at_283_24 : am_at (am_m 283) 24 = some (.iconst 0, 0) := by decide +kernel
theorem at_283_25 : am_at (am_m 283) 25 = some (.ireturn, 0) := by decide +kernel
theorem at_284_0 : am_at (am_m 284) 0 = some (.aload_n 0, 0) := by decide +kernel
theorem at_284_1 : am_at (am_m 284) 1 = some (.iload_n 1, 0) := by decide +kernel
theorem at_284_2 : am_at (am_m 284) 2 = some (.invokevirtual 132, 63) := by decide +kernel
theorem at_284_5 : am_at (am_m 284) 5 = some (.astore_n 3, 0) := by decide +kernel
theorem at_284_6 : am_at (am_m 284) 6 = some (.aload_n 0, 0) := by decide +kernel
theorem at_284_7 : am_at (am_m 284) 7 = some (.iload_n 2, 0) := by decide +kernel
theorem at_284_8 : am_at (am_m 284) 8 = some (.invokevirtual 132, 63) := by decide +kernel
theorem at_284_11 : am_at (am_m 284) 11 = some (.astore 4, 0) := by decide +kernel
theorem at_284_13 : am_at (am_m 284) 13 = some (.aload_n 3, 0) := by decide +kernel
theorem at_284_14 : am_at (am_m 284) 14 = some (.getfield 144, 769) := by decide +kernel
theorem at_284_17 : am_at (am_m 284) 17 = some (.ifCond .ne 11, 28) := by decide +kernel
theorem at_284_20 : am_at (am_m 284) 20 = some (.aload 4, 0) := by decide +kernel
theorem at_284_22 : am_at (am_m 284) 22 = some (.getfield 144, 769) := by decide +kernel
theorem at_284_25 : am_at (am_m 284) 25 = some (.ifCond .eq 5, 30) := by decide +kernel
theorem at_284_28 : am_at (am_m 284) 28 = some (.iconst 0, 0) := by decide +kernel
theorem at_284_29 : am_at (am_m 284) 29 = some (.ireturn, 0) := by decide +kernel
theorem at_284_30 : am_at (am_m 284) 30 = some (.aload_n 0, 0) := by decide +kernel
theorem at_284_31 : am_at (am_m 284) 31 = some (.getfield 90, 2831) := by decide +kernel
theorem at_284_34 : am_at (am_m 284) 34 = some (.aload_n 3, 0) := by decide +kernel
theorem at_284_35 : am_at (am_m 284) 35 = some (.invokevirtual 415, 60) := by decide +kernel
theorem at_284_38 : am_at (am_m 284) 38 = some (.aload_n 0, 0) := by decide +kernel
theorem at_284_39 : am_at (am_m 284) 39 = some (.getfield 61, 2824) := by decide +kernel
theorem at_284_42 : am_at (am_m 284) 42 = some (.aload_n 0, 0) := by decide +kernel
theorem at_284_43 : am_at (am_m 284) 43 = some (.getfield 90, 2831) := by decide +kernel
theorem at_284_46 : am_at (am_m 284) 46 = some (.invokevirtual 438, 285) := by decide +kernel
theorem at_284_49 : am_at (am_m 284) 49 = some (.ifCond .eq 19, 68) := by decide +kernel
theorem at_284_52 : am_at (am_m 284) 52 = some (.aload_n 0, 0) := by decide +kernel
theorem at_284_53 : am_at (am_m 284) 53 = some (.getfield 90, 2831) := by decide +kernel
theorem at_284_56 : am_at (am_m 284) 56 = some (.aload 4, 0) := by decide +kernel
theorem at_284_58 : am_at (am_m 284) 58 = some (.invokevirtual 186, 86) := by decide +kernel
theorem at_284_61 : am_at (am_m 284) 61 = some (.ifCond .eq 7, 68) := by decide +kernel
theorem at_284_64 : am_at (am_m 284) 64 = some (.iconst 1, 0) := by decide +kernel
theorem at_284_65 : am_at (am_m 284) 65 = some (.goto 4, 69) := by decide +kernel
theorem at_284_68 : am_at (am_m 284) 68 = some (.iconst 0, 0) := by decide +kernel
theorem at_284_69 : am_at (am_m 284) 69 = some (.ireturn, 0) := by decide +kernel
theorem at_285_0 : am_at (am_m 285) 0 = some (.aload_n 0, 0) := by decide +kernel
theorem at_285_1 : am_at (am_m 285) 1 = some (.aload_n 1, 0) := by decide +kernel
theorem at_285_2 : am_at (am_m 285) 2 = some (.putfield 38, 1285) := by decide +kernel
theorem at_285_5 : am_at (am_m 285) 5 = some (.iconst 0, 0) := by decide +kernel
theorem at_285_6 : am_at (am_m 285) 6 = some (.istore_n 2, 0) := by decide +kernel
theorem at_285_7 : am_at (am_m 285) 7 = some (.iload_n 2, 0) := by decide +kernel
theorem at_285_8 : am_at (am_m 285) 8 = some (.aload_n 0, 0) := by decide +kernel
theorem at_285_9 : am_at (am_m 285) 9 = some (.getfield 18, 1282) := by decide +kernel
theorem at_285_12 : am_at (am_m 285) 12 = some (.if_icmp .ge 69, 81) := by decide +kernel
theorem at_285_15 : am_at (am_m 285) 15 = some (.aload_n 0, 0) := by decide +kernel
theorem at_285_16 : am_at (am_m 285) 16 = some (.getfield 25, 1283) := by decide +kernel
theorem at_285_19 : am_at (am_m 285) 19 = some (.aload_n 1, 0) := by decide +kernel
theorem at_285_20 : am_at (am_m 285) 20 = some (.invokevirtual 48, 77) := by decide +kernel
theorem at_285_23 : am_at (am_m 285) 23 = some (.aload_n 0, 0) := by decide +kernel
theorem at_285_24 : am_at (am_m 285) 24 = some (.getfield 9, 1280) := by decide +kernel
theorem at_285_27 : am_at (am_m 285) 27 = some (.iload_n 2, 0) := by decide +kernel
theorem at_285_28 : am_at (am_m 285) 28 = some (.iaload, 0) := by decide +kernel
theorem at_285_29 : am_at (am_m 285) 29 = some (.aload_n 1, 0) := by decide +kernel
theorem at_285_30 : am_at (am_m 285) 30 = some (.getfield 52, 771) := by decide +kernel
theorem at_285_33 : am_at (am_m 285) 33 = some (.if_icmp .ge 22, 55) := by decide +kernel
theorem at_285_36 : am_at (am_m 285) 36 = some (.aload_n 0, 0) := by decide +kernel
theorem at_285_37 : am_at (am_m 285) 37 = some (.aload_n 0, 0) := by decide +kernel
theorem at_285_38 : am_at (am_m 285) 38 = some (.getfield 9, 1280) := by decide +kernel
theorem at_285_41 : am_at (am_m 285) 41 = some (.iload_n 2, 0) := by decide +kernel
theorem at_285_42 : am_at (am_m 285) 42 = some (.iaload, 0) := by decide +kernel
theorem at_285_43 : am_at (am_m 285) 43 = some (.aload_n 0, 0) := by decide +kernel
theorem at_285_44 : am_at (am_m 285) 44 = some (.getfield 15, 1281) := by decide +kernel
theorem at_285_47 : am_at (am_m 285) 47 = some (.iload_n 2, 0) := by decide +kernel
theorem at_285_48 : am_at (am_m 285) 48 = some (.iaload, 0) := by decide +kernel
theorem at_285_49 : am_at (am_m 285) 49 = some (.invokevirtual 55, 271) := by decide +kernel
theorem at_285_52 : am_at (am_m 285) 52 = some (.goto 4, 56) := by decide +kernel
theorem at_285_55 : am_at (am_m 285) 55 = some (.iconst (-1), 0) := by decide +kernel
theorem at_285_56 : am_at (am_m 285) 56 = some (.istore_n 3, 0) := by decide +kernel
theorem at_285_57 : am_at (am_m 285) 57 = some (.iload_n 3, 0) := by decide +kernel
theorem at_285_58 : am_at (am_m 285) 58 = some (.iconst (-1), 0) := by decide +kernel
theorem at_285_59 : am_at (am_m 285) 59 = some (.if_icmp .ne 5, 64) := by decide +kernel
theorem at_285_62 : am_at (am_m 285) 62 = some (.iconst 0, 0) := by decide +kernel
theorem at_285_63 : am_at (am_m 285) 63 = some (.ireturn, 0) := by decide +kernel
theorem at_285_64 : am_at (am_m 285) 64 = some (.aload_n 0, 0) := by decide +kernel
theorem at_285_65 : am_at (am_m 285) 65 = some (.aload_n 0, 0) := by decide +kernel
theorem at_285_66 : am_at (am_m 285) 66 = some (.getfield 9, 1280) := by decide +kernel
theorem at_285_69 : am_at (am_m 285) 69 = some (.iload_n 2, 0) := by decide +kernel
theorem at_285_70 : am_at (am_m 285) 70 = some (.iaload, 0) := by decide +kernel
theorem at_285_71 : am_at (am_m 285) 71 = some (.iload_n 3, 0) := by decide +kernel
theorem at_285_72 : am_at (am_m 285) 72 = some (.invokevirtual 59, 282) := by decide +kernel
theorem at_285_75 : am_at (am_m 285) 75 = some (.iinc 2 1, 0) := by decide +kernel
theorem at_285_78 : am_at (am_m 285) 78 = some (.goto (-71), 7) := by decide +kernel
theorem at_285_81 : am_at (am_m 285) 81 = some (.iconst 1, 0) := by decide +kernel
theorem at_285_82 : am_at (am_m 285) 82 = some (.ireturn, 0) := by decide +kernel
theorem at_286_0 : am_at (am_m 286) 0 = some (.aload_n 3, 0) := by decide +kernel
theorem at_286_1 : am_at (am_m 286) 1 = some (.iconst 0, 0) := by decide +kernel
theorem at_286_2 : am_at (am_m 286) 2 = some (.aload_n 0, 0) := by decide +kernel
theorem at_286_3 : am_at (am_m 286) 3 = some (.iload_n 1, 0) := by decide +kernel
theorem at_286_4 : am_at (am_m 286) 4 = some (.iload_n 2, 0) := by decide +kernel
theorem at_286_5 : am_at (am_m 286) 5 = some (.invokevirtual 158, 287) := by decide +kernel
theorem at_286_8 : am_at (am_m 286) 8 = some (.i2l, 0) := by decide +kernel
theorem at_286_9 : am_at (am_m 286) 9 = some (.lastore, 0) := by decide +kernel
theorem at_286_10 : am_at (am_m 286) 10 = some (.goto 7, 17) := by decide +kernel
theorem at_286_15 : am_at (am_m 286) 15 = some (.iconst 1, 0) := by decide +kernel
theorem at_286_16 : am_at (am_m 286) 16 = some (.ireturn, 0) := by decide +kernel
theorem at_286_17 : am_at (am_m 286) 17 = some (.iconst 0, 0) := by decide +kernel
theorem at_286_18 : am_at (am_m 286) 18 = some (.ireturn, 0) := by decide +kernel
theorem at_287_0 : am_at (am_m 287) 0 = some (.aload_n 0, 0) := by decide +kernel
theorem at_287_1 : am_at (am_m 287) 1 = some (.iload_n 1, 0) := by decide +kernel
theorem at_287_2 : am_at (am_m 287) 2 = some (.invokevirtual 132, 63) := by decide +kernel
theorem at_287_5 : am_at (am_m 287) 5 = some (.astore_n 3, 0) := by decide +kernel
theorem at_287_6 : am_at (am_m 287) 6 = some (.aload_n 0, 0) := by decide +kernel
theorem at_287_7 : am_at (am_m 287) 7 = some (.iload_n 2, 0) := by decide +kernel
theorem at_287_8 : am_at (am_m 287) 8 = some (.invokevirtual 132, 63) := by decide +kernel
theorem at_287_11 : am_at (am_m 287) 11 = some (.astore 4, 0) := by decide +kernel
theorem at_287_13 : am_at (am_m 287) 13 = some (.aload_n 3, 0) := by decide +kernel
theorem at_287_14 : am_at (am_m 287) 14 = some (.getfield 144, 769) := by decide +kernel
theorem at_287_17 : am_at (am_m 287) 17 = some (.iconst 2, 0) := by decide +kernel
theorem at_287_18 : am_at (am_m 287) 18 = some (.if_icmp .ne 35, 53) := by decide +kernel
theorem at_287_21 : am_at (am_m 287) 21 = some (.aload 4, 0) := by decide +kernel
theorem at_287_23 : am_at (am_m 287) 23 = some (.getfield 144, 769) := by decide +kernel
theorem at_287_26 : am_at (am_m 287) 26 = some (.iconst 2, 0) := by decide +kernel
theorem at_287_27 : am_at (am_m 287) 27 = some (.if_icmp .ne 26, 53) := by decide +kernel
theorem at_287_30 : am_at (am_m 287) 30 = some (.aload_n 0, 0) := by decide +kernel
theorem at_287_31 : am_at (am_m 287) 31 = some (.getfield 68, 2825) := by decide +kernel
theorem at_287_34 : am_at (am_m 287) 34 = some (.aload_n 3, 0) := by decide +kernel
theorem at_287_35 : am_at (am_m 287) 35 = some (.aload 4, 0) := by decide +kernel
theorem at_287_37 : am_at (am_m 287) 37 = some (.aload_n 0, 0) := by decide +kernel
theorem at_287_38 : am_at (am_m 287) 38 = some (.getfield 84, 2830) := by decide +kernel
theorem at_287_41 : am_at (am_m 287) 41 = some (.invokevirtual 441, 288) := by decide +kernel
theorem at_287_44 : am_at (am_m 287) 44 = some (.ifCond .eq 7, 51) := by decide +kernel
theorem at_287_47 : am_at (am_m 287) 47 = some (.iconst 0, 0) := by decide +kernel
theorem at_287_48 : am_at (am_m 287) 48 = some (.goto 4, 52) := by decide +kernel
theorem at_287_51 : am_at (am_m 287) 51 = some (.iconst 1, 0) := by decide +kernel
theorem at_287_52 : am_at (am_m 287) 52 = some (.ireturn, 0) := by decide +kernel
theorem at_287_53 : am_at (am_m 287) 53 = some (.aload_n 3, 0) := by decide +kernel
theorem at_287_54 : am_at (am_m 287) 54 = some (.getfield 144, 769) := by decide +kernel
theorem at_287_57 : am_at (am_m 287) 57 = some (.iconst 3, 0) := by decide +kernel
theorem at_287_58 : am_at (am_m 287) 58 = some (.if_icmp .ne 47, 105) := by decide +kernel
theorem at_287_61 : am_at (am_m 287) 61 = some (.aload 4, 0) := by decide +kernel
theorem at_287_63 : am_at (am_m 287) 63 = some (.getfield 144, 769) := by decide +kernel
theorem at_287_66 : am_at (am_m 287) 66 = some (.iconst 3, 0) := by decide +kernel
theorem at_287_67 : am_at (am_m 287) 67 = some (.if_icmp .ne 38, 105) := by decide +kernel
theorem at_287_70 : am_at (am_m 287) 70 = some (.aload_n 3, 0) := by decide +kernel
theorem at_287_71 : am_at (am_m 287) 71 = some (.getfield 165, 770) := by decide +kernel
theorem at_287_74 : am_at (am_m 287) 74 = some (.aload 4, 0) := by decide +kernel
theorem at_287_76 : am_at (am_m 287) 76 = some (.getfield 165, 770) := by decide +kernel
theorem at_287_79 : am_at (am_m 287) 79 = some (.if_icmp .ne 26, 105) := by decide +kernel
theorem at_287_82 : am_at (am_m 287) 82 = some (.aload_n 0, 0) := by decide +kernel
theorem at_287_83 : am_at (am_m 287) 83 = some (.getfield 68, 2825) := by decide +kernel
theorem at_287_86 : am_at (am_m 287) 86 = some (.aload_n 3, 0) := by decide +kernel
theorem at_287_87 : am_at (am_m 287) 87 = some (.aload 4, 0) := by decide +kernel
theorem at_287_89 : am_at (am_m 287) 89 = some (.aload_n 0, 0) := by decide +kernel
theorem at_287_90 : am_at (am_m 287) 90 = some (.getfield 84, 2830) := by decide +kernel
theorem at_287_93 : am_at (am_m 287) 93 = some (.invokevirtual 445, 290) := by decide +kernel
theorem at_287_96 : am_at (am_m 287) 96 = some (.ifCond .eq 7, 103) := by decide +kernel
theorem at_287_99 : am_at (am_m 287) 99 = some (.iconst 0, 0) := by decide +kernel
theorem at_287_100 : am_at (am_m 287) 100 = some (.goto 4, 104) := by decide +kernel
theorem at_287_103 : am_at (am_m 287) 103 = some (.iconst 1, 0) := by decide +kernel
theorem at_287_104 : am_at (am_m 287) 104 = some (.ireturn, 0) := by decide +kernel
theorem at_287_105 : am_at (am_m 287) 105 = some (.aload_n 0, 0) := by decide +kernel
theorem at_287_106 : am_at (am_m 287) 106 = some (.getfield 68, 2825) := by decide +kernel
theorem at_287_109 : am_at (am_m 287) 109 = some (.aload_n 3, 0) := by decide +kernel
theorem at_287_110 : am_at (am_m 287) 110 = some (.aload_n 0, 0) := by decide +kernel
theorem at_287_111 : am_at (am_m 287) 111 = some (.getfield 90, 2831) := by decide +kernel
theorem at_287_114 : am_at (am_m 287) 114 = some (.invokevirtual 448, 293) := by decide +kernel
theorem at_287_117 : am_at (am_m 287) 117 = some (.ifCond .eq 59, 176) := by decide +kernel
theorem at_287_120 : am_at (am_m 287) 120 = some (.aload_n 0, 0) := by decide +kernel
theorem at_287_121 : am_at (am_m 287) 121 = some (.getfield 68, 2825) := by decide +kernel
theorem at_287_124 : am_at (am_m 287) 124 = some (.aload 4, 0) := by decide +kernel
theorem at_287_126 : am_at (am_m 287) 126 = some (.aload_n 0, 0) := by decide +kernel
theorem at_287_127 : am_at (am_m 287) 127 = some (.getfield 94, 2832) := by decide +kernel
theorem at_287_130 : am_at (am_m 287) 130 = some (.invokevirtual 448, 293) := by decide +kernel
theorem at_287_133 : am_at (am_m 287) 133 = some (.ifCond .eq 43, 176) := by decide +kernel
theorem at_287_136 : am_at (am_m 287) 136 = some (.aload_n 0, 0) := by decide +kernel
theorem at_287_137 : am_at (am_m 287) 137 = some (.getfield 61, 2824) := by decide +kernel
theorem at_287_140 : am_at (am_m 287) 140 = some (.aload_n 0, 0) := by decide +kernel
theorem at_287_141 : am_at (am_m 287) 141 = some (.getfield 90, 2831) := by decide +kernel
theorem at_287_144 : am_at (am_m 287) 144 = some (.iconst 0, 0) := by decide +kernel
theorem at_287_145 : am_at (am_m 287) 145 = some (.invokevirtual 427, 269) := by decide +kernel
theorem at_287_148 : am_at (am_m 287) 148 = some (.aload_n 0, 0) := by decide +kernel
theorem at_287_149 : am_at (am_m 287) 149 = some (.getfield 61, 2824) := by decide +kernel
theorem at_287_152 : am_at (am_m 287) 152 = some (.aload_n 0, 0) := by decide +kernel
theorem at_287_153 : am_at (am_m 287) 153 = some (.getfield 94, 2832) := by decide +kernel
theorem at_287_156 : am_at (am_m 287) 156 = some (.iconst 0, 0) := by decide +kernel
theorem at_287_157 : am_at (am_m 287) 157 = some (.invokevirtual 427, 269) := by decide +kernel
theorem at_287_160 : am_at (am_m 287) 160 = some (.aload_n 0, 0) := by decide +kernel
theorem at_287_161 : am_at (am_m 287) 161 = some (.getfield 90, 2831) := by decide +kernel
theorem at_287_164 : am_at (am_m 287) 164 = some (.aload_n 0, 0) := by decide +kernel
theorem at_287_165 : am_at (am_m 287) 165 = some (.getfield 94, 2832) := by decide +kernel
theorem at_287_168 : am_at (am_m 287) 168 = some (.invokevirtual 186, 86) := by decide +kernel
theorem at_287_171 : am_at (am_m 287) 171 = some (.ifCond .eq 5, 176) := by decide +kernel
theorem at_287_174 : am_at (am_m 287) 174 = some (.iconst 1, 0) := by decide +kernel
theorem at_287_175 : am_at (am_m 287) 175 = some (.ireturn, 0) := by decide +kernel
theorem at_287_176 : am_at (am_m 287) 176 = some (.aload_n 0, 0) := by decide +kernel
theorem at_287_177 : am_at (am_m 287) 177 = some (.aload_n 3, 0) := by decide +kernel
theorem at_287_178 : am_at (am_m 287) 178 = some (.aload 4, 0) := by decide +kernel
theorem at_287_180 : am_at (am_m 287) 180 = some (.invokevirtual 452, 296) := by decide +kernel
theorem at_287_183 : am_at (am_m 287) 183 = some (.ifCond .eq 7, 190) := by decide +kernel
theorem at_287_186 : am_at (am_m 287) 186 = some (.iconst 0, 0) := by decide +kernel
theorem at_287_187 : am_at (am_m 287) 187 = some (.goto 4, 191) := by decide +kernel
theorem at_287_190 : am_at (am_m 287) 190 = some (.iconst 2, 0) := by decide +kernel
theorem at_287_191 : am_at (am_m 287) 191 = some (.ireturn, 0) := by decide +kernel
theorem at_288_0 : am_at (am_m 288) 0 = some (.aload_n 0, 0) := by decide +kernel
theorem at_288_1 : am_at (am_m 288) 1 = some (.getfield 52, 2569) := by decide +kernel
theorem at_288_4 : am_at (am_m 288) 4 = some (.iconst (-1), 0) := by decide +kernel
theorem at_288_5 : am_at (am_m 288) 5 = some (.invokestatic 143, 53) := by decide +kernel
theorem at_288_8 : am_at (am_m 288) 8 = some (.aload_n 0, 0) := by decide +kernel
theorem at_288_9 : am_at (am_m 288) 9 = some (.getfield 49, 2568) := by decide +kernel
theorem at_288_12 : am_at (am_m 288) 12 = some (.iconst 0, 0) := by decide +kernel
theorem at_288_13 : am_at (am_m 288) 13 = some (.iconst 0, 0) := by decide +kernel
theorem at_288_14 : am_at (am_m 288) 14 = some (.iastore, 0) := by decide +kernel
theorem at_288_15 : am_at (am_m 288) 15 = some (.iconst 1, 0) := by decide +kernel
theorem at_288_16 : am_at (am_m 288) 16 = some (.istore 4, 0) := by decide +kernel
theorem at_288_18 : am_at (am_m 288) 18 = some (.iconst 0, 0) := by decide +kernel
theorem at_288_19 : am_at (am_m 288) 19 = some (.istore 5, 0) := by decide +kernel
theorem at_288_21 : am_at (am_m 288) 21 = some (.iload 5, 0) := by decide +kernel
theorem at_288_23 : am_at (am_m 288) 23 = some (.iload 4, 0) := by decide +kernel
theorem at_288_25 : am_at (am_m 288) 25 = some (.if_icmp .ge 171, 196) := by decide +kernel
theorem at_288_28 : am_at (am_m 288) 28 = some (.iload 5, 0) := by decide +kernel
theorem at_288_30 : am_at (am_m 288) 30 = some (.aload_n 0, 0) := by decide +kernel
theorem at_288_31 : am_at (am_m 288) 31 = some (.getfield 49, 2568) := by decide +kernel
theorem at_288_34 : am_at (am_m 288) 34 = some (.arraylength, 0) := by decide +kernel
theorem at_288_35 : am_at (am_m 288) 35 = some (.if_icmp .ge 161, 196) := by decide +kernel
theorem at_288_38 : am_at (am_m 288) 38 = some (.aload_n 0, 0) := by decide +kernel
theorem at_288_39 : am_at (am_m 288) 39 = some (.getfield 49, 2568) := by decide +kernel
theorem at_288_42 : am_at (am_m 288) 42 = some (.iload 5, 0) := by decide +kernel
theorem at_288_44 : am_at (am_m 288) 44 = some (.iaload, 0) := by decide +kernel
theorem at_288_45 : am_at (am_m 288) 45 = some (.bipush 6, 0) := by decide +kernel
theorem at_288_47 : am_at (am_m 288) 47 = some (.idiv, 0) := by decide +kernel
theorem at_288_48 : am_at (am_m 288) 48 = some (.istore 6, 0) := by decide +kernel
theorem at_288_50 : am_at (am_m 288) 50 = some (.aload_n 0, 0) := by decide +kernel
theorem at_288_51 : am_at (am_m 288) 51 = some (.getfield 49, 2568) := by decide +kernel
theorem at_288_54 : am_at (am_m 288) 54 = some (.iload 5, 0) := by decide +kernel
theorem at_288_56 : am_at (am_m 288) 56 = some (.iaload, 0) := by decide +kernel
theorem at_288_57 : am_at (am_m 288) 57 = some (.bipush 6, 0) := by decide +kernel
theorem at_288_59 : am_at (am_m 288) 59 = some (.irem, 0) := by decide +kernel
theorem at_288_60 : am_at (am_m 288) 60 = some (.istore 7, 0) := by decide +kernel
theorem at_288_62 : am_at (am_m 288) 62 = some (.aload_n 1, 0) := by decide +kernel
theorem at_288_63 : am_at (am_m 288) 63 = some (.iload 6, 0) := by decide +kernel
theorem at_288_65 : am_at (am_m 288) 65 = some (.iconst 0, 0) := by decide +kernel
theorem at_288_66 : am_at (am_m 288) 66 = some (.invokevirtual 83, 54) := by decide +kernel
theorem at_288_69 : am_at (am_m 288) 69 = some (.aload_n 2, 0) := by decide +kernel
theorem at_288_70 : am_at (am_m 288) 70 = some (.iload 7, 0) := by decide +kernel
theorem at_288_72 : am_at (am_m 288) 72 = some (.iconst 0, 0) := by decide +kernel
theorem at_288_73 : am_at (am_m 288) 73 = some (.invokevirtual 83, 54) := by decide +kernel
theorem at_288_76 : am_at (am_m 288) 76 = some (.if_icmp .eq 17, 93) := by decide +kernel
theorem at_288_79 : am_at (am_m 288) 79 = some (.aload_n 0, 0) := by decide +kernel
theorem at_288_80 : am_at (am_m 288) 80 = some (.aload_n 0, 0) := by decide +kernel
theorem at_288_81 : am_at (am_m 288) 81 = some (.getfield 49, 2568) := by decide +kernel
theorem at_288_84 : am_at (am_m 288) 84 = some (.iload 5, 0) := by decide +kernel
theorem at_288_86 : am_at (am_m 288) 86 = some (.iaload, 0) := by decide +kernel
theorem at_288_87 : am_at (am_m 288) 87 = some (.aload_n 3, 0) := by decide +kernel
theorem at_288_88 : am_at (am_m 288) 88 = some (.invokevirtual 153, 289) := by decide +kernel
theorem at_288_91 : am_at (am_m 288) 91 = some (.iconst 1, 0) := by decide +kernel
theorem at_288_92 : am_at (am_m 288) 92 = some (.ireturn, 0) := by decide +kernel
theorem at_288_93 : am_at (am_m 288) 93 = some (.iconst 0, 0) := by decide +kernel
theorem at_288_94 : am_at (am_m 288) 94 = some (.istore 8, 0) := by decide +kernel
theorem at_288_96 : am_at (am_m 288) 96 = some (.iload 8, 0) := by decide +kernel
theorem at_288_98 : am_at (am_m 288) 98 = some (.iconst 4, 0) := by decide +kernel
theorem at_288_99 : am_at (am_m 288) 99 = some (.if_icmp .ge 91, 190) := by decide +kernel
theorem at_288_102 : am_at (am_m 288) 102 = some (.bipush 6, 0) := by decide +kernel
theorem at_288_104 : am_at (am_m 288) 104 = some (.aload_n 1, 0) := by decide +kernel
theorem at_288_105 : am_at (am_m 288) 105 = some (.iload 6, 0) := by decide +kernel
theorem at_288_107 : am_at (am_m 288) 107 = some (.iconst 1, 0) := by decide +kernel
theorem at_288_108 : am_at (am_m 288) 108 = some (.iload 8, 0) := by decide +kernel
theorem at_288_110 : am_at (am_m 288) 110 = some (.iadd, 0) := by decide +kernel
theorem at_288_111 : am_at (am_m 288) 111 = some (.invokevirtual 83, 54) := by decide +kernel
theorem at_288_114 : am_at (am_m 288) 114 = some (.imul, 0) := by decide +kernel
theorem at_288_115 : am_at (am_m 288) 115 = some (.aload_n 2, 0) := by decide +kernel
theorem at_288_116 : am_at (am_m 288) 116 = some (.iload 7, 0) := by decide +kernel
theorem at_288_118 : am_at (am_m 288) 118 = some (.iconst 1, 0) := by decide +kernel
theorem at_288_119 : am_at (am_m 288) 119 = some (.iload 8, 0) := by decide +kernel
theorem at_288_121 : am_at (am_m 288) 121 = some (.iadd, 0) := by decide +kernel
theorem at_288_122 : am_at (am_m 288) 122 = some (.invokevirtual 83, 54) := by decide +kernel
theorem at_288_125 : am_at (am_m 288) 125 = some (.iadd, 0) := by decide +kernel
theorem at_288_126 : am_at (am_m 288) 126 = some (.istore 9, 0) := by decide +kernel
theorem at_288_128 : am_at (am_m 288) 128 = some (.iload 9, 0) := by decide +kernel
theorem at_288_130 : am_at (am_m 288) 130 = some (.ifCond .eq 54, 184) := by decide +kernel
theorem at_288_133 : am_at (am_m 288) 133 = some (.aload_n 0, 0) := by decide +kernel
theorem at_288_134 : am_at (am_m 288) 134 = some (.getfield 52, 2569) := by decide +kernel
theorem at_288_137 : am_at (am_m 288) 137 = some (.iload 9, 0) := by decide +kernel
theorem at_288_139 : am_at (am_m 288) 139 = some (.iaload, 0) := by decide +kernel
theorem at_288_140 : am_at (am_m 288) 140 = some (.ifCond .ge 44, 184) := by decide +kernel
theorem at_288_143 : am_at (am_m 288) 143 = some (.iload 4, 0) := by decide +kernel
theorem at_288_145 : am_at (am_m 288) 145 = some (.aload_n 0, 0) := by decide +kernel
theorem at_288_146 : am_at (am_m 288) 146 = some (.getfield 49, 2568) := by decide +kernel
theorem at_288_149 : am_at (am_m 288) 149 = some (.arraylength, 0) := by decide +kernel
theorem at_288_150 : am_at (am_m 288) 150 = some (.if_icmp .ge 34, 184) := by decide +kernel
theorem at_288_153 : am_at (am_m 288) 153 = some (.aload_n 0, 0) := by decide +kernel
theorem at_288_154 : am_at (am_m 288) 154 = some (.getfield 52, 2569) := by decide +kernel
theorem at_288_157 : am_at (am_m 288) 157 = some (.iload 9, 0) := by decide +kernel
theorem at_288_159 : am_at (am_m 288) 159 = some (.iconst 4, 0) := by decide +kernel
theorem at_288_160 : am_at (am_m 288) 160 = some (.aload_n 0, 0) := by decide +kernel
theorem at_288_161 : am_at (am_m 288) 161 = some (.getfield 49, 2568) := by decide +kernel
theorem at_288_164 : am_at (am_m 288) 164 = some (.iload 5, 0) := by decide +kernel
theorem at_288_166 : am_at (am_m 288) 166 = some (.iaload, 0) := by decide +kernel
theorem at_288_167 : am_at (am_m 288) 167 = some (.imul, 0) := by decide +kernel
theorem at_288_168 : am_at (am_m 288) 168 = some (.iload 8, 0) := by decide +kernel
theorem at_288_170 : am_at (am_m 288) 170 = some (.iadd, 0) := by decide +kernel
theorem at_288_171 : am_at (am_m 288) 171 = some (.iastore, 0) := by decide +kernel
theorem at_288_172 : am_at (am_m 288) 172 = some (.aload_n 0, 0) := by decide +kernel
theorem at_288_173 : am_at (am_m 288) 173 = some (.getfield 49, 2568) := by decide +kernel
theorem at_288_176 : am_at (am_m 288) 176 = some (.iload 4, 0) := by decide +kernel
theorem at_288_178 : am_at (am_m 288) 178 = some (.iload 9, 0) := by decide +kernel
theorem at_288_180 : am_at (am_m 288) 180 = some (.iastore, 0) := by decide +kernel
theorem at_288_181 : am_at (am_m 288) 181 = some (.iinc 4 1, 0) := by decide +kernel
theorem at_288_184 : am_at (am_m 288) 184 = some (.iinc 8 1, 0) := by decide +kernel
theorem at_288_187 : am_at (am_m 288) 187 = some (.goto (-91), 96) := by decide +kernel
theorem at_288_190 : am_at (am_m 288) 190 = some (.iinc 5 1, 0) := by decide +kernel
theorem at_288_193 : am_at (am_m 288) 193 = some (.goto (-172), 21) := by decide +kernel
theorem at_288_196 : am_at (am_m 288) 196 = some (.iconst 0, 0) := by decide +kernel
theorem at_288_197 : am_at (am_m 288) 197 = some (.ireturn, 0) := by decide +kernel
theorem at_289_0 : am_at (am_m 289) 0 = some (.iconst 0, 0) := by decide +kernel
theorem at_289_1 : am_at (am_m 289) 1 = some (.istore_n 3, 0) := by decide +kernel
theorem at_289_2 : am_at (am_m 289) 2 = some (.iload_n 1, 0) := by decide +kernel
theorem at_289_3 : am_at (am_m 289) 3 = some (.istore 4, 0) := by decide +kernel
theorem at_289_5 : am_at (am_m 289) 5 = some (.iload 4, 0) := by decide +kernel
theorem at_289_7 : am_at (am_m 289) 7 = some (.ifCond .eq 26, 33) := by decide +kernel
theorem at_289_10 : am_at (am_m 289) 10 = some (.iload_n 3, 0) := by decide +kernel
theorem at_289_11 : am_at (am_m 289) 11 = some (.bipush 36, 0) := by decide +kernel
theorem at_289_13 : am_at (am_m 289) 13 = some (.if_icmp .ge 20, 33) := by decide +kernel
theorem at_289_16 : am_at (am_m 289) 16 = some (.iinc 3 1, 0) := by decide +kernel
theorem at_289_19 : am_at (am_m 289) 19 = some (.aload_n 0, 0) := by decide +kernel
theorem at_289_20 : am_at (am_m 289) 20 = some (.getfield 52, 2569) := by decide +kernel
theorem at_289_23 : am_at (am_m 289) 23 = some (.iload 4, 0) := by decide +kernel
theorem at_289_25 : am_at (am_m 289) 25 = some (.iaload, 0) := by decide +kernel
theorem at_289_26 : am_at (am_m 289) 26 = some (.iconst 4, 0) := by decide +kernel
theorem at_289_27 : am_at (am_m 289) 27 = some (.idiv, 0) := by decide +kernel
theorem at_289_28 : am_at (am_m 289) 28 = some (.istore 4, 0) := by decide +kernel
theorem at_289_30 : am_at (am_m 289) 30 = some (.goto (-25), 5) := by decide +kernel
theorem at_289_33 : am_at (am_m 289) 33 = some (.aload_n 2, 0) := by decide +kernel
theorem at_289_34 : am_at (am_m 289) 34 = some (.iconst 0, 0) := by decide +kernel
theorem at_289_35 : am_at (am_m 289) 35 = some (.invokestatic 143, 53) := by decide +kernel
theorem at_289_38 : am_at (am_m 289) 38 = some (.aload_n 2, 0) := by decide +kernel
theorem at_289_39 : am_at (am_m 289) 39 = some (.iconst 3, 0) := by decide +kernel
theorem at_289_40 : am_at (am_m 289) 40 = some (.iload_n 3, 0) := by decide +kernel
theorem at_289_41 : am_at (am_m 289) 41 = some (.iastore, 0) := by decide +kernel
theorem at_289_42 : am_at (am_m 289) 42 = some (.iload_n 1, 0) := by decide +kernel
theorem at_289_43 : am_at (am_m 289) 43 = some (.istore 4, 0) := by decide +kernel
theorem at_289_45 : am_at (am_m 289) 45 = some (.iload_n 3, 0) := by decide +kernel
theorem at_289_46 : am_at (am_m 289) 46 = some (.iconst 1, 0) := by decide +kernel
theorem at_289_47 : am_at (am_m 289) 47 = some (.isub, 0) := by decide +kernel
theorem at_289_48 : am_at (am_m 289) 48 = some (.istore 5, 0) := by decide +kernel
theorem at_289_50 : am_at (am_m 289) 50 = some (.iload 5, 0) := by decide +kernel
theorem at_289_52 : am_at (am_m 289) 52 = some (.ifCond .lt 44, 96) := by decide +kernel
theorem at_289_55 : am_at (am_m 289) 55 = some (.iconst 4, 0) := by decide +kernel
theorem at_289_56 : am_at (am_m 289) 56 = some (.iload 5, 0) := by decide +kernel
theorem at_289_58 : am_at (am_m 289) 58 = some (.iadd, 0) := by decide +kernel
theorem at_289_59 : am_at (am_m 289) 59 = some (.aload_n 2, 0) := by decide +kernel
theorem at_289_60 : am_at (am_m 289) 60 = some (.arraylength, 0) := by decide +kernel
theorem at_289_61 : am_at (am_m 289) 61 = some (.if_icmp .ge 18, 79) := by decide +kernel
theorem at_289_64 : am_at (am_m 289) 64 = some (.aload_n 2, 0) := by decide +kernel
theorem at_289_65 : am_at (am_m 289) 65 = some (.iconst 4, 0) := by decide +kernel
theorem at_289_66 : am_at (am_m 289) 66 = some (.iload 5, 0) := by decide +kernel
theorem at_289_68 : am_at (am_m 289) 68 = some (.iadd, 0) := by decide +kernel
theorem at_289_69 : am_at (am_m 289) 69 = some (.aload_n 0, 0) := by decide +kernel
theorem at_289_70 : am_at (am_m 289) 70 = some (.getfield 52, 2569) := by decide +kernel
theorem at_289_73 : am_at (am_m 289) 73 = some (.iload 4, 0) := by decide +kernel
theorem at_289_75 : am_at (am_m 289) 75 = some (.iaload, 0) := by decide +kernel
theorem at_289_76 : am_at (am_m 289) 76 = some (.iconst 4, 0) := by decide +kernel
theorem at_289_77 : am_at (am_m 289) 77 = some (.irem, 0) := by decide +kernel
theorem at_289_78 : am_at (am_m 289) 78 = some (.iastore, 0) := by decide +kernel
theorem at_289_79 : am_at (am_m 289) 79 = some (.aload_n 0, 0) := by decide +kernel
theorem at_289_80 : am_at (am_m 289) 80 = some (.getfield 52, 2569) := by decide +kernel
theorem at_289_83 : am_at (am_m 289) 83 = some (.iload 4, 0) := by decide +kernel
theorem at_289_85 : am_at (am_m 289) 85 = some (.iaload, 0) := by decide +kernel
theorem at_289_86 : am_at (am_m 289) 86 = some (.iconst 4, 0) := by decide +kernel
theorem at_289_87 : am_at (am_m 289) 87 = some (.idiv, 0) := by decide +kernel
theorem at_289_88 : am_at (am_m 289) 88 = some (.istore 4, 0) := by decide +kernel
theorem at_289_90 : am_at (am_m 289) 90 = some (.iinc 5 (-1), 0) := by decide +kernel
theorem at_289_93 : am_at (am_m 289) 93 = some (.goto (-43), 50) := by decide +kernel
theorem at_289_96 : am_at (am_m 289) 96 = some (.return_, 0) := by decide +kernel
theorem at_290_0 : am_at (am_m 290) 0 = some (.aload_n 1, 0) := by decide +kernel
theorem at_290_1 : am_at (am_m 290) 1 = some (.getfield 161, 770) := by decide +kernel
theorem at_290_4 : am_at (am_m 290) 4 = some (.iconst 1, 0) := by decide +kernel
theorem at_290_5 : am_at (am_m 290) 5 = some (.isub, 0) := by decide +kernel
theorem at_290_6 : am_at (am_m 290) 6 = some (.iconst 2, 0) := by decide +kernel
theorem at_290_7 : am_at (am_m 290) 7 = some (.idiv, 0) := by decide +kernel
theorem at_290_8 : am_at (am_m 290) 8 = some (.istore 4, 0) := by decide +kernel
theorem at_290_10 : am_at (am_m 290) 10 = some (.iconst 0, 0) := by decide +kernel
theorem at_290_11 : am_at (am_m 290) 11 = some (.istore 5, 0) := by decide +kernel
theorem at_290_13 : am_at (am_m 290) 13 = some (.iload 5, 0) := by decide +kernel
theorem at_290_15 : am_at (am_m 290) 15 = some (.iconst 1, 0) := by decide +kernel
theorem at_290_16 : am_at (am_m 290) 16 = some (.aload_n 1, 0) := by decide +kernel
theorem at_290_17 : am_at (am_m 290) 17 = some (.getfield 161, 770) := by decide +kernel
theorem at_290_20 : am_at (am_m 290) 20 = some (.ishl, 0) := by decide +kernel
theorem at_290_21 : am_at (am_m 290) 21 = some (.if_icmp .ge 76, 97) := by decide +kernel
theorem at_290_24 : am_at (am_m 290) 24 = some (.aload_n 1, 0) := by decide +kernel
theorem at_290_25 : am_at (am_m 290) 25 = some (.iload 5, 0) := by decide +kernel
theorem at_290_27 : am_at (am_m 290) 27 = some (.invokestatic 164, 291) := by decide +kernel
theorem at_290_30 : am_at (am_m 290) 30 = some (.aload_n 2, 0) := by decide +kernel
theorem at_290_31 : am_at (am_m 290) 31 = some (.iload 5, 0) := by decide +kernel
theorem at_290_33 : am_at (am_m 290) 33 = some (.invokestatic 164, 291) := by decide +kernel
theorem at_290_36 : am_at (am_m 290) 36 = some (.ixor, 0) := by decide +kernel
theorem at_290_37 : am_at (am_m 290) 37 = some (.iload 4, 0) := by decide +kernel
theorem at_290_39 : am_at (am_m 290) 39 = some (.ishr, 0) := by decide +kernel
theorem at_290_40 : am_at (am_m 290) 40 = some (.iconst 1, 0) := by decide +kernel
theorem at_290_41 : am_at (am_m 290) 41 = some (.iand, 0) := by decide +kernel
theorem at_290_42 : am_at (am_m 290) 42 = some (.iconst 1, 0) := by decide +kernel
theorem at_290_43 : am_at (am_m 290) 43 = some (.if_icmp .ne 48, 91) := by decide +kernel
theorem at_290_46 : am_at (am_m 290) 46 = some (.aload_n 3, 0) := by decide +kernel
theorem at_290_47 : am_at (am_m 290) 47 = some (.iconst 0, 0) := by decide +kernel
theorem at_290_48 : am_at (am_m 290) 48 = some (.invokestatic 143, 53) := by decide +kernel
theorem at_290_51 : am_at (am_m 290) 51 = some (.aload_n 3, 0) := by decide +kernel
theorem at_290_52 : am_at (am_m 290) 52 = some (.iconst 3, 0) := by decide +kernel
theorem at_290_53 : am_at (am_m 290) 53 = some (.aload_n 1, 0) := by decide +kernel
theorem at_290_54 : am_at (am_m 290) 54 = some (.getfield 161, 770) := by decide +kernel
theorem at_290_57 : am_at (am_m 290) 57 = some (.iastore, 0) := by decide +kernel
theorem at_290_58 : am_at (am_m 290) 58 = some (.iconst 0, 0) := by decide +kernel
theorem at_290_59 : am_at (am_m 290) 59 = some (.istore 6, 0) := by decide +kernel
theorem at_290_61 : am_at (am_m 290) 61 = some (.iload 6, 0) := by decide +kernel
theorem at_290_63 : am_at (am_m 290) 63 = some (.aload_n 1, 0) := by decide +kernel
theorem at_290_64 : am_at (am_m 290) 64 = some (.getfield 161, 770) := by decide +kernel
theorem at_290_67 : am_at (am_m 290) 67 = some (.if_icmp .ge 22, 89) := by decide +kernel
theorem at_290_70 : am_at (am_m 290) 70 = some (.aload_n 3, 0) := by decide +kernel
theorem at_290_71 : am_at (am_m 290) 71 = some (.iconst 4, 0) := by decide +kernel
theorem at_290_72 : am_at (am_m 290) 72 = some (.iload 6, 0) := by decide +kernel
theorem at_290_74 : am_at (am_m 290) 74 = some (.iadd, 0) := by decide +kernel
theorem at_290_75 : am_at (am_m 290) 75 = some (.iload 5, 0) := by decide +kernel
theorem at_290_77 : am_at (am_m 290) 77 = some (.iload 6, 0) := by decide +kernel
theorem at_290_79 : am_at (am_m 290) 79 = some (.ishr, 0) := by decide +kernel
theorem at_290_80 : am_at (am_m 290) 80 = some (.iconst 1, 0) := by decide +kernel
theorem at_290_81 : am_at (am_m 290) 81 = some (.iand, 0) := by decide +kernel
theorem at_290_82 : am_at (am_m 290) 82 = some (.iastore, 0) := by decide +kernel
theorem at_290_83 : am_at (am_m 290) 83 = some (.iinc 6 1, 0) := by decide +kernel
theorem at_290_86 : am_at (am_m 290) 86 = some (.goto (-25), 61) := by decide +kernel
theorem at_290_89 : am_at (am_m 290) 89 = some (.iconst 1, 0) := by decide +kernel
theorem at_290_90 : am_at (am_m 290) 90 = some (.ireturn, 0) := by decide +kernel
theorem at_290_91 : am_at (am_m 290) 91 = some (.iinc 5 1, 0) := by decide +kernel
theorem at_290_94 : am_at (am_m 290) 94 = some (.goto (-81), 13) := by decide +kernel
theorem at_290_97 : am_at (am_m 290) 97 = some (.iconst 0, 0) := by decide +kernel
theorem at_290_98 : am_at (am_m 290) 98 = some (.ireturn, 0) := by decide +kernel
theorem at_291_0 : am_at (am_m 291) 0 = some (.iload_n 1, 0) := by decide +kernel
theorem at_291_1 : am_at (am_m 291) 1 = some (.istore_n 2, 0) := by decide +kernel
theorem at_291_2 : am_at (am_m 291) 2 = some (.iconst 0, 0) := by decide +kernel
theorem at_291_3 : am_at (am_m 291) 3 = some (.istore_n 3, 0) := by decide +kernel
theorem at_291_4 : am_at (am_m 291) 4 = some (.iload_n 3, 0) := by decide +kernel
theorem at_291_5 : am_at (am_m 291) 5 = some (.aload_n 0, 0) := by decide +kernel
theorem at_291_6 : am_at (am_m 291) 6 = some (.getfield 62, 771) := by decide +kernel
theorem at_291_9 : am_at (am_m 291) 9 = some (.if_icmp .ge 26, 35) := by decide +kernel
theorem at_291_12 : am_at (am_m 291) 12 = some (.iload_n 2, 0) := by decide +kernel
theorem at_291_13 : am_at (am_m 291) 13 = some (.aload_n 0, 0) := by decide +kernel
theorem at_291_14 : am_at (am_m 291) 14 = some (.iload_n 3, 0) := by decide +kernel
theorem at_291_15 : am_at (am_m 291) 15 = some (.iconst 0, 0) := by decide +kernel
theorem at_291_16 : am_at (am_m 291) 16 = some (.invokevirtual 83, 54) := by decide +kernel
theorem at_291_19 : am_at (am_m 291) 19 = some (.aload_n 0, 0) := by decide +kernel
theorem at_291_20 : am_at (am_m 291) 20 = some (.iload_n 3, 0) := by decide +kernel
theorem at_291_21 : am_at (am_m 291) 21 = some (.iconst 1, 0) := by decide +kernel
theorem at_291_22 : am_at (am_m 291) 22 = some (.invokevirtual 83, 54) := by decide +kernel
theorem at_291_25 : am_at (am_m 291) 25 = some (.invokestatic 157, 292) := by decide +kernel
theorem at_291_28 : am_at (am_m 291) 28 = some (.istore_n 2, 0) := by decide +kernel
theorem at_291_29 : am_at (am_m 291) 29 = some (.iinc 3 1, 0) := by decide +kernel
theorem at_291_32 : am_at (am_m 291) 32 = some (.goto (-28), 4) := by decide +kernel
theorem at_291_35 : am_at (am_m 291) 35 = some (.iload_n 2, 0) := by decide +kernel
theorem at_291_36 : am_at (am_m 291) 36 = some (.ireturn, 0) := by decide +kernel
theorem at_292_0 : am_at (am_m 292) 0 = some (.iload_n 0, 0) := by decide +kernel
theorem at_292_1 : am_at (am_m 292) 1 = some (.iload_n 1, 0) := by decide +kernel
theorem at_292_2 : am_at (am_m 292) 2 = some (.ishr, 0) := by decide +kernel
theorem at_292_3 : am_at (am_m 292) 3 = some (.iconst 1, 0) := by decide +kernel
theorem at_292_4 : am_at (am_m 292) 4 = some (.iand, 0) := by decide +kernel
theorem at_292_5 : am_at (am_m 292) 5 = some (.iload_n 0, 0) := by decide +kernel
theorem at_292_6 : am_at (am_m 292) 6 = some (.iload_n 2, 0) := by decide +kernel
theorem at_292_7 : am_at (am_m 292) 7 = some (.ishr, 0) := by decide +kernel
theorem at_292_8 : am_at (am_m 292) 8 = some (.iconst 1, 0) := by decide +kernel
theorem at_292_9 : am_at (am_m 292) 9 = some (.iand, 0) := by decide +kernel
theorem at_292_10 : am_at (am_m 292) 10 = some (.if_icmp .le 15, 25) := by decide +kernel
theorem at_292_13 : am_at (am_m 292) 13 = some (.iload_n 0, 0) := by decide +kernel
theorem at_292_14 : am_at (am_m 292) 14 = some (.iconst 1, 0) := by decide +kernel
theorem at_292_15 : am_at (am_m 292) 15 = some (.iload_n 1, 0) := by decide +kernel
theorem at_292_16 : am_at (am_m 292) 16 = some (.ishl, 0) := by decide +kernel
theorem at_292_17 : am_at (am_m 292) 17 = some (.iconst 1, 0) := by decide +kernel
theorem at_292_18 : am_at (am_m 292) 18 = some (.iload_n 2, 0) := by decide +kernel
theorem at_292_19 : am_at (am_m 292) 19 = some (.ishl, 0) := by decide +kernel
theorem at_292_20 : am_at (am_m 292) 20 = some (.ior, 0) := by decide +kernel
theorem at_292_21 : am_at (am_m 292) 21 = some (.ixor, 0) := by decide +kernel
theorem at_292_22 : am_at (am_m 292) 22 = some (.goto 4, 26) := by decide +kernel
theorem at_292_25 : am_at (am_m 292) 25 = some (.iload_n 0, 0) := by decide +kernel
theorem at_292_26 : am_at (am_m 292) 26 = some (.ireturn, 0) := by decide +kernel
theorem at_293_0 : am_at (am_m 293) 0 = some (.aload_n 1, 0) := by decide +kernel
theorem at_293_1 : am_at (am_m 293) 1 = some (.getfield 107, 769) := by decide +kernel
theorem at_293_4 : am_at (am_m 293) 4 = some (.ifCond .ne 10, 14) := by decide +kernel
theorem at_293_7 : am_at (am_m 293) 7 = some (.aload_n 2, 0) := by decide +kernel
theorem at_293_8 : am_at (am_m 293) 8 = some (.aload_n 1, 0) := by decide +kernel
theorem at_293_9 : am_at (am_m 293) 9 = some (.invokevirtual 110, 60) := by decide +kernel
theorem at_293_12 : am_at (am_m 293) 12 = some (.iconst 1, 0) := by decide +kernel
theorem at_293_13 : am_at (am_m 293) 13 = some (.ireturn, 0) := by decide +kernel
theorem at_293_14 : am_at (am_m 293) 14 = some (.aload_n 1, 0) := by decide +kernel
theorem at_293_15 : am_at (am_m 293) 15 = some (.getfield 107, 769) := by decide +kernel
theorem at_293_18 : am_at (am_m 293) 18 = some (.iconst 1, 0) := by decide +kernel
theorem at_293_19 : am_at (am_m 293) 19 = some (.if_icmp .eq 5, 24) := by decide +kernel
theorem at_293_22 : am_at (am_m 293) 22 = some (.iconst 0, 0) := by decide +kernel
theorem at_293_23 : am_at (am_m 293) 23 = some (.ireturn, 0) := by decide +kernel
theorem at_293_24 : am_at (am_m 293) 24 = some (.aload_n 0, 0) := by decide +kernel
theorem at_293_25 : am_at (am_m 293) 25 = some (.iconst 0, 0) := by decide +kernel
theorem at_293_26 : am_at (am_m 293) 26 = some (.putfield 31, 2563) := by decide +kernel
theorem at_293_29 : am_at (am_m 293) 29 = some (.iconst 0, 0) := by decide +kernel
theorem at_293_30 : am_at (am_m 293) 30 = some (.istore_n 3, 0) := by decide +kernel
theorem at_293_31 : am_at (am_m 293) 31 = some (.iload_n 3, 0) := by decide +kernel
theorem at_293_32 : am_at (am_m 293) 32 = some (.aload_n 1, 0) := by decide +kernel
theorem at_293_33 : am_at (am_m 293) 33 = some (.getfield 62, 771) := by decide +kernel
theorem at_293_36 : am_at (am_m 293) 36 = some (.if_icmp .ge 30, 66) := by decide +kernel
theorem at_293_39 : am_at (am_m 293) 39 = some (.aload_n 0, 0) := by decide +kernel
theorem at_293_40 : am_at (am_m 293) 40 = some (.aload_n 1, 0) := by decide +kernel
theorem at_293_41 : am_at (am_m 293) 41 = some (.iload_n 3, 0) := by decide +kernel
theorem at_293_42 : am_at (am_m 293) 42 = some (.iconst 0, 0) := by decide +kernel
theorem at_293_43 : am_at (am_m 293) 43 = some (.invokevirtual 83, 54) := by decide +kernel
theorem at_293_46 : am_at (am_m 293) 46 = some (.aload_n 1, 0) := by decide +kernel
theorem at_293_47 : am_at (am_m 293) 47 = some (.iload_n 3, 0) := by decide +kernel
theorem at_293_48 : am_at (am_m 293) 48 = some (.iconst 1, 0) := by decide +kernel
theorem at_293_49 : am_at (am_m 293) 49 = some (.invokevirtual 83, 54) := by decide +kernel
theorem at_293_52 : am_at (am_m 293) 52 = some (.invokevirtual 113, 294) := by decide +kernel
theorem at_293_55 : am_at (am_m 293) 55 = some (.ifCond .ne 5, 60) := by decide +kernel
theorem at_293_58 : am_at (am_m 293) 58 = some (.iconst 0, 0) := by decide +kernel
theorem at_293_59 : am_at (am_m 293) 59 = some (.ireturn, 0) := by decide +kernel
theorem at_293_60 : am_at (am_m 293) 60 = some (.iinc 3 1, 0) := by decide +kernel
theorem at_293_63 : am_at (am_m 293) 63 = some (.goto (-32), 31) := by decide +kernel
theorem at_293_66 : am_at (am_m 293) 66 = some (.aload_n 2, 0) := by decide +kernel
theorem at_293_67 : am_at (am_m 293) 67 = some (.iconst 0, 0) := by decide +kernel
theorem at_293_68 : am_at (am_m 293) 68 = some (.iconst 0, 0) := by decide +kernel
theorem at_293_69 : am_at (am_m 293) 69 = some (.invokevirtual 71, 34) := by decide +kernel
theorem at_293_72 : am_at (am_m 293) 72 = some (.aload_n 0, 0) := by decide +kernel
theorem at_293_73 : am_at (am_m 293) 73 = some (.getfield 31, 2563) := by decide +kernel
theorem at_293_76 : am_at (am_m 293) 76 = some (.iconst 1, 0) := by decide +kernel
theorem at_293_77 : am_at (am_m 293) 77 = some (.if_icmp .ne 30, 107) := by decide +kernel
theorem at_293_80 : am_at (am_m 293) 80 = some (.aload_n 2, 0) := by decide +kernel
theorem at_293_81 : am_at (am_m 293) 81 = some (.aload_n 0, 0) := by decide +kernel
theorem at_293_82 : am_at (am_m 293) 82 = some (.getfield 20, 2561) := by decide +kernel
theorem at_293_85 : am_at (am_m 293) 85 = some (.iconst 0, 0) := by decide +kernel
theorem at_293_86 : am_at (am_m 293) 86 = some (.aaload, 0) := by decide +kernel
theorem at_293_87 : am_at (am_m 293) 87 = some (.invokestatic 116, 295) := by decide +kernel
theorem at_293_90 : am_at (am_m 293) 90 = some (.ifCond .eq 17, 107) := by decide +kernel
theorem at_293_93 : am_at (am_m 293) 93 = some (.aload_n 0, 0) := by decide +kernel
theorem at_293_94 : am_at (am_m 293) 94 = some (.aload_n 2, 0) := by decide +kernel
theorem at_293_95 : am_at (am_m 293) 95 = some (.invokevirtual 120, 75) := by decide +kernel
theorem at_293_98 : am_at (am_m 293) 98 = some (.bipush 12, 0) := by decide +kernel
theorem at_293_100 : am_at (am_m 293) 100 = some (.if_icmp .gt 7, 107) := by decide +kernel
theorem at_293_103 : am_at (am_m 293) 103 = some (.iconst 1, 0) := by decide +kernel
theorem at_293_104 : am_at (am_m 293) 104 = some (.goto 4, 108) := by decide +kernel
theorem at_293_107 : am_at (am_m 293) 107 = some (.iconst 0, 0) := by decide +kernel
theorem at_293_108 : am_at (am_m 293) 108 = some (.ireturn, 0) := by decide +kernel
theorem at_294_0 : am_at (am_m 294) 0 = some (.aload_n 0, 0) := by decide +kernel
theorem at_294_1 : am_at (am_m 294) 1 = some (.getfield 31, 2563) := by decide +kernel
theorem at_294_4 : am_at (am_m 294) 4 = some (.iload_n 1, 0) := by decide +kernel
theorem at_294_5 : am_at (am_m 294) 5 = some (.invokestatic 123, 56) := by decide +kernel
theorem at_294_8 : am_at (am_m 294) 8 = some (.if_icmp .lt 23, 31) := by decide +kernel
theorem at_294_11 : am_at (am_m 294) 11 = some (.aload_n 0, 0) := by decide +kernel
theorem at_294_12 : am_at (am_m 294) 12 = some (.getfield 31, 2563) := by decide +kernel
theorem at_294_15 : am_at (am_m 294) 15 = some (.iload_n 1, 0) := by decide +kernel
theorem at_294_16 : am_at (am_m 294) 16 = some (.invokestatic 126, 55) := by decide +kernel
theorem at_294_19 : am_at (am_m 294) 19 = some (.iadd, 0) := by decide +kernel
theorem at_294_20 : am_at (am_m 294) 20 = some (.bipush 8, 0) := by decide +kernel
theorem at_294_22 : am_at (am_m 294) 22 = some (.if_icmp .gt 9, 31) := by decide +kernel
theorem at_294_25 : am_at (am_m 294) 25 = some (.iload_n 1, 0) := by decide +kernel
theorem at_294_26 : am_at (am_m 294) 26 = some (.bipush 17, 0) := by decide +kernel
theorem at_294_28 : am_at (am_m 294) 28 = some (.if_icmp .lt 5, 33) := by decide +kernel
theorem at_294_31 : am_at (am_m 294) 31 = some (.iconst 0, 0) := by decide +kernel
theorem at_294_32 : am_at (am_m 294) 32 = some (.ireturn, 0) := by decide +kernel
theorem at_294_33 : am_at (am_m 294) 33 = some (.iload_n 1, 0) := by decide +kernel
theorem at_294_34 : am_at (am_m 294) 34 = some (.iconst 4, 0) := by decide +kernel
theorem at_294_35 : am_at (am_m 294) 35 = some (.if_icmp .gt 35, 70) := by decide +kernel
theorem at_294_38 : am_at (am_m 294) 38 = some (.aload_n 0, 0) := by decide +kernel
theorem at_294_39 : am_at (am_m 294) 39 = some (.getfield 20, 2561) := by decide +kernel
theorem at_294_42 : am_at (am_m 294) 42 = some (.aload_n 0, 0) := by decide +kernel
theorem at_294_43 : am_at (am_m 294) 43 = some (.getfield 31, 2563) := by decide +kernel
theorem at_294_46 : am_at (am_m 294) 46 = some (.aaload, 0) := by decide +kernel
theorem at_294_47 : am_at (am_m 294) 47 = some (.iconst 0, 0) := by decide +kernel
theorem at_294_48 : am_at (am_m 294) 48 = some (.iconst 0, 0) := by decide +kernel
theorem at_294_49 : am_at (am_m 294) 49 = some (.invokevirtual 71, 34) := by decide +kernel
theorem at_294_52 : am_at (am_m 294) 52 = some (.aload_n 0, 0) := by decide +kernel
theorem at_294_53 : am_at (am_m 294) 53 = some (.getfield 20, 2561) := by decide +kernel
theorem at_294_56 : am_at (am_m 294) 56 = some (.aload_n 0, 0) := by decide +kernel
theorem at_294_57 : am_at (am_m 294) 57 = some (.getfield 31, 2563) := by decide +kernel
theorem at_294_60 : am_at (am_m 294) 60 = some (.aaload, 0) := by decide +kernel
theorem at_294_61 : am_at (am_m 294) 61 = some (.iload_n 1, 0) := by decide +kernel
theorem at_294_62 : am_at (am_m 294) 62 = some (.iload_n 2, 0) := by decide +kernel
theorem at_294_63 : am_at (am_m 294) 63 = some (.invokevirtual 87, 41) := by decide +kernel
theorem at_294_66 : am_at (am_m 294) 66 = some (.pop, 0) := by decide +kernel
theorem at_294_67 : am_at (am_m 294) 67 = some (.goto 285, 352) := by decide +kernel
theorem at_294_70 : am_at (am_m 294) 70 = some (.iload_n 1, 0) := by decide +kernel
theorem at_294_71 : am_at (am_m 294) 71 = some (.bipush 13, 0) := by decide +kernel
theorem at_294_73 : am_at (am_m 294) 73 = some (.if_icmp .gt 123, 196) := by decide +kernel
theorem at_294_76 : am_at (am_m 294) 76 = some (.iload_n 1, 0) := by decide +kernel
theorem at_294_77 : am_at (am_m 294) 77 = some (.invokestatic 123, 56) := by decide +kernel
theorem at_294_80 : am_at (am_m 294) 80 = some (.istore_n 3, 0) := by decide +kernel
theorem at_294_81 : am_at (am_m 294) 81 = some (.aload_n 0, 0) := by decide +kernel
theorem at_294_82 : am_at (am_m 294) 82 = some (.getfield 27, 2562) := by decide +kernel
theorem at_294_85 : am_at (am_m 294) 85 = some (.iconst 0, 0) := by decide +kernel
theorem at_294_86 : am_at (am_m 294) 86 = some (.iconst 0, 0) := by decide +kernel
theorem at_294_87 : am_at (am_m 294) 87 = some (.invokevirtual 71, 34) := by decide +kernel
theorem at_294_90 : am_at (am_m 294) 90 = some (.aload_n 0, 0) := by decide +kernel
theorem at_294_91 : am_at (am_m 294) 91 = some (.getfield 27, 2562) := by decide +kernel
theorem at_294_94 : am_at (am_m 294) 94 = some (.iload_n 3, 0) := by decide +kernel
theorem at_294_95 : am_at (am_m 294) 95 = some (.iconst 1, 0) := by decide +kernel
theorem at_294_96 : am_at (am_m 294) 96 = some (.if_icmp .ne 9, 105) := by decide +kernel
theorem at_294_99 : am_at (am_m 294) 99 = some (.iload_n 1, 0) := by decide +kernel
theorem at_294_100 : am_at (am_m 294) 100 = some (.iconst 2, 0) := by decide +kernel
theorem at_294_101 : am_at (am_m 294) 101 = some (.iadd, 0) := by decide +kernel
theorem at_294_102 : am_at (am_m 294) 102 = some (.goto 6, 108) := by decide +kernel
theorem at_294_105 : am_at (am_m 294) 105 = some (.iload_n 1, 0) := by decide +kernel
theorem at_294_106 : am_at (am_m 294) 106 = some (.iconst 3, 0) := by decide +kernel
theorem at_294_107 : am_at (am_m 294) 107 = some (.iadd, 0) := by decide +kernel
theorem at_294_108 : am_at (am_m 294) 108 = some (.iconst 0, 0) := by decide +kernel
theorem at_294_109 : am_at (am_m 294) 109 = some (.invokevirtual 87, 41) := by decide +kernel
theorem at_294_112 : am_at (am_m 294) 112 = some (.pop, 0) := by decide +kernel
theorem at_294_113 : am_at (am_m 294) 113 = some (.aload_n 0, 0) := by decide +kernel
theorem at_294_114 : am_at (am_m 294) 114 = some (.getfield 27, 2562) := by decide +kernel
theorem at_294_117 : am_at (am_m 294) 117 = some (.aload_n 0, 0) := by decide +kernel
theorem at_294_118 : am_at (am_m 294) 118 = some (.getfield 20, 2561) := by decide +kernel
theorem at_294_121 : am_at (am_m 294) 121 = some (.aload_n 0, 0) := by decide +kernel
theorem at_294_122 : am_at (am_m 294) 122 = some (.getfield 31, 2563) := by decide +kernel
theorem at_294_125 : am_at (am_m 294) 125 = some (.iload_n 3, 0) := by decide +kernel
theorem at_294_126 : am_at (am_m 294) 126 = some (.isub, 0) := by decide +kernel
theorem at_294_127 : am_at (am_m 294) 127 = some (.aaload, 0) := by decide +kernel
theorem at_294_128 : am_at (am_m 294) 128 = some (.invokestatic 116, 295) := by decide +kernel
theorem at_294_131 : am_at (am_m 294) 131 = some (.ifCond .eq 42, 173) := by decide +kernel
theorem at_294_134 : am_at (am_m 294) 134 = some (.iload_n 3, 0) := by decide +kernel
theorem at_294_135 : am_at (am_m 294) 135 = some (.iconst 2, 0) := by decide +kernel
theorem at_294_136 : am_at (am_m 294) 136 = some (.if_icmp .ne 24, 160) := by decide +kernel
theorem at_294_139 : am_at (am_m 294) 139 = some (.aload_n 0, 0) := by decide +kernel
theorem at_294_140 : am_at (am_m 294) 140 = some (.getfield 27, 2562) := by decide +kernel
theorem at_294_143 : am_at (am_m 294) 143 = some (.aload_n 0, 0) := by decide +kernel
theorem at_294_144 : am_at (am_m 294) 144 = some (.getfield 20, 2561) := by decide +kernel
theorem at_294_147 : am_at (am_m 294) 147 = some (.aload_n 0, 0) := by decide +kernel
theorem at_294_148 : am_at (am_m 294) 148 = some (.getfield 31, 2563) := by decide +kernel
theorem at_294_151 : am_at (am_m 294) 151 = some (.iconst 1, 0) := by decide +kernel
theorem at_294_152 : am_at (am_m 294) 152 = some (.isub, 0) := by decide +kernel
theorem at_294_153 : am_at (am_m 294) 153 = some (.aaload, 0) := by decide +kernel
theorem at_294_154 : am_at (am_m 294) 154 = some (.invokestatic 116, 295) := by decide +kernel
theorem at_294_157 : am_at (am_m 294) 157 = some (.ifCond .eq 16, 173) := by decide +kernel
theorem at_294_160 : am_at (am_m 294) 160 = some (.aload_n 0, 0) := by decide +kernel
theorem at_294_161 : am_at (am_m 294) 161 = some (.aload_n 0, 0) := by decide +kernel
theorem at_294_162 : am_at (am_m 294) 162 = some (.getfield 27, 2562) := by decide +kernel
theorem at_294_165 : am_at (am_m 294) 165 = some (.invokevirtual 120, 75) := by decide +kernel
theorem at_294_168 : am_at (am_m 294) 168 = some (.bipush 12, 0) := by decide +kernel
theorem at_294_170 : am_at (am_m 294) 170 = some (.if_icmp .le 5, 175) := by decide +kernel
theorem at_294_173 : am_at (am_m 294) 173 = some (.iconst 0, 0) := by decide +kernel
theorem at_294_174 : am_at (am_m 294) 174 = some (.ireturn, 0) := by decide +kernel
theorem at_294_175 : am_at (am_m 294) 175 = some (.aload_n 0, 0) := by decide +kernel
theorem at_294_176 : am_at (am_m 294) 176 = some (.getfield 20, 2561) := by decide +kernel
theorem at_294_179 : am_at (am_m 294) 179 = some (.aload_n 0, 0) := by decide +kernel
theorem at_294_180 : am_at (am_m 294) 180 = some (.getfield 31, 2563) := by decide +kernel
theorem at_294_183 : am_at (am_m 294) 183 = some (.iload_n 3, 0) := by decide +kernel
theorem at_294_184 : am_at (am_m 294) 184 = some (.isub, 0) := by decide +kernel
theorem at_294_185 : am_at (am_m 294) 185 = some (.aaload, 0) := by decide +kernel
theorem at_294_186 : am_at (am_m 294) 186 = some (.aload_n 0, 0) := by decide +kernel
theorem at_294_187 : am_at (am_m 294) 187 = some (.getfield 27, 2562) := by decide +kernel
theorem at_294_190 : am_at (am_m 294) 190 = some (.invokevirtual 110, 60) := by decide +kernel
theorem at_294_193 : am_at (am_m 294) 193 = some (.goto 159, 352) := by decide +kernel
theorem at_294_196 : am_at (am_m 294) 196 = some (.iload_n 1, 0) := by decide +kernel
theorem at_294_197 : am_at (am_m 294) 197 = some (.bipush 14, 0) := by decide +kernel
theorem at_294_199 : am_at (am_m 294) 199 = some (.if_icmp .ne 29, 228) := by decide +kernel
theorem at_294_202 : am_at (am_m 294) 202 = some (.aload_n 0, 0) := by decide +kernel
theorem at_294_203 : am_at (am_m 294) 203 = some (.getfield 20, 2561) := by decide +kernel
theorem at_294_206 : am_at (am_m 294) 206 = some (.aload_n 0, 0) := by decide +kernel
theorem at_294_207 : am_at (am_m 294) 207 = some (.getfield 31, 2563) := by decide +kernel
theorem at_294_210 : am_at (am_m 294) 210 = some (.aaload, 0) := by decide +kernel
theorem at_294_211 : am_at (am_m 294) 211 = some (.aload_n 0, 0) := by decide +kernel
theorem at_294_212 : am_at (am_m 294) 212 = some (.getfield 20, 2561) := by decide +kernel
theorem at_294_215 : am_at (am_m 294) 215 = some (.aload_n 0, 0) := by decide +kernel
theorem at_294_216 : am_at (am_m 294) 216 = some (.getfield 31, 2563) := by decide +kernel
theorem at_294_219 : am_at (am_m 294) 219 = some (.iconst 1, 0) := by decide +kernel
theorem at_294_220 : am_at (am_m 294) 220 = some (.isub, 0) := by decide +kernel
theorem at_294_221 : am_at (am_m 294) 221 = some (.aaload, 0) := by decide +kernel
theorem at_294_222 : am_at (am_m 294) 222 = some (.invokevirtual 110, 60) := by decide +kernel
theorem at_294_225 : am_at (am_m 294) 225 = some (.goto 127, 352) := by decide +kernel
theorem at_294_228 : am_at (am_m 294) 228 = some (.aload_n 0, 0) := by decide +kernel
theorem at_294_229 : am_at (am_m 294) 229 = some (.getfield 20, 2561) := by decide +kernel
theorem at_294_232 : am_at (am_m 294) 232 = some (.aload_n 0, 0) := by decide +kernel
theorem at_294_233 : am_at (am_m 294) 233 = some (.getfield 31, 2563) := by decide +kernel
theorem at_294_236 : am_at (am_m 294) 236 = some (.iconst 1, 0) := by decide +kernel
theorem at_294_237 : am_at (am_m 294) 237 = some (.isub, 0) := by decide +kernel
theorem at_294_238 : am_at (am_m 294) 238 = some (.aaload, 0) := by decide +kernel
theorem at_294_239 : am_at (am_m 294) 239 = some (.iconst 0, 0) := by decide +kernel
theorem at_294_240 : am_at (am_m 294) 240 = some (.aload_n 0, 0) := by decide +kernel
theorem at_294_241 : am_at (am_m 294) 241 = some (.getfield 20, 2561) := by decide +kernel
theorem at_294_244 : am_at (am_m 294) 244 = some (.aload_n 0, 0) := by decide +kernel
theorem at_294_245 : am_at (am_m 294) 245 = some (.getfield 31, 2563) := by decide +kernel
theorem at_294_248 : am_at (am_m 294) 248 = some (.iconst 1, 0) := by decide +kernel
theorem at_294_249 : am_at (am_m 294) 249 = some (.isub, 0) := by decide +kernel
theorem at_294_250 : am_at (am_m 294) 250 = some (.aaload, 0) := by decide +kernel
theorem at_294_251 : am_at (am_m 294) 251 = some (.getfield 62, 771) := by decide +kernel
theorem at_294_254 : am_at (am_m 294) 254 = some (.invokevirtual 129, 279) := by decide +kernel
theorem at_294_257 : am_at (am_m 294) 257 = some (.ifCond .ne 43, 300) := by decide +kernel
theorem at_294_260 : am_at (am_m 294) 260 = some (.iload_n 1, 0) := by decide +kernel
theorem at_294_261 : am_at (am_m 294) 261 = some (.bipush 16, 0) := by decide +kernel
theorem at_294_263 : am_at (am_m 294) 263 = some (.if_icmp .eq 35, 298) := by decide +kernel
theorem at_294_266 : am_at (am_m 294) 266 = some (.aload_n 0, 0) := by decide +kernel
theorem at_294_267 : am_at (am_m 294) 267 = some (.getfield 20, 2561) := by decide +kernel
theorem at_294_270 : am_at (am_m 294) 270 = some (.aload_n 0, 0) := by decide +kernel
theorem at_294_271 : am_at (am_m 294) 271 = some (.getfield 31, 2563) := by decide +kernel
theorem at_294_274 : am_at (am_m 294) 274 = some (.iconst 2, 0) := by decide +kernel
theorem at_294_275 : am_at (am_m 294) 275 = some (.isub, 0) := by decide +kernel
theorem at_294_276 : am_at (am_m 294) 276 = some (.aaload, 0) := by decide +kernel
theorem at_294_277 : am_at (am_m 294) 277 = some (.iconst 0, 0) := by decide +kernel
theorem at_294_278 : am_at (am_m 294) 278 = some (.aload_n 0, 0) := by decide +kernel
theorem at_294_279 : am_at (am_m 294) 279 = some (.getfield 20, 2561) := by decide +kernel
theorem at_294_282 : am_at (am_m 294) 282 = some (.aload_n 0, 0) := by decide +kernel
theorem at_294_283 : am_at (am_m 294) 283 = some (.getfield 31, 2563) := by decide +kernel
theorem at_294_286 : am_at (am_m 294) 286 = some (.iconst 2, 0) := by decide +kernel
theorem at_294_287 : am_at (am_m 294) 287 = some (.isub, 0) := by decide +kernel
theorem at_294_288 : am_at (am_m 294) 288 = some (.aaload, 0) := by decide +kernel
theorem at_294_289 : am_at (am_m 294) 289 = some (.getfield 62, 771) := by decide +kernel
theorem at_294_292 : am_at (am_m 294) 292 = some (.invokevirtual 129, 279) := by decide +kernel
theorem at_294_295 : am_at (am_m 294) 295 = some (.ifCond .ne 5, 300) := by decide +kernel
theorem at_294_298 : am_at (am_m 294) 298 = some (.iconst 0, 0) := by decide +kernel
theorem at_294_299 : am_at (am_m 294) 299 = some (.ireturn, 0) := by decide +kernel
theorem at_294_300 : am_at (am_m 294) 300 = some (.iload_n 1, 0) := by decide +kernel
theorem at_294_301 : am_at (am_m 294) 301 = some (.bipush 15, 0) := by decide +kernel
theorem at_294_303 : am_at (am_m 294) 303 = some (.if_icmp .ne 49, 352) := by decide +kernel
theorem at_294_306 : am_at (am_m 294) 306 = some (.aload_n 0, 0) := by decide +kernel
theorem at_294_307 : am_at (am_m 294) 307 = some (.getfield 20, 2561) := by decide +kernel
theorem at_294_310 : am_at (am_m 294) 310 = some (.aload_n 0, 0) := by decide +kernel
theorem at_294_311 : am_at (am_m 294) 311 = some (.getfield 31, 2563) := by decide +kernel
theorem at_294_314 : am_at (am_m 294) 314 = some (.iconst 1, 0) := by decide +kernel
theorem at_294_315 : am_at (am_m 294) 315 = some (.isub, 0) := by decide +kernel
theorem at_294_316 : am_at (am_m 294) 316 = some (.aaload, 0) := by decide +kernel
theorem at_294_317 : am_at (am_m 294) 317 = some (.astore_n 3, 0) := by decide +kernel
theorem at_294_318 : am_at (am_m 294) 318 = some (.aload_n 0, 0) := by decide +kernel
theorem at_294_319 : am_at (am_m 294) 319 = some (.getfield 20, 2561) := by decide +kernel
theorem at_294_322 : am_at (am_m 294) 322 = some (.aload_n 0, 0) := by decide +kernel
theorem at_294_323 : am_at (am_m 294) 323 = some (.getfield 31, 2563) := by decide +kernel
theorem at_294_326 : am_at (am_m 294) 326 = some (.iconst 1, 0) := by decide +kernel
theorem at_294_327 : am_at (am_m 294) 327 = some (.isub, 0) := by decide +kernel
theorem at_294_328 : am_at (am_m 294) 328 = some (.aload_n 0, 0) := by decide +kernel
theorem at_294_329 : am_at (am_m 294) 329 = some (.getfield 20, 2561) := by decide +kernel
theorem at_294_332 : am_at (am_m 294) 332 = some (.aload_n 0, 0) := by decide +kernel
theorem at_294_333 : am_at (am_m 294) 333 = some (.getfield 31, 2563) := by decide +kernel
theorem at_294_336 : am_at (am_m 294) 336 = some (.iconst 2, 0) := by decide +kernel
theorem at_294_337 : am_at (am_m 294) 337 = some (.isub, 0) := by decide +kernel
theorem at_294_338 : am_at (am_m 294) 338 = some (.aaload, 0) := by decide +kernel
theorem at_294_339 : am_at (am_m 294) 339 = some (.aastore, 0) := by decide +kernel
theorem at_294_340 : am_at (am_m 294) 340 = some (.aload_n 0, 0) := by decide +kernel
theorem at_294_341 : am_at (am_m 294) 341 = some (.getfield 20, 2561) := by decide +kernel
theorem at_294_344 : am_at (am_m 294) 344 = some (.aload_n 0, 0) := by decide +kernel
theorem at_294_345 : am_at (am_m 294) 345 = some (.getfield 31, 2563) := by decide +kernel
theorem at_294_348 : am_at (am_m 294) 348 = some (.iconst 2, 0) := by decide +kernel
theorem at_294_349 : am_at (am_m 294) 349 = some (.isub, 0) := by decide +kernel
theorem at_294_350 : am_at (am_m 294) 350 = some (.aload_n 3, 0) := by decide +kernel
theorem at_294_351 : am_at (am_m 294) 351 = some (.aastore, 0) := by decide +kernel
theorem at_294_352 : am_at (am_m 294) 352 = some (.aload_n 0, 0) := by decide +kernel
theorem at_294_353 : am_at (am_m 294) 353 = some (.dup, 0) := by decide +kernel
theorem at_294_354 : am_at (am_m 294) 354 = some (.getfield 31, 2563) := by decide +kernel
theorem at_294_357 : am_at (am_m 294) 357 = some (.iload_n 1, 0) := by decide +kernel
theorem at_294_358 : am_at (am_m 294) 358 = some (.invokestatic 126, 55) := by decide +kernel
theorem at_294_361 : am_at (am_m 294) 361 = some (.iadd, 0) := by decide +kernel
theorem at_294_362 : am_at (am_m 294) 362 = some (.putfield 31, 2563) := by decide +kernel
theorem at_294_365 : am_at (am_m 294) 365 = some (.iconst 1, 0) := by decide +kernel
theorem at_294_366 : am_at (am_m 294) 366 = some (.ireturn, 0) := by decide +kernel
theorem at_295_0 : am_at (am_m 295) 0 = some (.aload_n 1, 0) := by decide +kernel
theorem at_295_1 : am_at (am_m 295) 1 = some (.iconst 0, 0) := by decide +kernel
theorem at_295_2 : am_at (am_m 295) 2 = some (.iconst 0, 0) := by decide +kernel
theorem at_295_3 : am_at (am_m 295) 3 = some (.invokevirtual 83, 54) := by decide +kernel
theorem at_295_6 : am_at (am_m 295) 6 = some (.invokestatic 132, 11) := by decide +kernel
theorem at_295_9 : am_at (am_m 295) 9 = some (.ifCond .ne 14, 23) := by decide +kernel
theorem at_295_12 : am_at (am_m 295) 12 = some (.aload_n 0, 0) := by decide +kernel
theorem at_295_13 : am_at (am_m 295) 13 = some (.aload_n 1, 0) := by decide +kernel
theorem at_295_14 : am_at (am_m 295) 14 = some (.iconst 0, 0) := by decide +kernel
theorem at_295_15 : am_at (am_m 295) 15 = some (.aload_n 1, 0) := by decide +kernel
theorem at_295_16 : am_at (am_m 295) 16 = some (.getfield 62, 771) := by decide +kernel
theorem at_295_19 : am_at (am_m 295) 19 = some (.invokevirtual 136, 170) := by decide +kernel
theorem at_295_22 : am_at (am_m 295) 22 = some (.ireturn, 0) := by decide +kernel
theorem at_295_23 : am_at (am_m 295) 23 = some (.aload_n 0, 0) := by decide +kernel
theorem at_295_24 : am_at (am_m 295) 24 = some (.bipush 20, 0) := by decide +kernel
theorem at_295_26 : am_at (am_m 295) 26 = some (.iconst 0, 0) := by decide +kernel
theorem at_295_27 : am_at (am_m 295) 27 = some (.invokevirtual 87, 41) := by decide +kernel
theorem at_295_30 : am_at (am_m 295) 30 = some (.ifCond .eq 38, 68) := by decide +kernel
theorem at_295_33 : am_at (am_m 295) 33 = some (.aload_n 0, 0) := by decide +kernel
theorem at_295_34 : am_at (am_m 295) 34 = some (.aload_n 1, 0) := by decide +kernel
theorem at_295_35 : am_at (am_m 295) 35 = some (.iconst 0, 0) := by decide +kernel
theorem at_295_36 : am_at (am_m 295) 36 = some (.aload_n 1, 0) := by decide +kernel
theorem at_295_37 : am_at (am_m 295) 37 = some (.getfield 62, 771) := by decide +kernel
theorem at_295_40 : am_at (am_m 295) 40 = some (.invokevirtual 136, 170) := by decide +kernel
theorem at_295_43 : am_at (am_m 295) 43 = some (.ifCond .eq 25, 68) := by decide +kernel
theorem at_295_46 : am_at (am_m 295) 46 = some (.aload_n 0, 0) := by decide +kernel
theorem at_295_47 : am_at (am_m 295) 47 = some (.iconst 0, 0) := by decide +kernel
theorem at_295_48 : am_at (am_m 295) 48 = some (.iconst 1, 0) := by decide +kernel
theorem at_295_49 : am_at (am_m 295) 49 = some (.invokevirtual 87, 41) := by decide +kernel
theorem at_295_52 : am_at (am_m 295) 52 = some (.ifCond .eq 16, 68) := by decide +kernel
theorem at_295_55 : am_at (am_m 295) 55 = some (.aload_n 0, 0) := by decide +kernel
theorem at_295_56 : am_at (am_m 295) 56 = some (.iconst 0, 0) := by decide +kernel
theorem at_295_57 : am_at (am_m 295) 57 = some (.iconst 0, 0) := by decide +kernel
theorem at_295_58 : am_at (am_m 295) 58 = some (.invokevirtual 87, 41) := by decide +kernel
theorem at_295_61 : am_at (am_m 295) 61 = some (.ifCond .eq 7, 68) := by decide +kernel
theorem at_295_64 : am_at (am_m 295) 64 = some (.iconst 1, 0) := by decide +kernel
theorem at_295_65 : am_at (am_m 295) 65 = some (.goto 4, 69) := by decide +kernel
theorem at_295_68 : am_at (am_m 295) 68 = some (.iconst 0, 0) := by decide +kernel
theorem at_295_69 : am_at (am_m 295) 69 = some (.ireturn, 0) := by decide +kernel
theorem at_296_0 : am_at (am_m 296) 0 = some (.aload_n 0, 0) := by decide +kernel
theorem at_296_1 : am_at (am_m 296) 1 = some (.getfield 29, 2819) := by decide +kernel
theorem at_296_4 : am_at (am_m 296) 4 = some (.getfield 237, 514) := by decide +kernel
theorem at_296_7 : am_at (am_m 296) 7 = some (.aload_n 1, 0) := by decide +kernel
theorem at_296_8 : am_at (am_m 296) 8 = some (.invokevirtual 241, 115) := by decide +kernel
theorem at_296_11 : am_at (am_m 296) 11 = some (.aload_n 0, 0) := by decide +kernel
theorem at_296_12 : am_at (am_m 296) 12 = some (.getfield 29, 2819) := by decide +kernel
theorem at_296_15 : am_at (am_m 296) 15 = some (.getfield 555, 515) := by decide +kernel
theorem at_296_18 : am_at (am_m 296) 18 = some (.aload_n 2, 0) := by decide +kernel
theorem at_296_19 : am_at (am_m 296) 19 = some (.invokevirtual 241, 115) := by decide +kernel
theorem at_296_22 : am_at (am_m 296) 22 = some (.iconst 0, 0) := by decide +kernel
theorem at_296_23 : am_at (am_m 296) 23 = some (.istore_n 3, 0) := by decide +kernel
theorem at_296_24 : am_at (am_m 296) 24 = some (.iload_n 3, 0) := by decide +kernel
theorem at_296_25 : am_at (am_m 296) 25 = some (.aload_n 0, 0) := by decide +kernel
theorem at_296_26 : am_at (am_m 296) 26 = some (.getfield 29, 2819) := by decide +kernel
theorem at_296_29 : am_at (am_m 296) 29 = some (.getfield 210, 513) := by decide +kernel
theorem at_296_32 : am_at (am_m 296) 32 = some (.if_icmp .ge 46, 78) := by decide +kernel
theorem at_296_35 : am_at (am_m 296) 35 = some (.aload_n 0, 0) := by decide +kernel
theorem at_296_36 : am_at (am_m 296) 36 = some (.getfield 29, 2819) := by decide +kernel
theorem at_296_39 : am_at (am_m 296) 39 = some (.aload_n 0, 0) := by decide +kernel
theorem at_296_40 : am_at (am_m 296) 40 = some (.getfield 29, 2819) := by decide +kernel
theorem at_296_43 : am_at (am_m 296) 43 = some (.getfield 247, 512) := by decide +kernel
theorem at_296_46 : am_at (am_m 296) 46 = some (.iload_n 3, 0) := by decide +kernel
theorem at_296_47 : am_at (am_m 296) 47 = some (.bipush 15, 0) := by decide +kernel
theorem at_296_49 : am_at (am_m 296) 49 = some (.imul, 0) := by decide +kernel
theorem at_296_50 : am_at (am_m 296) 50 = some (.invokevirtual 557, 297) := by decide +kernel
theorem at_296_53 : am_at (am_m 296) 53 = some (.ifCond .eq 19, 72) := by decide +kernel
theorem at_296_56 : am_at (am_m 296) 56 = some (.aload_n 0, 0) := by decide +kernel
theorem at_296_57 : am_at (am_m 296) 57 = some (.aload_n 0, 0) := by decide +kernel
theorem at_296_58 : am_at (am_m 296) 58 = some (.getfield 29, 2819) := by decide +kernel
theorem at_296_61 : am_at (am_m 296) 61 = some (.getfield 247, 512) := by decide +kernel
theorem at_296_64 : am_at (am_m 296) 64 = some (.iload_n 3, 0) := by decide +kernel
theorem at_296_65 : am_at (am_m 296) 65 = some (.bipush 15, 0) := by decide +kernel
theorem at_296_67 : am_at (am_m 296) 67 = some (.imul, 0) := by decide +kernel
theorem at_296_68 : am_at (am_m 296) 68 = some (.invokevirtual 561, 298) := by decide +kernel
theorem at_296_71 : am_at (am_m 296) 71 = some (.ireturn, 0) := by decide +kernel
theorem at_296_72 : am_at (am_m 296) 72 = some (.iinc 3 1, 0) := by decide +kernel
theorem at_296_75 : am_at (am_m 296) 75 = some (.goto (-51), 24) := by decide +kernel
theorem at_296_78 : am_at (am_m 296) 78 = some (.iconst 0, 0) := by decide +kernel
theorem at_296_79 : am_at (am_m 296) 79 = some (.istore_n 3, 0) := by decide +kernel
theorem at_296_80 : am_at (am_m 296) 80 = some (.iload_n 3, 0) := by decide +kernel
theorem at_296_81 : am_at (am_m 296) 81 = some (.sipush 250, 0) := by decide +kernel
theorem at_296_84 : am_at (am_m 296) 84 = some (.if_icmp .ge 129, 213) := by decide +kernel
theorem at_296_87 : am_at (am_m 296) 87 = some (.aload_n 0, 0) := by decide +kernel
theorem at_296_88 : am_at (am_m 296) 88 = some (.getfield 75, 2827) := by decide +kernel
theorem at_296_91 : am_at (am_m 296) 91 = some (.iconst 0, 0) := by decide +kernel
theorem at_296_92 : am_at (am_m 296) 92 = some (.iload_n 3, 0) := by decide +kernel
theorem at_296_93 : am_at (am_m 296) 93 = some (.bipush 25, 0) := by decide +kernel
theorem at_296_95 : am_at (am_m 296) 95 = some (.idiv, 0) := by decide +kernel
theorem at_296_96 : am_at (am_m 296) 96 = some (.iconst 5, 0) := by decide +kernel
theorem at_296_97 : am_at (am_m 296) 97 = some (.irem, 0) := by decide +kernel
theorem at_296_98 : am_at (am_m 296) 98 = some (.iconst 2, 0) := by decide +kernel
theorem at_296_99 : am_at (am_m 296) 99 = some (.isub, 0) := by decide +kernel
theorem at_296_100 : am_at (am_m 296) 100 = some (.iastore, 0) := by decide +kernel
theorem at_296_101 : am_at (am_m 296) 101 = some (.aload_n 0, 0) := by decide +kernel
theorem at_296_102 : am_at (am_m 296) 102 = some (.getfield 75, 2827) := by decide +kernel
theorem at_296_105 : am_at (am_m 296) 105 = some (.iconst 1, 0) := by decide +kernel
theorem at_296_106 : am_at (am_m 296) 106 = some (.iload_n 3, 0) := by decide +kernel
theorem at_296_107 : am_at (am_m 296) 107 = some (.iconst 5, 0) := by decide +kernel
theorem at_296_108 : am_at (am_m 296) 108 = some (.idiv, 0) := by decide +kernel
theorem at_296_109 : am_at (am_m 296) 109 = some (.iconst 5, 0) := by decide +kernel
theorem at_296_110 : am_at (am_m 296) 110 = some (.irem, 0) := by decide +kernel
theorem at_296_111 : am_at (am_m 296) 111 = some (.iconst 2, 0) := by decide +kernel
theorem at_296_112 : am_at (am_m 296) 112 = some (.isub, 0) := by decide +kernel
theorem at_296_113 : am_at (am_m 296) 113 = some (.iastore, 0) := by decide +kernel
theorem at_296_114 : am_at (am_m 296) 114 = some (.aload_n 0, 0) := by decide +kernel
theorem at_296_115 : am_at (am_m 296) 115 = some (.getfield 75, 2827) := by decide +kernel
theorem at_296_118 : am_at (am_m 296) 118 = some (.iconst 2, 0) := by decide +kernel
theorem at_296_119 : am_at (am_m 296) 119 = some (.iload_n 3, 0) := by decide +kernel
theorem at_296_120 : am_at (am_m 296) 120 = some (.iconst 5, 0) := by decide +kernel
theorem at_296_121 : am_at (am_m 296) 121 = some (.irem, 0) := by decide +kernel
theorem at_296_122 : am_at (am_m 296) 122 = some (.iconst 2, 0) := by decide +kernel
theorem at_296_123 : am_at (am_m 296) 123 = some (.isub, 0) := by decide +kernel
theorem at_296_124 : am_at (am_m 296) 124 = some (.iastore, 0) := by decide +kernel
theorem at_296_125 : am_at (am_m 296) 125 = some (.aload_n 0, 0) := by decide +kernel
theorem at_296_126 : am_at (am_m 296) 126 = some (.getfield 75, 2827) := by decide +kernel
theorem at_296_129 : am_at (am_m 296) 129 = some (.bipush 6, 0) := by decide +kernel
theorem at_296_131 : am_at (am_m 296) 131 = some (.iload_n 3, 0) := by decide +kernel
theorem at_296_132 : am_at (am_m 296) 132 = some (.bipush 125, 0) := by decide +kernel
theorem at_296_134 : am_at (am_m 296) 134 = some (.if_icmp .ge 7, 141) := by decide +kernel
theorem at_296_137 : am_at (am_m 296) 137 = some (.iconst 0, 0) := by decide +kernel
theorem at_296_138 : am_at (am_m 296) 138 = some (.goto 4, 142) := by decide +kernel
theorem at_296_141 : am_at (am_m 296) 141 = some (.iconst 3, 0) := by decide +kernel
theorem at_296_142 : am_at (am_m 296) 142 = some (.iastore, 0) := by decide +kernel
theorem at_296_143 : am_at (am_m 296) 143 = some (.iconst 0, 0) := by decide +kernel
theorem at_296_144 : am_at (am_m 296) 144 = some (.istore 4, 0) := by decide +kernel
theorem at_296_146 : am_at (am_m 296) 146 = some (.iload 4, 0) := by decide +kernel
theorem at_296_148 : am_at (am_m 296) 148 = some (.iconst 3, 0) := by decide +kernel
theorem at_296_149 : am_at (am_m 296) 149 = some (.if_icmp .ge 33, 182) := by decide +kernel
theorem at_296_152 : am_at (am_m 296) 152 = some (.aload_n 0, 0) := by decide +kernel
theorem at_296_153 : am_at (am_m 296) 153 = some (.getfield 75, 2827) := by decide +kernel
theorem at_296_156 : am_at (am_m 296) 156 = some (.bipush 7, 0) := by decide +kernel
theorem at_296_158 : am_at (am_m 296) 158 = some (.iload 4, 0) := by decide +kernel
theorem at_296_160 : am_at (am_m 296) 160 = some (.iadd, 0) := by decide +kernel
theorem at_296_161 : am_at (am_m 296) 161 = some (.iload_n 3, 0) := by decide +kernel
theorem at_296_162 : am_at (am_m 296) 162 = some (.bipush 125, 0) := by decide +kernel
theorem at_296_164 : am_at (am_m 296) 164 = some (.if_icmp .ge 7, 171) := by decide +kernel
theorem at_296_167 : am_at (am_m 296) 167 = some (.iconst 0, 0) := by decide +kernel
theorem at_296_168 : am_at (am_m 296) 168 = some (.goto 7, 175) := by decide +kernel
theorem at_296_171 : am_at (am_m 296) 171 = some (.iload 4, 0) := by decide +kernel
theorem at_296_173 : am_at (am_m 296) 173 = some (.iconst 1, 0) := by decide +kernel
theorem at_296_174 : am_at (am_m 296) 174 = some (.iadd, 0) := by decide +kernel
theorem at_296_175 : am_at (am_m 296) 175 = some (.iastore, 0) := by decide +kernel
theorem at_296_176 : am_at (am_m 296) 176 = some (.iinc 4 1, 0) := by decide +kernel
theorem at_296_179 : am_at (am_m 296) 179 = some (.goto (-33), 146) := by decide +kernel
theorem at_296_182 : am_at (am_m 296) 182 = some (.aload_n 0, 0) := by decide +kernel
theorem at_296_183 : am_at (am_m 296) 183 = some (.getfield 29, 2819) := by decide +kernel
theorem at_296_186 : am_at (am_m 296) 186 = some (.aload_n 0, 0) := by decide +kernel
theorem at_296_187 : am_at (am_m 296) 187 = some (.getfield 75, 2827) := by decide +kernel
theorem at_296_190 : am_at (am_m 296) 190 = some (.iconst 0, 0) := by decide +kernel
theorem at_296_191 : am_at (am_m 296) 191 = some (.invokevirtual 557, 297) := by decide +kernel
theorem at_296_194 : am_at (am_m 296) 194 = some (.ifCond .eq 13, 207) := by decide +kernel
theorem at_296_197 : am_at (am_m 296) 197 = some (.aload_n 0, 0) := by decide +kernel
theorem at_296_198 : am_at (am_m 296) 198 = some (.aload_n 0, 0) := by decide +kernel
theorem at_296_199 : am_at (am_m 296) 199 = some (.getfield 75, 2827) := by decide +kernel
theorem at_296_202 : am_at (am_m 296) 202 = some (.iconst 0, 0) := by decide +kernel
theorem at_296_203 : am_at (am_m 296) 203 = some (.invokevirtual 561, 298) := by decide +kernel
theorem at_296_206 : am_at (am_m 296) 206 = some (.ireturn, 0) := by decide +kernel
theorem at_296_207 : am_at (am_m 296) 207 = some (.iinc 3 1, 0) := by decide +kernel
theorem at_296_210 : am_at (am_m 296) 210 = some (.goto (-130), 80) := by decide +kernel
theorem at_296_213 : am_at (am_m 296) 213 = some (.iconst 0, 0) := by decide +kernel
theorem at_296_214 : am_at (am_m 296) 214 = some (.ireturn, 0) := by decide +kernel
theorem at_297_0 : am_at (am_m 297) 0 = some (.aload_n 0, 0) := by decide +kernel
theorem at_297_1 : am_at (am_m 297) 1 = some (.getfield 22, 514) := by decide +kernel
theorem at_297_4 : am_at (am_m 297) 4 = some (.aload_n 1, 0) := by decide +kernel
theorem at_297_5 : am_at (am_m 297) 5 = some (.iload_n 2, 0) := by decide +kernel
theorem at_297_6 : am_at (am_m 297) 6 = some (.invokevirtual 65, 116) := by decide +kernel
theorem at_297_9 : am_at (am_m 297) 9 = some (.aload_n 0, 0) := by decide +kernel
theorem at_297_10 : am_at (am_m 297) 10 = some (.getfield 26, 515) := by decide +kernel
theorem at_297_13 : am_at (am_m 297) 13 = some (.aload_n 1, 0) := by decide +kernel
theorem at_297_14 : am_at (am_m 297) 14 = some (.iload_n 2, 0) := by decide +kernel
theorem at_297_15 : am_at (am_m 297) 15 = some (.invokevirtual 65, 116) := by decide +kernel
theorem at_297_18 : am_at (am_m 297) 18 = some (.aload_n 0, 0) := by decide +kernel
theorem at_297_19 : am_at (am_m 297) 19 = some (.getfield 22, 514) := by decide +kernel
theorem at_297_22 : am_at (am_m 297) 22 = some (.getfield 69, 1537) := by decide +kernel
theorem at_297_25 : am_at (am_m 297) 25 = some (.iconst 3, 0) := by decide +kernel
theorem at_297_26 : am_at (am_m 297) 26 = some (.if_icmp .eq 52, 78) := by decide +kernel
theorem at_297_29 : am_at (am_m 297) 29 = some (.aload_n 0, 0) := by decide +kernel
theorem at_297_30 : am_at (am_m 297) 30 = some (.getfield 26, 515) := by decide +kernel
theorem at_297_33 : am_at (am_m 297) 33 = some (.getfield 69, 1537) := by decide +kernel
theorem at_297_36 : am_at (am_m 297) 36 = some (.iconst 3, 0) := by decide +kernel
theorem at_297_37 : am_at (am_m 297) 37 = some (.if_icmp .eq 41, 78) := by decide +kernel
theorem at_297_40 : am_at (am_m 297) 40 = some (.aload_n 0, 0) := by decide +kernel
theorem at_297_41 : am_at (am_m 297) 41 = some (.getfield 22, 514) := by decide +kernel
theorem at_297_44 : am_at (am_m 297) 44 = some (.getfield 69, 1537) := by decide +kernel
theorem at_297_47 : am_at (am_m 297) 47 = some (.aload_n 0, 0) := by decide +kernel
theorem at_297_48 : am_at (am_m 297) 48 = some (.getfield 26, 515) := by decide +kernel
theorem at_297_51 : am_at (am_m 297) 51 = some (.getfield 69, 1537) := by decide +kernel
theorem at_297_54 : am_at (am_m 297) 54 = some (.if_icmp .ne 20, 74) := by decide +kernel
theorem at_297_57 : am_at (am_m 297) 57 = some (.aload_n 0, 0) := by decide +kernel
theorem at_297_58 : am_at (am_m 297) 58 = some (.getfield 22, 514) := by decide +kernel
theorem at_297_61 : am_at (am_m 297) 61 = some (.getfield 73, 1539) := by decide +kernel
theorem at_297_64 : am_at (am_m 297) 64 = some (.aload_n 0, 0) := by decide +kernel
theorem at_297_65 : am_at (am_m 297) 65 = some (.getfield 26, 515) := by decide +kernel
theorem at_297_68 : am_at (am_m 297) 68 = some (.getfield 73, 1539) := by decide +kernel
theorem at_297_71 : am_at (am_m 297) 71 = some (.if_icmp .eq 7, 78) := by decide +kernel
theorem at_297_74 : am_at (am_m 297) 74 = some (.iconst 1, 0) := by decide +kernel
theorem at_297_75 : am_at (am_m 297) 75 = some (.goto 4, 79) := by decide +kernel
theorem at_297_78 : am_at (am_m 297) 78 = some (.iconst 0, 0) := by decide +kernel
theorem at_297_79 : am_at (am_m 297) 79 = some (.ireturn, 0) := by decide +kernel
theorem at_298_0 : am_at (am_m 298) 0 = some (.aload_n 0, 0) := by decide +kernel
theorem at_298_1 : am_at (am_m 298) 1 = some (.getfield 84, 2830) := by decide +kernel
theorem at_298_4 : am_at (am_m 298) 4 = some (.iconst 0, 0) := by decide +kernel
theorem at_298_5 : am_at (am_m 298) 5 = some (.invokestatic 222, 53) := by decide +kernel
theorem at_298_8 : am_at (am_m 298) 8 = some (.aload_n 1, 0) := by decide +kernel
theorem at_298_9 : am_at (am_m 298) 9 = some (.iload_n 2, 0) := by decide +kernel
theorem at_298_10 : am_at (am_m 298) 10 = some (.aload_n 0, 0) := by decide +kernel
theorem at_298_11 : am_at (am_m 298) 11 = some (.getfield 84, 2830) := by decide +kernel
theorem at_298_14 : am_at (am_m 298) 14 = some (.iconst 0, 0) := by decide +kernel
theorem at_298_15 : am_at (am_m 298) 15 = some (.iconst 3, 0) := by decide +kernel
theorem at_298_16 : am_at (am_m 298) 16 = some (.invokestatic 546, 10000) := by decide +kernel
theorem at_298_19 : am_at (am_m 298) 19 = some (.aload_n 0, 0) := by decide +kernel
theorem at_298_20 : am_at (am_m 298) 20 = some (.getfield 84, 2830) := by decide +kernel
theorem at_298_23 : am_at (am_m 298) 23 = some (.iconst 3, 0) := by decide +kernel
theorem at_298_24 : am_at (am_m 298) 24 = some (.aload_n 1, 0) := by decide +kernel
theorem at_298_25 : am_at (am_m 298) 25 = some (.iload_n 2, 0) := by decide +kernel
theorem at_298_26 : am_at (am_m 298) 26 = some (.bipush 6, 0) := by decide +kernel
theorem at_298_28 : am_at (am_m 298) 28 = some (.iadd, 0) := by decide +kernel
theorem at_298_29 : am_at (am_m 298) 29 = some (.iaload, 0) := by decide +kernel
theorem at_298_30 : am_at (am_m 298) 30 = some (.iastore, 0) := by decide +kernel
theorem at_298_31 : am_at (am_m 298) 31 = some (.aload_n 1, 0) := by decide +kernel
theorem at_298_32 : am_at (am_m 298) 32 = some (.iload_n 2, 0) := by decide +kernel
theorem at_298_33 : am_at (am_m 298) 33 = some (.bipush 7, 0) := by decide +kernel
theorem at_298_35 : am_at (am_m 298) 35 = some (.iadd, 0) := by decide +kernel
theorem at_298_36 : am_at (am_m 298) 36 = some (.aload_n 0, 0) := by decide +kernel
theorem at_298_37 : am_at (am_m 298) 37 = some (.getfield 84, 2830) := by decide +kernel
theorem at_298_40 : am_at (am_m 298) 40 = some (.iconst 4, 0) := by decide +kernel
theorem at_298_41 : am_at (am_m 298) 41 = some (.bipush 8, 0) := by decide +kernel
theorem at_298_43 : am_at (am_m 298) 43 = some (.invokestatic 546, 10000) := by decide +kernel
theorem at_298_46 : am_at (am_m 298) 46 = some (.iconst 1, 0) := by decide +kernel
theorem at_298_47 : am_at (am_m 298) 47 = some (.ireturn, 0) := by decide +kernel
theorem at_299_0 : am_at (am_m 299) 0 = some (.aload_n 2, 0) := by decide +kernel
theorem at_299_1 : am_at (am_m 299) 1 = some (.iconst 0, 0) := by decide +kernel
theorem at_299_2 : am_at (am_m 299) 2 = some (.aload_n 0, 0) := by decide +kernel
theorem at_299_3 : am_at (am_m 299) 3 = some (.iload_n 1, 0) := by decide +kernel
theorem at_299_4 : am_at (am_m 299) 4 = some (.invokevirtual 161, 300) := by decide +kernel
theorem at_299_7 : am_at (am_m 299) 7 = some (.i2l, 0) := by decide +kernel
theorem at_299_8 : am_at (am_m 299) 8 = some (.lastore, 0) := by decide +kernel
theorem at_299_9 : am_at (am_m 299) 9 = some (.goto 6, 15) := by decide +kernel
theorem at_299_13 : am_at (am_m 299) 13 = some (.iconst 1, 0) := by decide +kernel
theorem at_299_14 : am_at (am_m 299) 14 = some (.ireturn, 0) := by decide +kernel
theorem at_299_15 : am_at (am_m 299) 15 = some (.iconst 0, 0) := by decide +kernel
theorem at_299_16 : am_at (am_m 299) 16 = some (.ireturn, 0) := by decide +kernel
theorem at_300_0 : am_at (am_m 300) 0 = some (.iload_n 1, 0) := by decide +kernel
theorem at_300_1 : am_at (am_m 300) 1 = some (.ifCond .lt 12, 13) := by decide +kernel
theorem at_300_4 : am_at (am_m 300) 4 = some (.iload_n 1, 0) := by decide +kernel
theorem at_300_5 : am_at (am_m 300) 5 = some (.aload_n 0, 0) := by decide +kernel
theorem at_300_6 : am_at (am_m 300) 6 = some (.getfield 84, 2830) := by decide +kernel
theorem at_300_9 : am_at (am_m 300) 9 = some (.arraylength, 0) := by decide +kernel
theorem at_300_10 : am_at (am_m 300) 10 = some (.if_icmp .lt 13, 23) := by decide +kernel
theorem at_300_13 : am_at (am_m 300) 13 = some (.new 114, 100) := by decide +kernel
theorem at_300_23 : am_at (am_m 300) 23 = some (.aload_n 0, 0) := by decide +kernel
theorem at_300_24 : am_at (am_m 300) 24 = some (.getfield 84, 2830) := by decide +kernel
theorem at_300_27 : am_at (am_m 300) 27 = some (.iload_n 1, 0) := by decide +kernel
theorem at_300_28 : am_at (am_m 300) 28 = some (.iaload, 0) := by decide +kernel
theorem at_300_29 : am_at (am_m 300) 29 = some (.ireturn, 0) := by decide +kernel
theorem at_301_0 : am_at (am_m 301) 0 = some (.aload_n 2, 0) := by decide +kernel
theorem at_301_1 : am_at (am_m 301) 1 = some (.iconst 0, 0) := by decide +kernel
theorem at_301_2 : am_at (am_m 301) 2 = some (.aload_n 0, 0) := by decide +kernel
theorem at_301_3 : am_at (am_m 301) 3 = some (.iload_n 1, 0) := by decide +kernel
theorem at_301_4 : am_at (am_m 301) 4 = some (.invokevirtual 164, 302) := by decide +kernel
theorem at_301_7 : am_at (am_m 301) 7 = some (.i2l, 0) := by decide +kernel
theorem at_301_8 : am_at (am_m 301) 8 = some (.lastore, 0) := by decide +kernel
theorem at_301_9 : am_at (am_m 301) 9 = some (.goto 9, 18) := by decide +kernel
theorem at_301_13 : am_at (am_m 301) 13 = some (.iconst 1, 0) := by decide +kernel
theorem at_301_14 : am_at (am_m 301) 14 = some (.ireturn, 0) := by decide +kernel
theorem at_301_16 : am_at (am_m 301) 16 = some (.iconst 2, 0) := by decide +kernel
theorem at_301_17 : am_at (am_m 301) 17 = some (.ireturn, 0) := by decide +kernel
theorem at_301_18 : am_at (am_m 301) 18 = some (.iconst 0, 0) := by decide +kernel
theorem at_301_19 : am_at (am_m 301) 19 = some (.ireturn, 0) := by decide +kernel
theorem at_302_0 : am_at (am_m 302) 0 = some (.aload_n 0, 0) := by decide +kernel
theorem at_302_1 : am_at (am_m 302) 1 = some (.iload_n 1, 0) := by decide +kernel
theorem at_302_2 : am_at (am_m 302) 2 = some (.invokevirtual 132, 63) := by decide +kernel
theorem at_302_5 : am_at (am_m 302) 5 = some (.astore_n 2, 0) := by decide +kernel
theorem at_302_6 : am_at (am_m 302) 6 = some (.aload_n 0, 0) := by decide +kernel
theorem at_302_7 : am_at (am_m 302) 7 = some (.iconst 1, 0) := by decide +kernel
theorem at_302_8 : am_at (am_m 302) 8 = some (.invokevirtual 121, 32) := by decide +kernel
theorem at_302_11 : am_at (am_m 302) 11 = some (.aload_n 2, 0) := by decide +kernel
theorem at_302_12 : am_at (am_m 302) 12 = some (.getfield 144, 769) := by decide +kernel
theorem at_302_15 : am_at (am_m 302) 15 = some (.iconst 1, 0) := by decide +kernel
theorem at_302_16 : am_at (am_m 302) 16 = some (.if_icmp .ne 7, 23) := by decide +kernel
theorem at_302_19 : am_at (am_m 302) 19 = some (.iconst 2, 0) := by decide +kernel
theorem at_302_20 : am_at (am_m 302) 20 = some (.goto 16, 36) := by decide +kernel
theorem at_302_23 : am_at (am_m 302) 23 = some (.aload_n 2, 0) := by decide +kernel
theorem at_302_24 : am_at (am_m 302) 24 = some (.getfield 144, 769) := by decide +kernel
theorem at_302_27 : am_at (am_m 302) 27 = some (.iconst 3, 0) := by decide +kernel
theorem at_302_28 : am_at (am_m 302) 28 = some (.if_icmp .ne 7, 35) := by decide +kernel
theorem at_302_31 : am_at (am_m 302) 31 = some (.iconst 1, 0) := by decide +kernel
theorem at_302_32 : am_at (am_m 302) 32 = some (.goto 4, 36) := by decide +kernel
theorem at_302_35 : am_at (am_m 302) 35 = some (.iconst 3, 0) := by decide +kernel
theorem at_302_36 : am_at (am_m 302) 36 = some (.istore_n 3, 0) := by decide +kernel
theorem at_302_37 : am_at (am_m 302) 37 = some (.aload_n 0, 0) := by decide +kernel
theorem at_302_38 : am_at (am_m 302) 38 = some (.getfield 90, 2831) := by decide +kernel
theorem at_302_41 : am_at (am_m 302) 41 = some (.aload_n 2, 0) := by decide +kernel
theorem at_302_42 : am_at (am_m 302) 42 = some (.invokevirtual 415, 60) := by decide +kernel
theorem at_302_45 : am_at (am_m 302) 45 = some (.iconst 1, 0) := by decide +kernel
theorem at_302_46 : am_at (am_m 302) 46 = some (.istore 4, 0) := by decide +kernel
theorem at_302_48 : am_at (am_m 302) 48 = some (.iconst 0, 0) := by decide +kernel
theorem at_302_49 : am_at (am_m 302) 49 = some (.istore 5, 0) := by decide +kernel
theorem at_302_51 : am_at (am_m 302) 51 = some (.iload 4, 0) := by decide +kernel
theorem at_302_53 : am_at (am_m 302) 53 = some (.ifCond .eq 23, 76) := by decide +kernel
theorem at_302_56 : am_at (am_m 302) 56 = some (.iload 5, 0) := by decide +kernel
theorem at_302_58 : am_at (am_m 302) 58 = some (.bipush 60, 0) := by decide +kernel
theorem at_302_60 : am_at (am_m 302) 60 = some (.if_icmp .ge 16, 76) := by decide +kernel
theorem at_302_63 : am_at (am_m 302) 63 = some (.aload_n 0, 0) := by decide +kernel
theorem at_302_64 : am_at (am_m 302) 64 = some (.iload_n 3, 0) := by decide +kernel
theorem at_302_65 : am_at (am_m 302) 65 = some (.invokevirtual 455, 303) := by decide +kernel
theorem at_302_68 : am_at (am_m 302) 68 = some (.istore 4, 0) := by decide +kernel
theorem at_302_70 : am_at (am_m 302) 70 = some (.iinc 5 1, 0) := by decide +kernel
theorem at_302_73 : am_at (am_m 302) 73 = some (.goto (-22), 51) := by decide +kernel
theorem at_302_76 : am_at (am_m 302) 76 = some (.aload_n 0, 0) := by decide +kernel
theorem at_302_77 : am_at (am_m 302) 77 = some (.aload_n 0, 0) := by decide +kernel
theorem at_302_78 : am_at (am_m 302) 78 = some (.getfield 90, 2831) := by decide +kernel
theorem at_302_81 : am_at (am_m 302) 81 = some (.bipush 6, 0) := by decide +kernel
theorem at_302_83 : am_at (am_m 302) 83 = some (.iload_n 1, 0) := by decide +kernel
theorem at_302_84 : am_at (am_m 302) 84 = some (.iconst (-1), 0) := by decide +kernel
theorem at_302_85 : am_at (am_m 302) 85 = some (.iconst (-1), 0) := by decide +kernel
theorem at_302_86 : am_at (am_m 302) 86 = some (.iconst (-1), 0) := by decide +kernel
theorem at_302_87 : am_at (am_m 302) 87 = some (.lconst 0, 0) := by decide +kernel
theorem at_302_88 : am_at (am_m 302) 88 = some (.invokevirtual 128, 59) := by decide +kernel
theorem at_302_91 : am_at (am_m 302) 91 = some (.ireturn, 0) := by decide +kernel
theorem at_303_0 : am_at (am_m 303) 0 = some (.aload_n 0, 0) := by decide +kernel
theorem at_303_1 : am_at (am_m 303) 1 = some (.getfield 29, 2819) := by decide +kernel
theorem at_303_4 : am_at (am_m 303) 4 = some (.aload_n 0, 0) := by decide +kernel
theorem at_303_5 : am_at (am_m 303) 5 = some (.getfield 90, 2831) := by decide +kernel
theorem at_303_8 : am_at (am_m 303) 8 = some (.iconst 0, 0) := by decide +kernel
theorem at_303_9 : am_at (am_m 303) 9 = some (.invokevirtual 263, 140) := by decide +kernel
theorem at_303_12 : am_at (am_m 303) 12 = some (.lstore_n 2, 0) := by decide +kernel
theorem at_303_13 : am_at (am_m 303) 13 = some (.aload_n 0, 0) := by decide +kernel
theorem at_303_14 : am_at (am_m 303) 14 = some (.getfield 54, 2823) := by decide +kernel
theorem at_303_17 : am_at (am_m 303) 17 = some (.aload_n 0, 0) := by decide +kernel
theorem at_303_18 : am_at (am_m 303) 18 = some (.getfield 90, 2831) := by decide +kernel
theorem at_303_21 : am_at (am_m 303) 21 = some (.aconst_null, 0) := by decide +kernel
theorem at_303_22 : am_at (am_m 303) 22 = some (.iload_n 1, 0) := by decide +kernel
theorem at_303_23 : am_at (am_m 303) 23 = some (.invokevirtual 307, 159) := by decide +kernel
theorem at_303_26 : am_at (am_m 303) 26 = some (.istore 4, 0) := by decide +kernel
theorem at_303_28 : am_at (am_m 303) 28 = some (.iconst 0, 0) := by decide +kernel
theorem at_303_29 : am_at (am_m 303) 29 = some (.istore 5, 0) := by decide +kernel
theorem at_303_31 : am_at (am_m 303) 31 = some (.iload 5, 0) := by decide +kernel
theorem at_303_33 : am_at (am_m 303) 33 = some (.iload 4, 0) := by decide +kernel
theorem at_303_35 : am_at (am_m 303) 35 = some (.if_icmp .ge 57, 92) := by decide +kernel
theorem at_303_38 : am_at (am_m 303) 38 = some (.aload_n 0, 0) := by decide +kernel
theorem at_303_39 : am_at (am_m 303) 39 = some (.getfield 54, 2823) := by decide +kernel
theorem at_303_42 : am_at (am_m 303) 42 = some (.iload 5, 0) := by decide +kernel
theorem at_303_44 : am_at (am_m 303) 44 = some (.invokevirtual 460, 163) := by decide +kernel
theorem at_303_47 : am_at (am_m 303) 47 = some (.ifCond .eq 39, 86) := by decide +kernel
theorem at_303_50 : am_at (am_m 303) 50 = some (.aload_n 0, 0) := by decide +kernel
theorem at_303_51 : am_at (am_m 303) 51 = some (.getfield 29, 2819) := by decide +kernel
theorem at_303_54 : am_at (am_m 303) 54 = some (.aload_n 0, 0) := by decide +kernel
theorem at_303_55 : am_at (am_m 303) 55 = some (.getfield 54, 2823) := by decide +kernel
theorem at_303_58 : am_at (am_m 303) 58 = some (.getfield 319, 0) := by decide +kernel
theorem at_303_61 : am_at (am_m 303) 61 = some (.iconst 0, 0) := by decide +kernel
theorem at_303_62 : am_at (am_m 303) 62 = some (.invokevirtual 263, 140) := by decide +kernel
theorem at_303_65 : am_at (am_m 303) 65 = some (.lload_n 2, 0) := by decide +kernel
theorem at_303_66 : am_at (am_m 303) 66 = some (.lcmp, 0) := by decide +kernel
theorem at_303_67 : am_at (am_m 303) 67 = some (.ifCond .gt 19, 86) := by decide +kernel
theorem at_303_70 : am_at (am_m 303) 70 = some (.aload_n 0, 0) := by decide +kernel
theorem at_303_71 : am_at (am_m 303) 71 = some (.getfield 90, 2831) := by decide +kernel
theorem at_303_74 : am_at (am_m 303) 74 = some (.aload_n 0, 0) := by decide +kernel
theorem at_303_75 : am_at (am_m 303) 75 = some (.getfield 54, 2823) := by decide +kernel
theorem at_303_78 : am_at (am_m 303) 78 = some (.getfield 319, 0) := by decide +kernel
theorem at_303_81 : am_at (am_m 303) 81 = some (.invokevirtual 415, 60) := by decide +kernel
theorem at_303_84 : am_at (am_m 303) 84 = some (.iconst 1, 0) := by decide +kernel
theorem at_303_85 : am_at (am_m 303) 85 = some (.ireturn, 0) := by decide +kernel
theorem at_303_86 : am_at (am_m 303) 86 = some (.iinc 5 1, 0) := by decide +kernel
theorem at_303_89 : am_at (am_m 303) 89 = some (.goto (-58), 31) := by decide +kernel
theorem at_303_92 : am_at (am_m 303) 92 = some (.iconst 0, 0) := by decide +kernel
theorem at_303_93 : am_at (am_m 303) 93 = some (.ireturn, 0) := by decide +kernel
theorem at_304_0 : am_at (am_m 304) 0 = some (.aload 4, 0) := by decide +kernel
theorem at_304_2 : am_at (am_m 304) 2 = some (.iconst 0, 0) := by decide +kernel
theorem at_304_3 : am_at (am_m 304) 3 = some (.aload_n 0, 0) := by decide +kernel
theorem at_304_4 : am_at (am_m 304) 4 = some (.iload_n 1, 0) := by decide +kernel
theorem at_304_5 : am_at (am_m 304) 5 = some (.iload_n 2, 0) := by decide +kernel
theorem at_304_6 : am_at (am_m 304) 6 = some (.iload_n 3, 0) := by decide +kernel
theorem at_304_7 : am_at (am_m 304) 7 = some (.invokevirtual 167, 305) := by decide +kernel
theorem at_304_10 : am_at (am_m 304) 10 = some (.i2l, 0) := by decide +kernel
theorem at_304_11 : am_at (am_m 304) 11 = some (.lastore, 0) := by decide +kernel
theorem at_304_12 : am_at (am_m 304) 12 = some (.goto 11, 23) := by decide +kernel
theorem at_304_17 : am_at (am_m 304) 17 = some (.iconst 1, 0) := by decide +kernel
theorem at_304_18 : am_at (am_m 304) 18 = some (.ireturn, 0) := by decide +kernel
theorem at_304_21 : am_at (am_m 304) 21 = some (.iconst 2, 0) := by decide +kernel
theorem at_304_22 : am_at (am_m 304) 22 = some (.ireturn, 0) := by decide +kernel
theorem at_304_23 : am_at (am_m 304) 23 = some (.iconst 0, 0) := by decide +kernel
theorem at_304_24 : am_at (am_m 304) 24 = some (.ireturn, 0) := by decide +kernel
theorem at_305_0 : am_at (am_m 305) 0 = some (.aload_n 0, 0) := by decide +kernel
theorem at_305_1 : am_at (am_m 305) 1 = some (.iload_n 1, 0) := by decide +kernel
theorem at_305_2 : am_at (am_m 305) 2 = some (.invokevirtual 132, 63) := by decide +kernel
theorem at_305_5 : am_at (am_m 305) 5 = some (.astore 4, 0) := by decide +kernel
theorem at_305_7 : am_at (am_m 305) 7 = some (.iload_n 2, 0) := by decide +kernel
theorem at_305_8 : am_at (am_m 305) 8 = some (.ifCond .lt 17, 25) := by decide +kernel
theorem at_305_11 : am_at (am_m 305) 11 = some (.iload_n 2, 0) := by decide +kernel
theorem at_305_12 : am_at (am_m 305) 12 = some (.iconst 4, 0) := by decide +kernel
theorem at_305_13 : am_at (am_m 305) 13 = some (.if_icmp .ge 12, 25) := by decide +kernel
theorem at_305_16 : am_at (am_m 305) 16 = some (.iload_n 3, 0) := by decide +kernel
theorem at_305_17 : am_at (am_m 305) 17 = some (.ifCond .lt 8, 25) := by decide +kernel
theorem at_305_20 : am_at (am_m 305) 20 = some (.iload_n 3, 0) := by decide +kernel
theorem at_305_21 : am_at (am_m 305) 21 = some (.iconst 2, 0) := by decide +kernel
theorem at_305_22 : am_at (am_m 305) 22 = some (.if_icmp .le 14, 36) := by decide +kernel
theorem at_305_25 : am_at (am_m 305) 25 = some (.new 114, 100) := by decide +kernel
theorem at_305_36 : am_at (am_m 305) 36 = some (.aload_n 0, 0) := by decide +kernel
theorem at_305_37 : am_at (am_m 305) 37 = some (.getfield 29, 2819) := by decide +kernel
theorem at_305_40 : am_at (am_m 305) 40 = some (.aload 4, 0) := by decide +kernel
theorem at_305_42 : am_at (am_m 305) 42 = some (.iconst 0, 0) := by decide +kernel
theorem at_305_43 : am_at (am_m 305) 43 = some (.invokevirtual 263, 140) := by decide +kernel
theorem at_305_46 : am_at (am_m 305) 46 = some (.lstore 5, 0) := by decide +kernel
theorem at_305_48 : am_at (am_m 305) 48 = some (.aload_n 0, 0) := by decide +kernel
theorem at_305_49 : am_at (am_m 305) 49 = some (.getfield 54, 2823) := by decide +kernel
theorem at_305_52 : am_at (am_m 305) 52 = some (.aload 4, 0) := by decide +kernel
theorem at_305_54 : am_at (am_m 305) 54 = some (.aconst_null, 0) := by decide +kernel
theorem at_305_55 : am_at (am_m 305) 55 = some (.iload_n 2, 0) := by decide +kernel
theorem at_305_56 : am_at (am_m 305) 56 = some (.invokevirtual 307, 159) := by decide +kernel
theorem at_305_59 : am_at (am_m 305) 59 = some (.istore 7, 0) := by decide +kernel
theorem at_305_61 : am_at (am_m 305) 61 = some (.iconst 0, 0) := by decide +kernel
theorem at_305_62 : am_at (am_m 305) 62 = some (.istore 8, 0) := by decide +kernel
theorem at_305_64 : am_at (am_m 305) 64 = some (.iconst 0, 0) := by decide +kernel
theorem at_305_65 : am_at (am_m 305) 65 = some (.istore 9, 0) := by decide +kernel
theorem at_305_67 : am_at (am_m 305) 67 = some (.iload 9, 0) := by decide +kernel
theorem at_305_69 : am_at (am_m 305) 69 = some (.iload 7, 0) := by decide +kernel
theorem at_305_71 : am_at (am_m 305) 71 = some (.if_icmp .ge 50, 121) := by decide +kernel
theorem at_305_74 : am_at (am_m 305) 74 = some (.aload_n 0, 0) := by decide +kernel
theorem at_305_75 : am_at (am_m 305) 75 = some (.getfield 54, 2823) := by decide +kernel
theorem at_305_78 : am_at (am_m 305) 78 = some (.iload 9, 0) := by decide +kernel
theorem at_305_80 : am_at (am_m 305) 80 = some (.invokevirtual 460, 163) := by decide +kernel
theorem at_305_83 : am_at (am_m 305) 83 = some (.ifCond .eq 32, 115) := by decide +kernel
theorem at_305_86 : am_at (am_m 305) 86 = some (.aload_n 0, 0) := by decide +kernel
theorem at_305_87 : am_at (am_m 305) 87 = some (.getfield 29, 2819) := by decide +kernel
theorem at_305_90 : am_at (am_m 305) 90 = some (.aload_n 0, 0) := by decide +kernel
theorem at_305_91 : am_at (am_m 305) 91 = some (.getfield 54, 2823) := by decide +kernel
theorem at_305_94 : am_at (am_m 305) 94 = some (.getfield 319, 0) := by decide +kernel
theorem at_305_97 : am_at (am_m 305) 97 = some (.iconst 0, 0) := by decide +kernel
theorem at_305_98 : am_at (am_m 305) 98 = some (.invokevirtual 263, 140) := by decide +kernel
theorem at_305_101 : am_at (am_m 305) 101 = some (.lload 5, 0) := by decide +kernel
theorem at_305_103 : am_at (am_m 305) 103 = some (.invokestatic 283, 151) := by decide +kernel
theorem at_305_106 : am_at (am_m 305) 106 = some (.iload_n 3, 0) := by decide +kernel
theorem at_305_107 : am_at (am_m 305) 107 = some (.iconst 1, 0) := by decide +kernel
theorem at_305_108 : am_at (am_m 305) 108 = some (.isub, 0) := by decide +kernel
theorem at_305_109 : am_at (am_m 305) 109 = some (.if_icmp .ne 6, 115) := by decide +kernel
theorem at_305_112 : am_at (am_m 305) 112 = some (.iinc 8 1, 0) := by decide +kernel
theorem at_305_115 : am_at (am_m 305) 115 = some (.iinc 9 1, 0) := by decide +kernel
theorem at_305_118 : am_at (am_m 305) 118 = some (.goto (-51), 67) := by decide +kernel
theorem at_305_121 : am_at (am_m 305) 121 = some (.iload 8, 0) := by decide +kernel
theorem at_305_123 : am_at (am_m 305) 123 = some (.ireturn, 0) := by decide +kernel
theorem at_306_0 : am_at (am_m 306) 0 = some (.aload_n 3, 0) := by decide +kernel
theorem at_306_1 : am_at (am_m 306) 1 = some (.iconst 0, 0) := by decide +kernel
theorem at_306_2 : am_at (am_m 306) 2 = some (.aload_n 0, 0) := by decide +kernel
theorem at_306_3 : am_at (am_m 306) 3 = some (.iload_n 1, 0) := by decide +kernel
theorem at_306_4 : am_at (am_m 306) 4 = some (.iload_n 2, 0) := by decide +kernel
theorem at_306_5 : am_at (am_m 306) 5 = some (.invokevirtual 170, 307) := by decide +kernel
theorem at_306_8 : am_at (am_m 306) 8 = some (.i2l, 0) := by decide +kernel
theorem at_306_9 : am_at (am_m 306) 9 = some (.lastore, 0) := by decide +kernel
theorem at_306_10 : am_at (am_m 306) 10 = some (.goto 15, 25) := by decide +kernel
theorem at_306_15 : am_at (am_m 306) 15 = some (.iconst 1, 0) := by decide +kernel
theorem at_306_16 : am_at (am_m 306) 16 = some (.ireturn, 0) := by decide +kernel
theorem at_306_19 : am_at (am_m 306) 19 = some (.iconst 2, 0) := by decide +kernel
theorem at_306_20 : am_at (am_m 306) 20 = some (.ireturn, 0) := by decide +kernel
theorem at_306_23 : am_at (am_m 306) 23 = some (.iconst 3, 0) := by decide +kernel
theorem at_306_24 : am_at (am_m 306) 24 = some (.ireturn, 0) := by decide +kernel
theorem at_306_25 : am_at (am_m 306) 25 = some (.iconst 0, 0) := by decide +kernel
theorem at_306_26 : am_at (am_m 306) 26 = some (.ireturn, 0) := by decide +kernel
theorem at_307_0 : am_at (am_m 307) 0 = some (.aload_n 0, 0) := by decide +kernel
theorem at_307_1 : am_at (am_m 307) 1 = some (.iload_n 1, 0) := by decide +kernel
theorem at_307_2 : am_at (am_m 307) 2 = some (.invokevirtual 132, 63) := by decide +kernel
theorem at_307_5 : am_at (am_m 307) 5 = some (.astore_n 3, 0) := by decide +kernel
theorem at_307_6 : am_at (am_m 307) 6 = some (.aload_n 3, 0) := by decide +kernel
theorem at_307_7 : am_at (am_m 307) 7 = some (.getfield 144, 769) := by decide +kernel
theorem at_307_10 : am_at (am_m 307) 10 = some (.ifCond .ne 8, 18) := by decide +kernel
theorem at_307_13 : am_at (am_m 307) 13 = some (.iload_n 2, 0) := by decide +kernel
theorem at_307_14 : am_at (am_m 307) 14 = some (.iconst 1, 0) := by decide +kernel
theorem at_307_15 : am_at (am_m 307) 15 = some (.if_icmp .eq 26, 41) := by decide +kernel
theorem at_307_18 : am_at (am_m 307) 18 = some (.aload_n 3, 0) := by decide +kernel
theorem at_307_19 : am_at (am_m 307) 19 = some (.getfield 144, 769) := by decide +kernel
theorem at_307_22 : am_at (am_m 307) 22 = some (.iconst 1, 0) := by decide +kernel
theorem at_307_23 : am_at (am_m 307) 23 = some (.if_icmp .ne 7, 30) := by decide +kernel
theorem at_307_26 : am_at (am_m 307) 26 = some (.iload_n 2, 0) := by decide +kernel
theorem at_307_27 : am_at (am_m 307) 27 = some (.ifCond .eq 14, 41) := by decide +kernel
theorem at_307_30 : am_at (am_m 307) 30 = some (.new 114, 100) := by decide +kernel
theorem at_307_41 : am_at (am_m 307) 41 = some (.aload_n 0, 0) := by decide +kernel
theorem at_307_42 : am_at (am_m 307) 42 = some (.iconst 1, 0) := by decide +kernel
theorem at_307_43 : am_at (am_m 307) 43 = some (.invokevirtual 121, 32) := by decide +kernel
theorem at_307_46 : am_at (am_m 307) 46 = some (.iload_n 2, 0) := by decide +kernel
theorem at_307_47 : am_at (am_m 307) 47 = some (.iconst 1, 0) := by decide +kernel
theorem at_307_48 : am_at (am_m 307) 48 = some (.if_icmp .ne 18, 66) := by decide +kernel
theorem at_307_51 : am_at (am_m 307) 51 = some (.aload_n 0, 0) := by decide +kernel
theorem at_307_52 : am_at (am_m 307) 52 = some (.getfield 68, 2825) := by decide +kernel
theorem at_307_55 : am_at (am_m 307) 55 = some (.aload_n 3, 0) := by decide +kernel
theorem at_307_56 : am_at (am_m 307) 56 = some (.aload_n 0, 0) := by decide +kernel
theorem at_307_57 : am_at (am_m 307) 57 = some (.getfield 90, 2831) := by decide +kernel
theorem at_307_60 : am_at (am_m 307) 60 = some (.invokevirtual 465, 205) := by decide +kernel
theorem at_307_63 : am_at (am_m 307) 63 = some (.goto 15, 78) := by decide +kernel
theorem at_307_66 : am_at (am_m 307) 66 = some (.aload_n 0, 0) := by decide +kernel
theorem at_307_67 : am_at (am_m 307) 67 = some (.getfield 68, 2825) := by decide +kernel
theorem at_307_70 : am_at (am_m 307) 70 = some (.aload_n 3, 0) := by decide +kernel
theorem at_307_71 : am_at (am_m 307) 71 = some (.aload_n 0, 0) := by decide +kernel
theorem at_307_72 : am_at (am_m 307) 72 = some (.getfield 90, 2831) := by decide +kernel
theorem at_307_75 : am_at (am_m 307) 75 = some (.invokevirtual 448, 293) := by decide +kernel
theorem at_307_78 : am_at (am_m 307) 78 = some (.istore 4, 0) := by decide +kernel
theorem at_307_80 : am_at (am_m 307) 80 = some (.iload 4, 0) := by decide +kernel
theorem at_307_82 : am_at (am_m 307) 82 = some (.ifCond .eq 21, 103) := by decide +kernel
theorem at_307_85 : am_at (am_m 307) 85 = some (.aload_n 0, 0) := by decide +kernel
theorem at_307_86 : am_at (am_m 307) 86 = some (.aload_n 0, 0) := by decide +kernel
theorem at_307_87 : am_at (am_m 307) 87 = some (.getfield 90, 2831) := by decide +kernel
theorem at_307_90 : am_at (am_m 307) 90 = some (.bipush 7, 0) := by decide +kernel
theorem at_307_92 : am_at (am_m 307) 92 = some (.iload_n 1, 0) := by decide +kernel
theorem at_307_93 : am_at (am_m 307) 93 = some (.iconst (-1), 0) := by decide +kernel
theorem at_307_94 : am_at (am_m 307) 94 = some (.iconst (-1), 0) := by decide +kernel
theorem at_307_95 : am_at (am_m 307) 95 = some (.iconst (-1), 0) := by decide +kernel
theorem at_307_96 : am_at (am_m 307) 96 = some (.lconst 0, 0) := by decide +kernel
theorem at_307_97 : am_at (am_m 307) 97 = some (.invokevirtual 128, 59) := by decide +kernel
theorem at_307_100 : am_at (am_m 307) 100 = some (.goto 4, 104) := by decide +kernel
theorem at_307_103 : am_at (am_m 307) 103 = some (.iconst (-1), 0) := by decide +kernel
theorem at_307_104 : am_at (am_m 307) 104 = some (.ireturn, 0) := by decide +kernel
theorem at_308_0 : am_at (am_m 308) 0 = some (.aload_n 2, 0) := by decide +kernel
theorem at_308_1 : am_at (am_m 308) 1 = some (.iconst 0, 0) := by decide +kernel
theorem at_308_2 : am_at (am_m 308) 2 = some (.aload_n 0, 0) := by decide +kernel
theorem at_308_3 : am_at (am_m 308) 3 = some (.iload_n 1, 0) := by decide +kernel
theorem at_308_4 : am_at (am_m 308) 4 = some (.invokevirtual 173, 309) := by decide +kernel
theorem at_308_7 : am_at (am_m 308) 7 = some (.i2l, 0) := by decide +kernel
theorem at_308_8 : am_at (am_m 308) 8 = some (.lastore, 0) := by decide +kernel
theorem at_308_9 : am_at (am_m 308) 9 = some (.goto 12, 21) := by decide +kernel
theorem at_308_13 : am_at (am_m 308) 13 = some (.iconst 1, 0) := by decide +kernel
theorem at_308_14 : am_at (am_m 308) 14 = some (.ireturn, 0) := by decide +kernel
theorem at_308_16 : am_at (am_m 308) 16 = some (.iconst 2, 0) := by decide +kernel
theorem at_308_17 : am_at (am_m 308) 17 = some (.ireturn, 0) := by decide +kernel
theorem at_308_19 : am_at (am_m 308) 19 = some (.iconst 3, 0) := by decide +kernel
theorem at_308_20 : am_at (am_m 308) 20 = some (.ireturn, 0) := by decide +kernel
theorem at_308_21 : am_at (am_m 308) 21 = some (.iconst 0, 0) := by decide +kernel
theorem at_308_22 : am_at (am_m 308) 22 = some (.ireturn, 0) := by decide +kernel
theorem at_309_0 : am_at (am_m 309) 0 = some (.aload_n 0, 0) := by decide +kernel
theorem at_309_1 : am_at (am_m 309) 1 = some (.iload_n 1, 0) := by decide +kernel
theorem at_309_2 : am_at (am_m 309) 2 = some (.invokevirtual 132, 63) := by decide +kernel
theorem at_309_5 : am_at (am_m 309) 5 = some (.astore_n 2, 0) := by decide +kernel
theorem at_309_6 : am_at (am_m 309) 6 = some (.aload_n 2, 0) := by decide +kernel
theorem at_309_7 : am_at (am_m 309) 7 = some (.getfield 144, 769) := by decide +kernel
theorem at_309_10 : am_at (am_m 309) 10 = some (.iconst 2, 0) := by decide +kernel
theorem at_309_11 : am_at (am_m 309) 11 = some (.if_icmp .eq 14, 25) := by decide +kernel
theorem at_309_14 : am_at (am_m 309) 14 = some (.new 114, 100) := by decide +kernel
theorem at_309_25 : am_at (am_m 309) 25 = some (.aload_n 0, 0) := by decide +kernel
theorem at_309_26 : am_at (am_m 309) 26 = some (.iconst 1, 0) := by decide +kernel
theorem at_309_27 : am_at (am_m 309) 27 = some (.invokevirtual 121, 32) := by decide +kernel
theorem at_309_30 : am_at (am_m 309) 30 = some (.aload_n 0, 0) := by decide +kernel
theorem at_309_31 : am_at (am_m 309) 31 = some (.getfield 68, 2825) := by decide +kernel
theorem at_309_34 : am_at (am_m 309) 34 = some (.aload_n 2, 0) := by decide +kernel
theorem at_309_35 : am_at (am_m 309) 35 = some (.aload_n 0, 0) := by decide +kernel
theorem at_309_36 : am_at (am_m 309) 36 = some (.getfield 90, 2831) := by decide +kernel
theorem at_309_39 : am_at (am_m 309) 39 = some (.invokevirtual 470, 310) := by decide +kernel
theorem at_309_42 : am_at (am_m 309) 42 = some (.aload_n 0, 0) := by decide +kernel
theorem at_309_43 : am_at (am_m 309) 43 = some (.aload_n 0, 0) := by decide +kernel
theorem at_309_44 : am_at (am_m 309) 44 = some (.getfield 90, 2831) := by decide +kernel
theorem at_309_47 : am_at (am_m 309) 47 = some (.bipush 7, 0) := by decide +kernel
theorem at_309_49 : am_at (am_m 309) 49 = some (.iload_n 1, 0) := by decide +kernel
theorem at_309_50 : am_at (am_m 309) 50 = some (.iconst (-1), 0) := by decide +kernel
theorem at_309_51 : am_at (am_m 309) 51 = some (.iconst (-1), 0) := by decide +kernel
theorem at_309_52 : am_at (am_m 309) 52 = some (.iconst (-1), 0) := by decide +kernel
theorem at_309_53 : am_at (am_m 309) 53 = some (.lconst 0, 0) := by decide +kernel
theorem at_309_54 : am_at (am_m 309) 54 = some (.invokevirtual 128, 59) := by decide +kernel
theorem at_309_57 : am_at (am_m 309) 57 = some (.ireturn, 0) := by decide +kernel
theorem at_310_0 : am_at (am_m 310) 0 = some (.aload_n 0, 0) := by decide +kernel
theorem at_310_1 : am_at (am_m 310) 1 = some (.aload_n 1, 0) := by decide +kernel
theorem at_310_2 : am_at (am_m 310) 2 = some (.invokevirtual 140, 311) := by decide +kernel
theorem at_310_5 : am_at (am_m 310) 5 = some (.aload_n 0, 0) := by decide +kernel
theorem at_310_6 : am_at (am_m 310) 6 = some (.getfield 45, 2567) := by decide +kernel
theorem at_310_9 : am_at (am_m 310) 9 = some (.iconst (-1), 0) := by decide +kernel
theorem at_310_10 : am_at (am_m 310) 10 = some (.invokestatic 143, 53) := by decide +kernel
theorem at_310_13 : am_at (am_m 310) 13 = some (.aload_n 0, 0) := by decide +kernel
theorem at_310_14 : am_at (am_m 310) 14 = some (.getfield 45, 2567) := by decide +kernel
theorem at_310_17 : am_at (am_m 310) 17 = some (.iconst 0, 0) := by decide +kernel
theorem at_310_18 : am_at (am_m 310) 18 = some (.iconst 0, 0) := by decide +kernel
theorem at_310_19 : am_at (am_m 310) 19 = some (.iastore, 0) := by decide +kernel
theorem at_310_20 : am_at (am_m 310) 20 = some (.iconst 1, 0) := by decide +kernel
theorem at_310_21 : am_at (am_m 310) 21 = some (.istore_n 3, 0) := by decide +kernel
theorem at_310_22 : am_at (am_m 310) 22 = some (.aload_n 0, 0) := by decide +kernel
theorem at_310_23 : am_at (am_m 310) 23 = some (.getfield 49, 2568) := by decide +kernel
theorem at_310_26 : am_at (am_m 310) 26 = some (.iconst 0, 0) := by decide +kernel
theorem at_310_27 : am_at (am_m 310) 27 = some (.iconst 0, 0) := by decide +kernel
theorem at_310_28 : am_at (am_m 310) 28 = some (.iastore, 0) := by decide +kernel
theorem at_310_29 : am_at (am_m 310) 29 = some (.aload_n 2, 0) := by decide +kernel
theorem at_310_30 : am_at (am_m 310) 30 = some (.iconst 2, 0) := by decide +kernel
theorem at_310_31 : am_at (am_m 310) 31 = some (.iconst 0, 0) := by decide +kernel
theorem at_310_32 : am_at (am_m 310) 32 = some (.invokevirtual 71, 34) := by decide +kernel
theorem at_310_35 : am_at (am_m 310) 35 = some (.iconst 0, 0) := by decide +kernel
theorem at_310_36 : am_at (am_m 310) 36 = some (.istore 4, 0) := by decide +kernel
theorem at_310_38 : am_at (am_m 310) 38 = some (.iload 4, 0) := by decide +kernel
theorem at_310_40 : am_at (am_m 310) 40 = some (.iload_n 3, 0) := by decide +kernel
theorem at_310_41 : am_at (am_m 310) 41 = some (.if_icmp .ge 123, 164) := by decide +kernel
theorem at_310_44 : am_at (am_m 310) 44 = some (.iload 4, 0) := by decide +kernel
theorem at_310_46 : am_at (am_m 310) 46 = some (.bipush 6, 0) := by decide +kernel
theorem at_310_48 : am_at (am_m 310) 48 = some (.if_icmp .ge 116, 164) := by decide +kernel
theorem at_310_51 : am_at (am_m 310) 51 = some (.aload_n 2, 0) := by decide +kernel
theorem at_310_52 : am_at (am_m 310) 52 = some (.aload_n 1, 0) := by decide +kernel
theorem at_310_53 : am_at (am_m 310) 53 = some (.aload_n 0, 0) := by decide +kernel
theorem at_310_54 : am_at (am_m 310) 54 = some (.getfield 49, 2568) := by decide +kernel
theorem at_310_57 : am_at (am_m 310) 57 = some (.iload 4, 0) := by decide +kernel
theorem at_310_59 : am_at (am_m 310) 59 = some (.iaload, 0) := by decide +kernel
theorem at_310_60 : am_at (am_m 310) 60 = some (.iconst 0, 0) := by decide +kernel
theorem at_310_61 : am_at (am_m 310) 61 = some (.invokevirtual 83, 54) := by decide +kernel
theorem at_310_64 : am_at (am_m 310) 64 = some (.iconst 0, 0) := by decide +kernel
theorem at_310_65 : am_at (am_m 310) 65 = some (.invokevirtual 87, 41) := by decide +kernel
theorem at_310_68 : am_at (am_m 310) 68 = some (.pop, 0) := by decide +kernel
theorem at_310_69 : am_at (am_m 310) 69 = some (.iconst 0, 0) := by decide +kernel
theorem at_310_70 : am_at (am_m 310) 70 = some (.istore 5, 0) := by decide +kernel
theorem at_310_72 : am_at (am_m 310) 72 = some (.iload 5, 0) := by decide +kernel
theorem at_310_74 : am_at (am_m 310) 74 = some (.iconst 4, 0) := by decide +kernel
theorem at_310_75 : am_at (am_m 310) 75 = some (.if_icmp .ge 83, 158) := by decide +kernel
theorem at_310_78 : am_at (am_m 310) 78 = some (.aload_n 0, 0) := by decide +kernel
theorem at_310_79 : am_at (am_m 310) 79 = some (.aload_n 1, 0) := by decide +kernel
theorem at_310_80 : am_at (am_m 310) 80 = some (.aload_n 1, 0) := by decide +kernel
theorem at_310_81 : am_at (am_m 310) 81 = some (.aload_n 0, 0) := by decide +kernel
theorem at_310_82 : am_at (am_m 310) 82 = some (.getfield 49, 2568) := by decide +kernel
theorem at_310_85 : am_at (am_m 310) 85 = some (.iload 4, 0) := by decide +kernel
theorem at_310_87 : am_at (am_m 310) 87 = some (.iaload, 0) := by decide +kernel
theorem at_310_88 : am_at (am_m 310) 88 = some (.iconst 1, 0) := by decide +kernel
theorem at_310_89 : am_at (am_m 310) 89 = some (.iload 5, 0) := by decide +kernel
theorem at_310_91 : am_at (am_m 310) 91 = some (.iadd, 0) := by decide +kernel
theorem at_310_92 : am_at (am_m 310) 92 = some (.invokevirtual 83, 54) := by decide +kernel
theorem at_310_95 : am_at (am_m 310) 95 = some (.invokevirtual 149, 312) := by decide +kernel
theorem at_310_98 : am_at (am_m 310) 98 = some (.istore 6, 0) := by decide +kernel
theorem at_310_100 : am_at (am_m 310) 100 = some (.aload_n 0, 0) := by decide +kernel
theorem at_310_101 : am_at (am_m 310) 101 = some (.getfield 45, 2567) := by decide +kernel
theorem at_310_104 : am_at (am_m 310) 104 = some (.iload 6, 0) := by decide +kernel
theorem at_310_106 : am_at (am_m 310) 106 = some (.iaload, 0) := by decide +kernel
theorem at_310_107 : am_at (am_m 310) 107 = some (.ifCond .ge 28, 135) := by decide +kernel
theorem at_310_110 : am_at (am_m 310) 110 = some (.iload_n 3, 0) := by decide +kernel
theorem at_310_111 : am_at (am_m 310) 111 = some (.bipush 6, 0) := by decide +kernel
theorem at_310_113 : am_at (am_m 310) 113 = some (.if_icmp .ge 22, 135) := by decide +kernel
theorem at_310_116 : am_at (am_m 310) 116 = some (.aload_n 0, 0) := by decide +kernel
theorem at_310_117 : am_at (am_m 310) 117 = some (.getfield 45, 2567) := by decide +kernel
theorem at_310_120 : am_at (am_m 310) 120 = some (.iload 6, 0) := by decide +kernel
theorem at_310_122 : am_at (am_m 310) 122 = some (.iload_n 3, 0) := by decide +kernel
theorem at_310_123 : am_at (am_m 310) 123 = some (.iastore, 0) := by decide +kernel
theorem at_310_124 : am_at (am_m 310) 124 = some (.aload_n 0, 0) := by decide +kernel
theorem at_310_125 : am_at (am_m 310) 125 = some (.getfield 49, 2568) := by decide +kernel
theorem at_310_128 : am_at (am_m 310) 128 = some (.iload_n 3, 0) := by decide +kernel
theorem at_310_129 : am_at (am_m 310) 129 = some (.iload 6, 0) := by decide +kernel
theorem at_310_131 : am_at (am_m 310) 131 = some (.iastore, 0) := by decide +kernel
theorem at_310_132 : am_at (am_m 310) 132 = some (.iinc 3 1, 0) := by decide +kernel
theorem at_310_135 : am_at (am_m 310) 135 = some (.aload_n 2, 0) := by decide +kernel
theorem at_310_136 : am_at (am_m 310) 136 = some (.iload 4, 0) := by decide +kernel
theorem at_310_138 : am_at (am_m 310) 138 = some (.iconst 1, 0) := by decide +kernel
theorem at_310_139 : am_at (am_m 310) 139 = some (.iload 5, 0) := by decide +kernel
theorem at_310_141 : am_at (am_m 310) 141 = some (.iadd, 0) := by decide +kernel
theorem at_310_142 : am_at (am_m 310) 142 = some (.aload_n 0, 0) := by decide +kernel
theorem at_310_143 : am_at (am_m 310) 143 = some (.getfield 45, 2567) := by decide +kernel
theorem at_310_146 : am_at (am_m 310) 146 = some (.iload 6, 0) := by decide +kernel
theorem at_310_148 : am_at (am_m 310) 148 = some (.iaload, 0) := by decide +kernel
theorem at_310_149 : am_at (am_m 310) 149 = some (.invokevirtual 103, 51) := by decide +kernel
theorem at_310_152 : am_at (am_m 310) 152 = some (.iinc 5 1, 0) := by decide +kernel
theorem at_310_155 : am_at (am_m 310) 155 = some (.goto (-83), 72) := by decide +kernel
theorem at_310_158 : am_at (am_m 310) 158 = some (.iinc 4 1, 0) := by decide +kernel
theorem at_310_161 : am_at (am_m 310) 161 = some (.goto (-123), 38) := by decide +kernel
theorem at_310_164 : am_at (am_m 310) 164 = some (.return_, 0) := by decide +kernel
theorem at_311_0 : am_at (am_m 311) 0 = some (.bipush 6, 0) := by decide +kernel
theorem at_311_2 : am_at (am_m 311) 2 = some (.aload_n 1, 0) := by decide +kernel
theorem at_311_3 : am_at (am_m 311) 3 = some (.getfield 62, 771) := by decide +kernel
theorem at_311_6 : am_at (am_m 311) 6 = some (.imul, 0) := by decide +kernel
theorem at_311_7 : am_at (am_m 311) 7 = some (.istore_n 2, 0) := by decide +kernel
theorem at_311_8 : am_at (am_m 311) 8 = some (.iconst 0, 0) := by decide +kernel
theorem at_311_9 : am_at (am_m 311) 9 = some (.istore_n 3, 0) := by decide +kernel
theorem at_311_10 : am_at (am_m 311) 10 = some (.iload_n 3, 0) := by decide +kernel
theorem at_311_11 : am_at (am_m 311) 11 = some (.iload_n 2, 0) := by decide +kernel
theorem at_311_12 : am_at (am_m 311) 12 = some (.if_icmp .ge 41, 53) := by decide +kernel
theorem at_311_15 : am_at (am_m 311) 15 = some (.aload_n 0, 0) := by decide +kernel
theorem at_311_16 : am_at (am_m 311) 16 = some (.getfield 41, 2566) := by decide +kernel
theorem at_311_19 : am_at (am_m 311) 19 = some (.iload_n 3, 0) := by decide +kernel
theorem at_311_20 : am_at (am_m 311) 20 = some (.aload_n 1, 0) := by decide +kernel
theorem at_311_21 : am_at (am_m 311) 21 = some (.iload_n 3, 0) := by decide +kernel
theorem at_311_22 : am_at (am_m 311) 22 = some (.bipush 6, 0) := by decide +kernel
theorem at_311_24 : am_at (am_m 311) 24 = some (.idiv, 0) := by decide +kernel
theorem at_311_25 : am_at (am_m 311) 25 = some (.iconst 0, 0) := by decide +kernel
theorem at_311_26 : am_at (am_m 311) 26 = some (.invokevirtual 83, 54) := by decide +kernel
theorem at_311_29 : am_at (am_m 311) 29 = some (.aload_n 1, 0) := by decide +kernel
theorem at_311_30 : am_at (am_m 311) 30 = some (.iload_n 3, 0) := by decide +kernel
theorem at_311_31 : am_at (am_m 311) 31 = some (.bipush 6, 0) := by decide +kernel
theorem at_311_33 : am_at (am_m 311) 33 = some (.irem, 0) := by decide +kernel
theorem at_311_34 : am_at (am_m 311) 34 = some (.iconst 0, 0) := by decide +kernel
theorem at_311_35 : am_at (am_m 311) 35 = some (.invokevirtual 83, 54) := by decide +kernel
theorem at_311_38 : am_at (am_m 311) 38 = some (.if_icmp .eq 7, 45) := by decide +kernel
theorem at_311_41 : am_at (am_m 311) 41 = some (.iconst 1, 0) := by decide +kernel
theorem at_311_42 : am_at (am_m 311) 42 = some (.goto 4, 46) := by decide +kernel
theorem at_311_45 : am_at (am_m 311) 45 = some (.iconst 0, 0) := by decide +kernel
theorem at_311_46 : am_at (am_m 311) 46 = some (.bastore, 0) := by decide +kernel
theorem at_311_47 : am_at (am_m 311) 47 = some (.iinc 3 1, 0) := by decide +kernel
theorem at_311_50 : am_at (am_m 311) 50 = some (.goto (-40), 10) := by decide +kernel
theorem at_311_53 : am_at (am_m 311) 53 = some (.iconst 0, 0) := by decide +kernel
theorem at_311_54 : am_at (am_m 311) 54 = some (.istore_n 3, 0) := by decide +kernel
theorem at_311_55 : am_at (am_m 311) 55 = some (.iload_n 3, 0) := by decide +kernel
theorem at_311_56 : am_at (am_m 311) 56 = some (.bipush 6, 0) := by decide +kernel
theorem at_311_58 : am_at (am_m 311) 58 = some (.if_icmp .ge 110, 168) := by decide +kernel
theorem at_311_61 : am_at (am_m 311) 61 = some (.iconst 0, 0) := by decide +kernel
theorem at_311_62 : am_at (am_m 311) 62 = some (.istore 4, 0) := by decide +kernel
theorem at_311_64 : am_at (am_m 311) 64 = some (.iload 4, 0) := by decide +kernel
theorem at_311_66 : am_at (am_m 311) 66 = some (.iload_n 2, 0) := by decide +kernel
theorem at_311_67 : am_at (am_m 311) 67 = some (.iconst 4, 0) := by decide +kernel
theorem at_311_68 : am_at (am_m 311) 68 = some (.imul, 0) := by decide +kernel
theorem at_311_69 : am_at (am_m 311) 69 = some (.if_icmp .ge 93, 162) := by decide +kernel
theorem at_311_72 : am_at (am_m 311) 72 = some (.iload 4, 0) := by decide +kernel
theorem at_311_74 : am_at (am_m 311) 74 = some (.iconst 4, 0) := by decide +kernel
theorem at_311_75 : am_at (am_m 311) 75 = some (.idiv, 0) := by decide +kernel
theorem at_311_76 : am_at (am_m 311) 76 = some (.bipush 6, 0) := by decide +kernel
theorem at_311_78 : am_at (am_m 311) 78 = some (.idiv, 0) := by decide +kernel
theorem at_311_79 : am_at (am_m 311) 79 = some (.istore 5, 0) := by decide +kernel
theorem at_311_81 : am_at (am_m 311) 81 = some (.iload 4, 0) := by decide +kernel
theorem at_311_83 : am_at (am_m 311) 83 = some (.iconst 4, 0) := by decide +kernel
theorem at_311_84 : am_at (am_m 311) 84 = some (.idiv, 0) := by decide +kernel
theorem at_311_85 : am_at (am_m 311) 85 = some (.bipush 6, 0) := by decide +kernel
theorem at_311_87 : am_at (am_m 311) 87 = some (.irem, 0) := by decide +kernel
theorem at_311_88 : am_at (am_m 311) 88 = some (.istore 6, 0) := by decide +kernel
theorem at_311_90 : am_at (am_m 311) 90 = some (.iconst 1, 0) := by decide +kernel
theorem at_311_91 : am_at (am_m 311) 91 = some (.iload 4, 0) := by decide +kernel
theorem at_311_93 : am_at (am_m 311) 93 = some (.iconst 4, 0) := by decide +kernel
theorem at_311_94 : am_at (am_m 311) 94 = some (.irem, 0) := by decide +kernel
theorem at_311_95 : am_at (am_m 311) 95 = some (.iadd, 0) := by decide +kernel
theorem at_311_96 : am_at (am_m 311) 96 = some (.istore 7, 0) := by decide +kernel
theorem at_311_98 : am_at (am_m 311) 98 = some (.bipush 6, 0) := by decide +kernel
theorem at_311_100 : am_at (am_m 311) 100 = some (.aload_n 1, 0) := by decide +kernel
theorem at_311_101 : am_at (am_m 311) 101 = some (.iload 5, 0) := by decide +kernel
theorem at_311_103 : am_at (am_m 311) 103 = some (.iload 7, 0) := by decide +kernel
theorem at_311_105 : am_at (am_m 311) 105 = some (.invokevirtual 83, 54) := by decide +kernel
theorem at_311_108 : am_at (am_m 311) 108 = some (.imul, 0) := by decide +kernel
theorem at_311_109 : am_at (am_m 311) 109 = some (.aload_n 1, 0) := by decide +kernel
theorem at_311_110 : am_at (am_m 311) 110 = some (.iload 6, 0) := by decide +kernel
theorem at_311_112 : am_at (am_m 311) 112 = some (.iload 7, 0) := by decide +kernel
theorem at_311_114 : am_at (am_m 311) 114 = some (.invokevirtual 83, 54) := by decide +kernel
theorem at_311_117 : am_at (am_m 311) 117 = some (.iadd, 0) := by decide +kernel
theorem at_311_118 : am_at (am_m 311) 118 = some (.istore 8, 0) := by decide +kernel
theorem at_311_120 : am_at (am_m 311) 120 = some (.aload_n 0, 0) := by decide +kernel
theorem at_311_121 : am_at (am_m 311) 121 = some (.getfield 41, 2566) := by decide +kernel
theorem at_311_124 : am_at (am_m 311) 124 = some (.iload 4, 0) := by decide +kernel
theorem at_311_126 : am_at (am_m 311) 126 = some (.iconst 4, 0) := by decide +kernel
theorem at_311_127 : am_at (am_m 311) 127 = some (.idiv, 0) := by decide +kernel
theorem at_311_128 : am_at (am_m 311) 128 = some (.aload_n 0, 0) := by decide +kernel
theorem at_311_129 : am_at (am_m 311) 129 = some (.getfield 41, 2566) := by decide +kernel
theorem at_311_132 : am_at (am_m 311) 132 = some (.iload 4, 0) := by decide +kernel
theorem at_311_134 : am_at (am_m 311) 134 = some (.iconst 4, 0) := by decide +kernel
theorem at_311_135 : am_at (am_m 311) 135 = some (.idiv, 0) := by decide +kernel
theorem at_311_136 : am_at (am_m 311) 136 = some (.baload, 0) := by decide +kernel
theorem at_311_137 : am_at (am_m 311) 137 = some (.ifCond .ne 13, 150) := by decide +kernel
theorem at_311_140 : am_at (am_m 311) 140 = some (.aload_n 0, 0) := by decide +kernel
theorem at_311_141 : am_at (am_m 311) 141 = some (.getfield 41, 2566) := by decide +kernel
theorem at_311_144 : am_at (am_m 311) 144 = some (.iload 8, 0) := by decide +kernel
theorem at_311_146 : am_at (am_m 311) 146 = some (.baload, 0) := by decide +kernel
theorem at_311_147 : am_at (am_m 311) 147 = some (.ifCond .eq 7, 154) := by decide +kernel
theorem at_311_150 : am_at (am_m 311) 150 = some (.iconst 1, 0) := by decide +kernel
theorem at_311_151 : am_at (am_m 311) 151 = some (.goto 4, 155) := by decide +kernel
theorem at_311_154 : am_at (am_m 311) 154 = some (.iconst 0, 0) := by decide +kernel
theorem at_311_155 : am_at (am_m 311) 155 = some (.bastore, 0) := by decide +kernel
theorem at_311_156 : am_at (am_m 311) 156 = some (.iinc 4 1, 0) := by decide +kernel
theorem at_311_159 : am_at (am_m 311) 159 = some (.goto (-95), 64) := by decide +kernel
theorem at_311_162 : am_at (am_m 311) 162 = some (.iinc 3 1, 0) := by decide +kernel
theorem at_311_165 : am_at (am_m 311) 165 = some (.goto (-110), 55) := by decide +kernel
theorem at_311_168 : am_at (am_m 311) 168 = some (.return_, 0) := by decide +kernel
theorem at_312_0 : am_at (am_m 312) 0 = some (.iconst 0, 0) := by decide +kernel
theorem at_312_1 : am_at (am_m 312) 1 = some (.istore_n 3, 0) := by decide +kernel
theorem at_312_2 : am_at (am_m 312) 2 = some (.iload_n 3, 0) := by decide +kernel
theorem at_312_3 : am_at (am_m 312) 3 = some (.aload_n 1, 0) := by decide +kernel
theorem at_312_4 : am_at (am_m 312) 4 = some (.getfield 62, 771) := by decide +kernel
theorem at_312_7 : am_at (am_m 312) 7 = some (.if_icmp .ge 25, 32) := by decide +kernel
theorem at_312_10 : am_at (am_m 312) 10 = some (.aload_n 0, 0) := by decide +kernel
theorem at_312_11 : am_at (am_m 312) 11 = some (.getfield 41, 2566) := by decide +kernel
theorem at_312_14 : am_at (am_m 312) 14 = some (.bipush 6, 0) := by decide +kernel
theorem at_312_16 : am_at (am_m 312) 16 = some (.iload_n 3, 0) := by decide +kernel
theorem at_312_17 : am_at (am_m 312) 17 = some (.imul, 0) := by decide +kernel
theorem at_312_18 : am_at (am_m 312) 18 = some (.iload_n 2, 0) := by decide +kernel
theorem at_312_19 : am_at (am_m 312) 19 = some (.iadd, 0) := by decide +kernel
theorem at_312_20 : am_at (am_m 312) 20 = some (.baload, 0) := by decide +kernel
theorem at_312_21 : am_at (am_m 312) 21 = some (.ifCond .ne 5, 26) := by decide +kernel
theorem at_312_24 : am_at (am_m 312) 24 = some (.iload_n 3, 0) := by decide +kernel
theorem at_312_25 : am_at (am_m 312) 25 = some (.ireturn, 0) := by decide +kernel
theorem at_312_26 : am_at (am_m 312) 26 = some (.iinc 3 1, 0) := by decide +kernel
theorem at_312_29 : am_at (am_m 312) 29 = some (.goto (-27), 2) := by decide +kernel
theorem at_312_32 : am_at (am_m 312) 32 = some (.iload_n 2, 0) := by decide +kernel
theorem at_312_33 : am_at (am_m 312) 33 = some (.ireturn, 0) := by decide +kernel
theorem at_313_0 : am_at (am_m 313) 0 = some (.aload_n 2, 0) := by decide +kernel
theorem at_313_1 : am_at (am_m 313) 1 = some (.iconst 0, 0) := by decide +kernel
theorem at_313_2 : am_at (am_m 313) 2 = some (.aload_n 0, 0) := by decide +kernel
theorem at_313_3 : am_at (am_m 313) 3 = some (.iload_n 1, 0) := by decide +kernel
theorem at_313_4 : am_at (am_m 313) 4 = some (.invokevirtual 176, 314) := by decide +kernel
theorem at_313_7 : am_at (am_m 313) 7 = some (.i2l, 0) := by decide +kernel
theorem at_313_8 : am_at (am_m 313) 8 = some (.lastore, 0) := by decide +kernel
theorem at_313_9 : am_at (am_m 313) 9 = some (.goto 12, 21) := by decide +kernel
theorem at_313_13 : am_at (am_m 313) 13 = some (.iconst 1, 0) := by decide +kernel
theorem at_313_14 : am_at (am_m 313) 14 = some (.ireturn, 0) := by decide +kernel
theorem at_313_16 : am_at (am_m 313) 16 = some (.iconst 2, 0) := by decide +kernel
theorem at_313_17 : am_at (am_m 313) 17 = some (.ireturn, 0) := by decide +kernel
theorem at_313_19 : am_at (am_m 313) 19 = some (.iconst 3, 0) := by decide +kernel
theorem at_313_20 : am_at (am_m 313) 20 = some (.ireturn, 0) := by decide +kernel
theorem at_313_21 : am_at (am_m 313) 21 = some (.iconst 0, 0) := by decide +kernel
theorem at_313_22 : am_at (am_m 313) 22 = some (.ireturn, 0) := by decide +kernel
theorem at_314_0 : am_at (am_m 314) 0 = some (.aload_n 0, 0) := by decide +kernel
theorem at_314_1 : am_at (am_m 314) 1 = some (.iload_n 1, 0) := by decide +kernel
theorem at_314_2 : am_at (am_m 314) 2 = some (.invokevirtual 474, 315) := by decide +kernel
theorem at_314_5 : am_at (am_m 314) 5 = some (.astore_n 2, 0) := by decide +kernel
theorem at_314_6 : am_at (am_m 314) 6 = some (.aload_n 0, 0) := by decide +kernel
theorem at_314_7 : am_at (am_m 314) 7 = some (.iconst 1, 0) := by decide +kernel
theorem at_314_8 : am_at (am_m 314) 8 = some (.invokevirtual 121, 32) := by decide +kernel
theorem at_314_11 : am_at (am_m 314) 11 = some (.aload_n 0, 0) := by decide +kernel
theorem at_314_12 : am_at (am_m 314) 12 = some (.getfield 68, 2825) := by decide +kernel
theorem at_314_15 : am_at (am_m 314) 15 = some (.aload_n 2, 0) := by decide +kernel
theorem at_314_16 : am_at (am_m 314) 16 = some (.aload_n 0, 0) := by decide +kernel
theorem at_314_17 : am_at (am_m 314) 17 = some (.getfield 90, 2831) := by decide +kernel
theorem at_314_20 : am_at (am_m 314) 20 = some (.invokevirtual 477, 316) := by decide +kernel
theorem at_314_23 : am_at (am_m 314) 23 = some (.aload_n 0, 0) := by decide +kernel
theorem at_314_24 : am_at (am_m 314) 24 = some (.aload_n 0, 0) := by decide +kernel
theorem at_314_25 : am_at (am_m 314) 25 = some (.getfield 90, 2831) := by decide +kernel
theorem at_314_28 : am_at (am_m 314) 28 = some (.bipush 7, 0) := by decide +kernel
theorem at_314_30 : am_at (am_m 314) 30 = some (.iload_n 1, 0) := by decide +kernel
theorem at_314_31 : am_at (am_m 314) 31 = some (.iconst (-1), 0) := by decide +kernel
theorem at_314_32 : am_at (am_m 314) 32 = some (.iconst (-1), 0) := by decide +kernel
theorem at_314_33 : am_at (am_m 314) 33 = some (.iconst (-1), 0) := by decide +kernel
theorem at_314_34 : am_at (am_m 314) 34 = some (.lconst 0, 0) := by decide +kernel
theorem at_314_35 : am_at (am_m 314) 35 = some (.invokevirtual 128, 59) := by decide +kernel
theorem at_314_38 : am_at (am_m 314) 38 = some (.ireturn, 0) := by decide +kernel
theorem at_315_0 : am_at (am_m 315) 0 = some (.aload_n 0, 0) := by decide +kernel
theorem at_315_1 : am_at (am_m 315) 1 = some (.iload_n 1, 0) := by decide +kernel
theorem at_315_2 : am_at (am_m 315) 2 = some (.invokevirtual 132, 63) := by decide +kernel
theorem at_315_5 : am_at (am_m 315) 5 = some (.astore_n 2, 0) := by decide +kernel
theorem at_315_6 : am_at (am_m 315) 6 = some (.aload_n 2, 0) := by decide +kernel
theorem at_315_7 : am_at (am_m 315) 7 = some (.getfield 144, 769) := by decide +kernel
theorem at_315_10 : am_at (am_m 315) 10 = some (.iconst 3, 0) := by decide +kernel
theorem at_315_11 : am_at (am_m 315) 11 = some (.if_icmp .eq 14, 25) := by decide +kernel
theorem at_315_14 : am_at (am_m 315) 14 = some (.new 114, 100) := by decide +kernel
theorem at_315_25 : am_at (am_m 315) 25 = some (.aload_n 2, 0) := by decide +kernel
theorem at_315_26 : am_at (am_m 315) 26 = some (.areturn, 0) := by decide +kernel
theorem at_316_0 : am_at (am_m 316) 0 = some (.lconst 0, 0) := by decide +kernel
theorem at_316_1 : am_at (am_m 316) 1 = some (.lstore_n 3, 0) := by decide +kernel
theorem at_316_2 : am_at (am_m 316) 2 = some (.iconst 0, 0) := by decide +kernel
theorem at_316_3 : am_at (am_m 316) 3 = some (.istore 5, 0) := by decide +kernel
theorem at_316_5 : am_at (am_m 316) 5 = some (.iload 5, 0) := by decide +kernel
theorem at_316_7 : am_at (am_m 316) 7 = some (.iconst 1, 0) := by decide +kernel
theorem at_316_8 : am_at (am_m 316) 8 = some (.aload_n 1, 0) := by decide +kernel
theorem at_316_9 : am_at (am_m 316) 9 = some (.getfield 161, 770) := by decide +kernel
theorem at_316_12 : am_at (am_m 316) 12 = some (.ishl, 0) := by decide +kernel
theorem at_316_13 : am_at (am_m 316) 13 = some (.if_icmp .ge 74, 87) := by decide +kernel
theorem at_316_16 : am_at (am_m 316) 16 = some (.iload 5, 0) := by decide +kernel
theorem at_316_18 : am_at (am_m 316) 18 = some (.istore 6, 0) := by decide +kernel
theorem at_316_20 : am_at (am_m 316) 20 = some (.iconst 0, 0) := by decide +kernel
theorem at_316_21 : am_at (am_m 316) 21 = some (.istore 7, 0) := by decide +kernel
theorem at_316_23 : am_at (am_m 316) 23 = some (.iload 7, 0) := by decide +kernel
theorem at_316_25 : am_at (am_m 316) 25 = some (.aload_n 1, 0) := by decide +kernel
theorem at_316_26 : am_at (am_m 316) 26 = some (.getfield 62, 771) := by decide +kernel
theorem at_316_29 : am_at (am_m 316) 29 = some (.if_icmp .ge 52, 81) := by decide +kernel
theorem at_316_32 : am_at (am_m 316) 32 = some (.iload 6, 0) := by decide +kernel
theorem at_316_34 : am_at (am_m 316) 34 = some (.aload_n 1, 0) := by decide +kernel
theorem at_316_35 : am_at (am_m 316) 35 = some (.iload 7, 0) := by decide +kernel
theorem at_316_37 : am_at (am_m 316) 37 = some (.iconst 0, 0) := by decide +kernel
theorem at_316_38 : am_at (am_m 316) 38 = some (.invokevirtual 83, 54) := by decide +kernel
theorem at_316_41 : am_at (am_m 316) 41 = some (.aload_n 1, 0) := by decide +kernel
theorem at_316_42 : am_at (am_m 316) 42 = some (.iload 7, 0) := by decide +kernel
theorem at_316_44 : am_at (am_m 316) 44 = some (.iconst 1, 0) := by decide +kernel
theorem at_316_45 : am_at (am_m 316) 45 = some (.invokevirtual 83, 54) := by decide +kernel
theorem at_316_48 : am_at (am_m 316) 48 = some (.invokestatic 157, 292) := by decide +kernel
theorem at_316_51 : am_at (am_m 316) 51 = some (.istore 8, 0) := by decide +kernel
theorem at_316_53 : am_at (am_m 316) 53 = some (.lload_n 3, 0) := by decide +kernel
theorem at_316_54 : am_at (am_m 316) 54 = some (.iload 8, 0) := by decide +kernel
theorem at_316_56 : am_at (am_m 316) 56 = some (.iload 6, 0) := by decide +kernel
theorem at_316_58 : am_at (am_m 316) 58 = some (.if_icmp .eq 10, 68) := by decide +kernel
theorem at_316_61 : am_at (am_m 316) 61 = some (.lconst 1, 0) := by decide +kernel
theorem at_316_62 : am_at (am_m 316) 62 = some (.iload 7, 0) := by decide +kernel
theorem at_316_64 : am_at (am_m 316) 64 = some (.lshl, 0) := by decide +kernel
theorem at_316_65 : am_at (am_m 316) 65 = some (.goto 4, 69) := by decide +kernel
theorem at_316_68 : am_at (am_m 316) 68 = some (.lconst 0, 0) := by decide +kernel
theorem at_316_69 : am_at (am_m 316) 69 = some (.lor, 0) := by decide +kernel
theorem at_316_70 : am_at (am_m 316) 70 = some (.lstore_n 3, 0) := by decide +kernel
theorem at_316_71 : am_at (am_m 316) 71 = some (.iload 8, 0) := by decide +kernel
theorem at_316_73 : am_at (am_m 316) 73 = some (.istore 6, 0) := by decide +kernel
theorem at_316_75 : am_at (am_m 316) 75 = some (.iinc 7 1, 0) := by decide +kernel
theorem at_316_78 : am_at (am_m 316) 78 = some (.goto (-55), 23) := by decide +kernel
theorem at_316_81 : am_at (am_m 316) 81 = some (.iinc 5 1, 0) := by decide +kernel
theorem at_316_84 : am_at (am_m 316) 84 = some (.goto (-79), 5) := by decide +kernel
theorem at_316_87 : am_at (am_m 316) 87 = some (.aload_n 2, 0) := by decide +kernel
theorem at_316_88 : am_at (am_m 316) 88 = some (.iconst 3, 0) := by decide +kernel
theorem at_316_89 : am_at (am_m 316) 89 = some (.aload_n 1, 0) := by decide +kernel
theorem at_316_90 : am_at (am_m 316) 90 = some (.getfield 161, 770) := by decide +kernel
theorem at_316_93 : am_at (am_m 316) 93 = some (.invokevirtual 71, 34) := by decide +kernel
theorem at_316_96 : am_at (am_m 316) 96 = some (.iconst 0, 0) := by decide +kernel
theorem at_316_97 : am_at (am_m 316) 97 = some (.istore 5, 0) := by decide +kernel
theorem at_316_99 : am_at (am_m 316) 99 = some (.iload 5, 0) := by decide +kernel
theorem at_316_101 : am_at (am_m 316) 101 = some (.aload_n 1, 0) := by decide +kernel
theorem at_316_102 : am_at (am_m 316) 102 = some (.getfield 62, 771) := by decide +kernel
theorem at_316_105 : am_at (am_m 316) 105 = some (.if_icmp .ge 32, 137) := by decide +kernel
theorem at_316_108 : am_at (am_m 316) 108 = some (.lload_n 3, 0) := by decide +kernel
theorem at_316_109 : am_at (am_m 316) 109 = some (.iload 5, 0) := by decide +kernel
theorem at_316_111 : am_at (am_m 316) 111 = some (.lshr, 0) := by decide +kernel
theorem at_316_112 : am_at (am_m 316) 112 = some (.lconst 1, 0) := by decide +kernel
theorem at_316_113 : am_at (am_m 316) 113 = some (.land, 0) := by decide +kernel
theorem at_316_114 : am_at (am_m 316) 114 = some (.lconst 1, 0) := by decide +kernel
theorem at_316_115 : am_at (am_m 316) 115 = some (.lcmp, 0) := by decide +kernel
theorem at_316_116 : am_at (am_m 316) 116 = some (.ifCond .ne 15, 131) := by decide +kernel
theorem at_316_119 : am_at (am_m 316) 119 = some (.aload_n 2, 0) := by decide +kernel
theorem at_316_120 : am_at (am_m 316) 120 = some (.aload_n 1, 0) := by decide +kernel
theorem at_316_121 : am_at (am_m 316) 121 = some (.iload 5, 0) := by decide +kernel
theorem at_316_123 : am_at (am_m 316) 123 = some (.iload 5, 0) := by decide +kernel
theorem at_316_125 : am_at (am_m 316) 125 = some (.iconst 1, 0) := by decide +kernel
theorem at_316_126 : am_at (am_m 316) 126 = some (.iadd, 0) := by decide +kernel
theorem at_316_127 : am_at (am_m 316) 127 = some (.invokevirtual 136, 170) := by decide +kernel
theorem at_316_130 : am_at (am_m 316) 130 = some (.pop, 0) := by decide +kernel
theorem at_316_131 : am_at (am_m 316) 131 = some (.iinc 5 1, 0) := by decide +kernel
theorem at_316_134 : am_at (am_m 316) 134 = some (.goto (-35), 99) := by decide +kernel
theorem at_316_137 : am_at (am_m 316) 137 = some (.return_, 0) := by decide +kernel
theorem at_317_0 : am_at (am_m 317) 0 = some (.aload_n 2, 0) := by decide +kernel
theorem at_317_1 : am_at (am_m 317) 1 = some (.iconst 0, 0) := by decide +kernel
theorem at_317_2 : am_at (am_m 317) 2 = some (.aload_n 0, 0) := by decide +kernel
theorem at_317_3 : am_at (am_m 317) 3 = some (.iload_n 1, 0) := by decide +kernel
theorem at_317_4 : am_at (am_m 317) 4 = some (.invokevirtual 179, 318) := by decide +kernel
theorem at_317_7 : am_at (am_m 317) 7 = some (.i2l, 0) := by decide +kernel
theorem at_317_8 : am_at (am_m 317) 8 = some (.lastore, 0) := by decide +kernel
theorem at_317_9 : am_at (am_m 317) 9 = some (.goto 9, 18) := by decide +kernel
theorem at_317_13 : am_at (am_m 317) 13 = some (.iconst 1, 0) := by decide +kernel
theorem at_317_14 : am_at (am_m 317) 14 = some (.ireturn, 0) := by decide +kernel
theorem at_317_16 : am_at (am_m 317) 16 = some (.iconst 2, 0) := by decide +kernel
theorem at_317_17 : am_at (am_m 317) 17 = some (.ireturn, 0) := by decide +kernel
theorem at_317_18 : am_at (am_m 317) 18 = some (.iconst 0, 0) := by decide +kernel
theorem at_317_19 : am_at (am_m 317) 19 = some (.ireturn, 0) := by decide +kernel
theorem at_318_0 : am_at (am_m 318) 0 = some (.aload_n 0, 0) := by decide +kernel
theorem at_318_1 : am_at (am_m 318) 1 = some (.getfield 68, 2825) := by decide +kernel
theorem at_318_4 : am_at (am_m 318) 4 = some (.aload_n 0, 0) := by decide +kernel
theorem at_318_5 : am_at (am_m 318) 5 = some (.iload_n 1, 0) := by decide +kernel
theorem at_318_6 : am_at (am_m 318) 6 = some (.invokevirtual 474, 315) := by decide +kernel
theorem at_318_9 : am_at (am_m 318) 9 = some (.invokevirtual 480, 319) := by decide +kernel
theorem at_318_12 : am_at (am_m 318) 12 = some (.ireturn, 0) := by decide +kernel
theorem at_319_0 : am_at (am_m 319) 0 = some (.iconst 0, 0) := by decide +kernel
theorem at_319_1 : am_at (am_m 319) 1 = some (.istore_n 2, 0) := by decide +kernel
theorem at_319_2 : am_at (am_m 319) 2 = some (.iload_n 2, 0) := by decide +kernel
theorem at_319_3 : am_at (am_m 319) 3 = some (.iconst 1, 0) := by decide +kernel
theorem at_319_4 : am_at (am_m 319) 4 = some (.aload_n 1, 0) := by decide +kernel
theorem at_319_5 : am_at (am_m 319) 5 = some (.getfield 161, 770) := by decide +kernel
theorem at_319_8 : am_at (am_m 319) 8 = some (.ishl, 0) := by decide +kernel
theorem at_319_9 : am_at (am_m 319) 9 = some (.if_icmp .ge 43, 52) := by decide +kernel
theorem at_319_12 : am_at (am_m 319) 12 = some (.aload_n 1, 0) := by decide +kernel
theorem at_319_13 : am_at (am_m 319) 13 = some (.iload_n 2, 0) := by decide +kernel
theorem at_319_14 : am_at (am_m 319) 14 = some (.invokestatic 164, 291) := by decide +kernel
theorem at_319_17 : am_at (am_m 319) 17 = some (.istore_n 3, 0) := by decide +kernel
theorem at_319_18 : am_at (am_m 319) 18 = some (.iload_n 3, 0) := by decide +kernel
theorem at_319_19 : am_at (am_m 319) 19 = some (.invokestatic 167, 242) := by decide +kernel
theorem at_319_22 : am_at (am_m 319) 22 = some (.istore 4, 0) := by decide +kernel
theorem at_319_24 : am_at (am_m 319) 24 = some (.iload_n 3, 0) := by decide +kernel
theorem at_319_25 : am_at (am_m 319) 25 = some (.iconst 1, 0) := by decide +kernel
theorem at_319_26 : am_at (am_m 319) 26 = some (.aload_n 1, 0) := by decide +kernel
theorem at_319_27 : am_at (am_m 319) 27 = some (.getfield 161, 770) := by decide +kernel
theorem at_319_30 : am_at (am_m 319) 30 = some (.ishl, 0) := by decide +kernel
theorem at_319_31 : am_at (am_m 319) 31 = some (.iconst 1, 0) := by decide +kernel
theorem at_319_32 : am_at (am_m 319) 32 = some (.aload_n 1, 0) := by decide +kernel
theorem at_319_33 : am_at (am_m 319) 33 = some (.getfield 161, 770) := by decide +kernel
theorem at_319_36 : am_at (am_m 319) 36 = some (.iload 4, 0) := by decide +kernel
theorem at_319_38 : am_at (am_m 319) 38 = some (.isub, 0) := by decide +kernel
theorem at_319_39 : am_at (am_m 319) 39 = some (.ishl, 0) := by decide +kernel
theorem at_319_40 : am_at (am_m 319) 40 = some (.isub, 0) := by decide +kernel
theorem at_319_41 : am_at (am_m 319) 41 = some (.if_icmp .eq 5, 46) := by decide +kernel
theorem at_319_44 : am_at (am_m 319) 44 = some (.iload_n 2, 0) := by decide +kernel
theorem at_319_45 : am_at (am_m 319) 45 = some (.ireturn, 0) := by decide +kernel
theorem at_319_46 : am_at (am_m 319) 46 = some (.iinc 2 1, 0) := by decide +kernel
theorem at_319_49 : am_at (am_m 319) 49 = some (.goto (-47), 2) := by decide +kernel
theorem at_319_52 : am_at (am_m 319) 52 = some (.iconst (-1), 0) := by decide +kernel
theorem at_319_53 : am_at (am_m 319) 53 = some (.ireturn, 0) := by decide +kernel
theorem at_320_0 : am_at (am_m 320) 0 = some (.aload_n 2, 0) := by decide +kernel
theorem at_320_1 : am_at (am_m 320) 1 = some (.iconst 0, 0) := by decide +kernel
theorem at_320_2 : am_at (am_m 320) 2 = some (.aload_n 0, 0) := by decide +kernel
theorem at_320_3 : am_at (am_m 320) 3 = some (.iload_n 1, 0) := by decide +kernel
theorem at_320_4 : am_at (am_m 320) 4 = some (.invokevirtual 182, 321) := by decide +kernel
theorem at_320_7 : am_at (am_m 320) 7 = some (.i2l, 0) := by decide +kernel
theorem at_320_8 : am_at (am_m 320) 8 = some (.lastore, 0) := by decide +kernel
theorem at_320_9 : am_at (am_m 320) 9 = some (.goto 9, 18) := by decide +kernel
theorem at_320_13 : am_at (am_m 320) 13 = some (.iconst 1, 0) := by decide +kernel
theorem at_320_14 : am_at (am_m 320) 14 = some (.ireturn, 0) := by decide +kernel
theorem at_320_16 : am_at (am_m 320) 16 = some (.iconst 2, 0) := by decide +kernel
theorem at_320_17 : am_at (am_m 320) 17 = some (.ireturn, 0) := by decide +kernel
theorem at_320_18 : am_at (am_m 320) 18 = some (.iconst 0, 0) := by decide +kernel
theorem at_320_19 : am_at (am_m 320) 19 = some (.ireturn, 0) := by decide +kernel
theorem at_321_0 : am_at (am_m 321) 0 = some (.aload_n 0, 0) := by decide +kernel
theorem at_321_1 : am_at (am_m 321) 1 = some (.getfield 68, 2825) := by decide +kernel
theorem at_321_4 : am_at (am_m 321) 4 = some (.aload_n 0, 0) := by decide +kernel
theorem at_321_5 : am_at (am_m 321) 5 = some (.iload_n 1, 0) := by decide +kernel
theorem at_321_6 : am_at (am_m 321) 6 = some (.invokevirtual 474, 315) := by decide +kernel
theorem at_321_9 : am_at (am_m 321) 9 = some (.invokevirtual 483, 322) := by decide +kernel
theorem at_321_12 : am_at (am_m 321) 12 = some (.ireturn, 0) := by decide +kernel
theorem at_322_0 : am_at (am_m 322) 0 = some (.aload_n 0, 0) := by decide +kernel
theorem at_322_1 : am_at (am_m 322) 1 = some (.getfield 55, 2570) := by decide +kernel
theorem at_322_4 : am_at (am_m 322) 4 = some (.iconst 0, 0) := by decide +kernel
theorem at_322_5 : am_at (am_m 322) 5 = some (.invokestatic 143, 53) := by decide +kernel
theorem at_322_8 : am_at (am_m 322) 8 = some (.iconst 0, 0) := by decide +kernel
theorem at_322_9 : am_at (am_m 322) 9 = some (.istore_n 2, 0) := by decide +kernel
theorem at_322_10 : am_at (am_m 322) 10 = some (.iconst 0, 0) := by decide +kernel
theorem at_322_11 : am_at (am_m 322) 11 = some (.istore_n 3, 0) := by decide +kernel
theorem at_322_12 : am_at (am_m 322) 12 = some (.iload_n 3, 0) := by decide +kernel
theorem at_322_13 : am_at (am_m 322) 13 = some (.aload_n 1, 0) := by decide +kernel
theorem at_322_14 : am_at (am_m 322) 14 = some (.getfield 62, 771) := by decide +kernel
theorem at_322_17 : am_at (am_m 322) 17 = some (.if_icmp .ge 101, 118) := by decide +kernel
theorem at_322_20 : am_at (am_m 322) 20 = some (.aload_n 1, 0) := by decide +kernel
theorem at_322_21 : am_at (am_m 322) 21 = some (.iload_n 3, 0) := by decide +kernel
theorem at_322_22 : am_at (am_m 322) 22 = some (.iconst 0, 0) := by decide +kernel
theorem at_322_23 : am_at (am_m 322) 23 = some (.invokevirtual 83, 54) := by decide +kernel
theorem at_322_26 : am_at (am_m 322) 26 = some (.istore 4, 0) := by decide +kernel
theorem at_322_28 : am_at (am_m 322) 28 = some (.aload_n 1, 0) := by decide +kernel
theorem at_322_29 : am_at (am_m 322) 29 = some (.iload_n 3, 0) := by decide +kernel
theorem at_322_30 : am_at (am_m 322) 30 = some (.iconst 1, 0) := by decide +kernel
theorem at_322_31 : am_at (am_m 322) 31 = some (.invokevirtual 83, 54) := by decide +kernel
theorem at_322_34 : am_at (am_m 322) 34 = some (.istore 5, 0) := by decide +kernel
theorem at_322_36 : am_at (am_m 322) 36 = some (.iload 4, 0) := by decide +kernel
theorem at_322_38 : am_at (am_m 322) 38 = some (.ifCond .lt 74, 112) := by decide +kernel
theorem at_322_41 : am_at (am_m 322) 41 = some (.iload 4, 0) := by decide +kernel
theorem at_322_43 : am_at (am_m 322) 43 = some (.aload_n 0, 0) := by decide +kernel
theorem at_322_44 : am_at (am_m 322) 44 = some (.getfield 55, 2570) := by decide +kernel
theorem at_322_47 : am_at (am_m 322) 47 = some (.arraylength, 0) := by decide +kernel
theorem at_322_48 : am_at (am_m 322) 48 = some (.if_icmp .ge 64, 112) := by decide +kernel
theorem at_322_51 : am_at (am_m 322) 51 = some (.iload 5, 0) := by decide +kernel
theorem at_322_53 : am_at (am_m 322) 53 = some (.ifCond .lt 59, 112) := by decide +kernel
theorem at_322_56 : am_at (am_m 322) 56 = some (.iload 5, 0) := by decide +kernel
theorem at_322_58 : am_at (am_m 322) 58 = some (.aload_n 0, 0) := by decide +kernel
theorem at_322_59 : am_at (am_m 322) 59 = some (.getfield 55, 2570) := by decide +kernel
theorem at_322_62 : am_at (am_m 322) 62 = some (.arraylength, 0) := by decide +kernel
theorem at_322_63 : am_at (am_m 322) 63 = some (.if_icmp .ge 49, 112) := by decide +kernel
theorem at_322_66 : am_at (am_m 322) 66 = some (.aload_n 0, 0) := by decide +kernel
theorem at_322_67 : am_at (am_m 322) 67 = some (.getfield 55, 2570) := by decide +kernel
theorem at_322_70 : am_at (am_m 322) 70 = some (.iload 4, 0) := by decide +kernel
theorem at_322_72 : am_at (am_m 322) 72 = some (.iaload, 0) := by decide +kernel
theorem at_322_73 : am_at (am_m 322) 73 = some (.aload_n 0, 0) := by decide +kernel
theorem at_322_74 : am_at (am_m 322) 74 = some (.getfield 55, 2570) := by decide +kernel
theorem at_322_77 : am_at (am_m 322) 77 = some (.iload 5, 0) := by decide +kernel
theorem at_322_79 : am_at (am_m 322) 79 = some (.iaload, 0) := by decide +kernel
theorem at_322_80 : am_at (am_m 322) 80 = some (.invokestatic 172, 37) := by decide +kernel
theorem at_322_83 : am_at (am_m 322) 83 = some (.iconst 1, 0) := by decide +kernel
theorem at_322_84 : am_at (am_m 322) 84 = some (.iadd, 0) := by decide +kernel
theorem at_322_85 : am_at (am_m 322) 85 = some (.istore 6, 0) := by decide +kernel
theorem at_322_87 : am_at (am_m 322) 87 = some (.aload_n 0, 0) := by decide +kernel
theorem at_322_88 : am_at (am_m 322) 88 = some (.getfield 55, 2570) := by decide +kernel
theorem at_322_91 : am_at (am_m 322) 91 = some (.iload 4, 0) := by decide +kernel
theorem at_322_93 : am_at (am_m 322) 93 = some (.iload 6, 0) := by decide +kernel
theorem at_322_95 : am_at (am_m 322) 95 = some (.iastore, 0) := by decide +kernel
theorem at_322_96 : am_at (am_m 322) 96 = some (.aload_n 0, 0) := by decide +kernel
theorem at_322_97 : am_at (am_m 322) 97 = some (.getfield 55, 2570) := by decide +kernel
theorem at_322_100 : am_at (am_m 322) 100 = some (.iload 5, 0) := by decide +kernel
theorem at_322_102 : am_at (am_m 322) 102 = some (.iload 6, 0) := by decide +kernel
theorem at_322_104 : am_at (am_m 322) 104 = some (.iastore, 0) := by decide +kernel
theorem at_322_105 : am_at (am_m 322) 105 = some (.iload_n 2, 0) := by decide +kernel
theorem at_322_106 : am_at (am_m 322) 106 = some (.iload 6, 0) := by decide +kernel
theorem at_322_108 : am_at (am_m 322) 108 = some (.invokestatic 172, 37) := by decide +kernel
theorem at_322_111 : am_at (am_m 322) 111 = some (.istore_n 2, 0) := by decide +kernel
theorem at_322_112 : am_at (am_m 322) 112 = some (.iinc 3 1, 0) := by decide +kernel
theorem at_322_115 : am_at (am_m 322) 115 = some (.goto (-103), 12) := by decide +kernel
theorem at_322_118 : am_at (am_m 322) 118 = some (.iload_n 2, 0) := by decide +kernel
theorem at_322_119 : am_at (am_m 322) 119 = some (.ireturn, 0) := by decide +kernel
theorem at_323_0 : am_at (am_m 323) 0 = some (.aload_n 0, 0) := by decide +kernel
theorem at_323_1 : am_at (am_m 323) 1 = some (.invokespecial 1, 10003) := by decide +kernel
theorem at_323_4 : am_at (am_m 323) 4 = some (.aload_n 0, 0) := by decide +kernel
theorem at_323_5 : am_at (am_m 323) 5 = some (.sipush 600, 0) := by decide +kernel
theorem at_323_8 : am_at (am_m 323) 8 = some (.newarray .int, 0) := by decide +kernel
theorem at_323_10 : am_at (am_m 323) 10 = some (.putfield 7, 3074) := by decide +kernel
theorem at_323_13 : am_at (am_m 323) 13 = some (.aload_n 0, 0) := by decide +kernel
theorem at_323_14 : am_at (am_m 323) 14 = some (.sipush 600, 0) := by decide +kernel
theorem at_323_17 : am_at (am_m 323) 17 = some (.newarray .int, 0) := by decide +kernel
theorem at_323_19 : am_at (am_m 323) 19 = some (.putfield 13, 3075) := by decide +kernel
theorem at_323_22 : am_at (am_m 323) 22 = some (.aload_n 0, 0) := by decide +kernel
theorem at_323_23 : am_at (am_m 323) 23 = some (.sipush 600, 0) := by decide +kernel
theorem at_323_26 : am_at (am_m 323) 26 = some (.newarray .int, 0) := by decide +kernel
theorem at_323_28 : am_at (am_m 323) 28 = some (.putfield 16, 3076) := by decide +kernel
theorem at_323_31 : am_at (am_m 323) 31 = some (.aload_n 0, 0) := by decide +kernel
theorem at_323_32 : am_at (am_m 323) 32 = some (.sipush 600, 0) := by decide +kernel
theorem at_323_35 : am_at (am_m 323) 35 = some (.newarray .int, 0) := by decide +kernel
theorem at_323_37 : am_at (am_m 323) 37 = some (.putfield 19, 3077) := by decide +kernel
theorem at_323_40 : am_at (am_m 323) 40 = some (.aload_n 0, 0) := by decide +kernel
theorem at_323_41 : am_at (am_m 323) 41 = some (.sipush 600, 0) := by decide +kernel
theorem at_323_44 : am_at (am_m 323) 44 = some (.newarray .int, 0) := by decide +kernel
theorem at_323_46 : am_at (am_m 323) 46 = some (.putfield 22, 3078) := by decide +kernel
theorem at_323_49 : am_at (am_m 323) 49 = some (.aload_n 0, 0) := by decide +kernel
theorem at_323_50 : am_at (am_m 323) 50 = some (.sipush 600, 0) := by decide +kernel
theorem at_323_53 : am_at (am_m 323) 53 = some (.newarray .int, 0) := by decide +kernel
theorem at_323_55 : am_at (am_m 323) 55 = some (.putfield 25, 3079) := by decide +kernel
theorem at_323_58 : am_at (am_m 323) 58 = some (.aload_n 0, 0) := by decide +kernel
theorem at_323_59 : am_at (am_m 323) 59 = some (.sipush 600, 0) := by decide +kernel
theorem at_323_62 : am_at (am_m 323) 62 = some (.newarray .int, 0) := by decide +kernel
theorem at_323_64 : am_at (am_m 323) 64 = some (.putfield 28, 3080) := by decide +kernel
theorem at_323_67 : am_at (am_m 323) 67 = some (.aload_n 0, 0) := by decide +kernel
theorem at_323_68 : am_at (am_m 323) 68 = some (.sipush 600, 0) := by decide +kernel
theorem at_323_71 : am_at (am_m 323) 71 = some (.newarray .int, 0) := by decide +kernel
theorem at_323_73 : am_at (am_m 323) 73 = some (.putfield 31, 3081) := by decide +kernel
theorem at_323_76 : am_at (am_m 323) 76 = some (.aload_n 0, 0) := by decide +kernel
theorem at_323_77 : am_at (am_m 323) 77 = some (.sipush 600, 0) := by decide +kernel
theorem at_323_80 : am_at (am_m 323) 80 = some (.newarray .long, 1) := by decide +kernel
theorem at_323_82 : am_at (am_m 323) 82 = some (.putfield 34, 3082) := by decide +kernel
theorem at_323_85 : am_at (am_m 323) 85 = some (.aload_n 0, 0) := by decide +kernel
theorem at_323_86 : am_at (am_m 323) 86 = some (.ldc 38, 47) := by decide +kernel
theorem at_323_88 : am_at (am_m 323) 88 = some (.newarray .int, 0) := by decide +kernel
theorem at_323_90 : am_at (am_m 323) 90 = some (.putfield 39, 3083) := by decide +kernel
theorem at_323_93 : am_at (am_m 323) 93 = some (.aload_n 0, 0) := by decide +kernel
theorem at_323_94 : am_at (am_m 323) 94 = some (.ldc 38, 47) := by decide +kernel
theorem at_323_96 : am_at (am_m 323) 96 = some (.newarray .int, 0) := by decide +kernel
theorem at_323_98 : am_at (am_m 323) 98 = some (.putfield 42, 3084) := by decide +kernel
theorem at_323_101 : am_at (am_m 323) 101 = some (.aload_n 0, 0) := by decide +kernel
theorem at_323_102 : am_at (am_m 323) 102 = some (.sipush 400, 0) := by decide +kernel
theorem at_323_105 : am_at (am_m 323) 105 = some (.newarray .int, 0) := by decide +kernel
theorem at_323_107 : am_at (am_m 323) 107 = some (.putfield 45, 3088) := by decide +kernel
theorem at_323_110 : am_at (am_m 323) 110 = some (.aload_n 0, 0) := by decide +kernel
theorem at_323_111 : am_at (am_m 323) 111 = some (.sipush 400, 0) := by decide +kernel
theorem at_323_114 : am_at (am_m 323) 114 = some (.newarray .int, 0) := by decide +kernel
theorem at_323_116 : am_at (am_m 323) 116 = some (.putfield 48, 3089) := by decide +kernel
theorem at_323_119 : am_at (am_m 323) 119 = some (.aload_n 0, 0) := by decide +kernel
theorem at_323_120 : am_at (am_m 323) 120 = some (.sipush 400, 0) := by decide +kernel
theorem at_323_123 : am_at (am_m 323) 123 = some (.newarray .int, 0) := by decide +kernel
theorem at_323_125 : am_at (am_m 323) 125 = some (.putfield 51, 3093) := by decide +kernel
theorem at_323_128 : am_at (am_m 323) 128 = some (.aload_n 0, 0) := by decide +kernel
theorem at_323_129 : am_at (am_m 323) 129 = some (.sipush 400, 0) := by decide +kernel
theorem at_323_132 : am_at (am_m 323) 132 = some (.newarray .int, 0) := by decide +kernel
theorem at_323_134 : am_at (am_m 323) 134 = some (.putfield 54, 3094) := by decide +kernel
theorem at_323_137 : am_at (am_m 323) 137 = some (.aload_n 0, 0) := by decide +kernel
theorem at_323_138 : am_at (am_m 323) 138 = some (.sipush 400, 0) := by decide +kernel
theorem at_323_141 : am_at (am_m 323) 141 = some (.newarray .int, 0) := by decide +kernel
theorem at_323_143 : am_at (am_m 323) 143 = some (.putfield 57, 3096) := by decide +kernel
theorem at_323_146 : am_at (am_m 323) 146 = some (.aload_n 0, 0) := by decide +kernel
theorem at_323_147 : am_at (am_m 323) 147 = some (.sipush 400, 0) := by decide +kernel
theorem at_323_150 : am_at (am_m 323) 150 = some (.newarray .int, 0) := by decide +kernel
theorem at_323_152 : am_at (am_m 323) 152 = some (.putfield 60, 3097) := by decide +kernel
theorem at_323_155 : am_at (am_m 323) 155 = some (.aload_n 0, 0) := by decide +kernel
theorem at_323_156 : am_at (am_m 323) 156 = some (.sipush 400, 0) := by decide +kernel
theorem at_323_159 : am_at (am_m 323) 159 = some (.newarray .int, 0) := by decide +kernel
theorem at_323_161 : am_at (am_m 323) 161 = some (.putfield 63, 3098) := by decide +kernel
theorem at_323_164 : am_at (am_m 323) 164 = some (.aload_n 0, 0) := by decide +kernel
theorem at_323_165 : am_at (am_m 323) 165 = some (.sipush 400, 0) := by decide +kernel
theorem at_323_168 : am_at (am_m 323) 168 = some (.newarray .int, 0) := by decide +kernel
theorem at_323_170 : am_at (am_m 323) 170 = some (.putfield 66, 3099) := by decide +kernel
theorem at_323_173 : am_at (am_m 323) 173 = some (.aload_n 0, 0) := by decide +kernel
theorem at_323_174 : am_at (am_m 323) 174 = some (.sipush 400, 0) := by decide +kernel
theorem at_323_177 : am_at (am_m 323) 177 = some (.newarray .int, 0) := by decide +kernel
theorem at_323_179 : am_at (am_m 323) 179 = some (.putfield 69, 3100) := by decide +kernel
theorem at_323_182 : am_at (am_m 323) 182 = some (.aload_n 0, 0) := by decide +kernel
theorem at_323_183 : am_at (am_m 323) 183 = some (.sipush 400, 0) := by decide +kernel
theorem at_323_186 : am_at (am_m 323) 186 = some (.newarray .int, 0) := by decide +kernel
theorem at_323_188 : am_at (am_m 323) 188 = some (.putfield 72, 3101) := by decide +kernel
theorem at_323_191 : am_at (am_m 323) 191 = some (.aload_n 0, 0) := by decide +kernel
theorem at_323_192 : am_at (am_m 323) 192 = some (.sipush 400, 0) := by decide +kernel
theorem at_323_195 : am_at (am_m 323) 195 = some (.newarray .int, 0) := by decide +kernel
theorem at_323_197 : am_at (am_m 323) 197 = some (.putfield 75, 3102) := by decide +kernel
theorem at_323_200 : am_at (am_m 323) 200 = some (.aload_n 0, 0) := by decide +kernel
theorem at_323_201 : am_at (am_m 323) 201 = some (.bipush 24, 0) := by decide +kernel
theorem at_323_203 : am_at (am_m 323) 203 = some (.newarray .int, 0) := by decide +kernel
theorem at_323_205 : am_at (am_m 323) 205 = some (.putfield 78, 3104) := by decide +kernel
theorem at_323_208 : am_at (am_m 323) 208 = some (.aload_n 0, 0) := by decide +kernel
theorem at_323_209 : am_at (am_m 323) 209 = some (.bipush 24, 0) := by decide +kernel
theorem at_323_211 : am_at (am_m 323) 211 = some (.newarray .int, 0) := by decide +kernel
theorem at_323_213 : am_at (am_m 323) 213 = some (.putfield 81, 3105) := by decide +kernel
theorem at_323_216 : am_at (am_m 323) 216 = some (.aload_n 0, 0) := by decide +kernel
theorem at_323_217 : am_at (am_m 323) 217 = some (.bipush 24, 0) := by decide +kernel
theorem at_323_219 : am_at (am_m 323) 219 = some (.newarray .int, 0) := by decide +kernel
theorem at_323_221 : am_at (am_m 323) 221 = some (.putfield 84, 3106) := by decide +kernel
theorem at_323_224 : am_at (am_m 323) 224 = some (.aload_n 0, 0) := by decide +kernel
theorem at_323_225 : am_at (am_m 323) 225 = some (.bipush 24, 0) := by decide +kernel
theorem at_323_227 : am_at (am_m 323) 227 = some (.newarray .int, 0) := by decide +kernel
theorem at_323_229 : am_at (am_m 323) 229 = some (.putfield 87, 3107) := by decide +kernel
theorem at_323_232 : am_at (am_m 323) 232 = some (.aload_n 0, 0) := by decide +kernel
theorem at_323_233 : am_at (am_m 323) 233 = some (.bipush 24, 0) := by decide +kernel
theorem at_323_235 : am_at (am_m 323) 235 = some (.newarray .int, 0) := by decide +kernel
theorem at_323_237 : am_at (am_m 323) 237 = some (.putfield 90, 3108) := by decide +kernel
theorem at_323_240 : am_at (am_m 323) 240 = some (.aload_n 0, 0) := by decide +kernel
theorem at_323_241 : am_at (am_m 323) 241 = some (.bipush 24, 0) := by decide +kernel
theorem at_323_243 : am_at (am_m 323) 243 = some (.newarray .boolean, 2) := by decide +kernel
theorem at_323_245 : am_at (am_m 323) 245 = some (.putfield 93, 3109) := by decide +kernel
theorem at_323_248 : am_at (am_m 323) 248 = some (.aload_n 0, 0) := by decide +kernel
theorem at_323_249 : am_at (am_m 323) 249 = some (.bipush 24, 0) := by decide +kernel
theorem at_323_251 : am_at (am_m 323) 251 = some (.newarray .int, 0) := by decide +kernel
theorem at_323_253 : am_at (am_m 323) 253 = some (.putfield 97, 3110) := by decide +kernel
theorem at_323_256 : am_at (am_m 323) 256 = some (.aload_n 0, 0) := by decide +kernel
theorem at_323_257 : am_at (am_m 323) 257 = some (.sipush 192, 0) := by decide +kernel
theorem at_323_260 : am_at (am_m 323) 260 = some (.newarray .int, 0) := by decide +kernel
theorem at_323_262 : am_at (am_m 323) 262 = some (.putfield 100, 3111) := by decide +kernel
theorem at_323_265 : am_at (am_m 323) 265 = some (.aload_n 0, 0) := by decide +kernel
theorem at_323_266 : am_at (am_m 323) 266 = some (.bipush 8, 0) := by decide +kernel
theorem at_323_268 : am_at (am_m 323) 268 = some (.newarray .int, 0) := by decide +kernel
theorem at_323_270 : am_at (am_m 323) 270 = some (.putfield 103, 3113) := by decide +kernel
theorem at_323_273 : am_at (am_m 323) 273 = some (.aload_n 0, 0) := by decide +kernel
theorem at_323_274 : am_at (am_m 323) 274 = some (.iconst 5, 0) := by decide +kernel
theorem at_323_275 : am_at (am_m 323) 275 = some (.newarray .int, 0) := by decide +kernel
theorem at_323_277 : am_at (am_m 323) 277 = some (.putfield 106, 3114) := by decide +kernel
theorem at_323_280 : am_at (am_m 323) 280 = some (.aload_n 0, 0) := by decide +kernel
theorem at_323_281 : am_at (am_m 323) 281 = some (.sipush 400, 0) := by decide +kernel
theorem at_323_284 : am_at (am_m 323) 284 = some (.newarray .boolean, 2) := by decide +kernel
theorem at_323_286 : am_at (am_m 323) 286 = some (.putfield 109, 3115) := by decide +kernel
theorem at_323_289 : am_at (am_m 323) 289 = some (.aload_n 0, 0) := by decide +kernel
theorem at_323_290 : am_at (am_m 323) 290 = some (.sipush 400, 0) := by decide +kernel
theorem at_323_293 : am_at (am_m 323) 293 = some (.newarray .int, 0) := by decide +kernel
theorem at_323_295 : am_at (am_m 323) 295 = some (.putfield 112, 3116) := by decide +kernel
theorem at_323_298 : am_at (am_m 323) 298 = some (.aload_n 0, 0) := by decide +kernel
theorem at_323_299 : am_at (am_m 323) 299 = some (.sipush 400, 0) := by decide +kernel
theorem at_323_302 : am_at (am_m 323) 302 = some (.newarray .boolean, 2) := by decide +kernel
theorem at_323_304 : am_at (am_m 323) 304 = some (.putfield 115, 3117) := by decide +kernel
theorem at_323_307 : am_at (am_m 323) 307 = some (.aload_n 0, 0) := by decide +kernel
theorem at_323_308 : am_at (am_m 323) 308 = some (.sipush 400, 0) := by decide +kernel
theorem at_323_311 : am_at (am_m 323) 311 = some (.newarray .int, 0) := by decide +kernel
theorem at_323_313 : am_at (am_m 323) 313 = some (.putfield 118, 3118) := by decide +kernel
theorem at_323_316 : am_at (am_m 323) 316 = some (.aload_n 0, 0) := by decide +kernel
theorem at_323_317 : am_at (am_m 323) 317 = some (.sipush 130, 0) := by decide +kernel
theorem at_323_320 : am_at (am_m 323) 320 = some (.newarray .int, 0) := by decide +kernel
theorem at_323_322 : am_at (am_m 323) 322 = some (.putfield 121, 3119) := by decide +kernel
theorem at_323_325 : am_at (am_m 323) 325 = some (.aload_n 0, 0) := by decide +kernel
theorem at_323_326 : am_at (am_m 323) 326 = some (.bipush 8, 0) := by decide +kernel
theorem at_323_328 : am_at (am_m 323) 328 = some (.newarray .int, 0) := by decide +kernel
theorem at_323_330 : am_at (am_m 323) 330 = some (.putfield 124, 3127) := by decide +kernel
theorem at_323_333 : am_at (am_m 323) 333 = some (.aload_n 0, 0) := by decide +kernel
theorem at_323_334 : am_at (am_m 323) 334 = some (.sipush 130, 0) := by decide +kernel
theorem at_323_337 : am_at (am_m 323) 337 = some (.newarray .int, 0) := by decide +kernel
theorem at_323_339 : am_at (am_m 323) 339 = some (.putfield 127, 3132) := by decide +kernel
theorem at_323_342 : am_at (am_m 323) 342 = some (.aload_n 0, 0) := by decide +kernel
theorem at_323_343 : am_at (am_m 323) 343 = some (.sipush 130, 0) := by decide +kernel
theorem at_323_346 : am_at (am_m 323) 346 = some (.newarray .int, 0) := by decide +kernel
theorem at_323_348 : am_at (am_m 323) 348 = some (.putfield 130, 3133) := by decide +kernel
theorem at_323_351 : am_at (am_m 323) 351 = some (.aload_n 0, 0) := by decide +kernel
theorem at_323_352 : am_at (am_m 323) 352 = some (.sipush 130, 0) := by decide +kernel
theorem at_323_355 : am_at (am_m 323) 355 = some (.newarray .int, 0) := by decide +kernel
theorem at_323_357 : am_at (am_m 323) 357 = some (.putfield 133, 3134) := by decide +kernel
theorem at_323_360 : am_at (am_m 323) 360 = some (.aload_n 0, 0) := by decide +kernel
theorem at_323_361 : am_at (am_m 323) 361 = some (.sipush 130, 0) := by decide +kernel
theorem at_323_364 : am_at (am_m 323) 364 = some (.newarray .int, 0) := by decide +kernel
theorem at_323_366 : am_at (am_m 323) 366 = some (.putfield 136, 3135) := by decide +kernel
theorem at_323_369 : am_at (am_m 323) 369 = some (.aload_n 0, 0) := by decide +kernel
theorem at_323_370 : am_at (am_m 323) 370 = some (.sipush 400, 0) := by decide +kernel
theorem at_323_373 : am_at (am_m 323) 373 = some (.newarray .int, 0) := by decide +kernel
theorem at_323_375 : am_at (am_m 323) 375 = some (.putfield 139, 3136) := by decide +kernel
theorem at_323_378 : am_at (am_m 323) 378 = some (.aload_n 0, 0) := by decide +kernel
theorem at_323_379 : am_at (am_m 323) 379 = some (.sipush 240, 0) := by decide +kernel
theorem at_323_382 : am_at (am_m 323) 382 = some (.newarray .int, 0) := by decide +kernel
theorem at_323_384 : am_at (am_m 323) 384 = some (.putfield 142, 3139) := by decide +kernel
theorem at_323_387 : am_at (am_m 323) 387 = some (.aload_n 0, 0) := by decide +kernel
theorem at_323_388 : am_at (am_m 323) 388 = some (.bipush 61, 0) := by decide +kernel
theorem at_323_390 : am_at (am_m 323) 390 = some (.newarray .int, 0) := by decide +kernel
theorem at_323_392 : am_at (am_m 323) 392 = some (.putfield 145, 3143) := by decide +kernel
theorem at_323_395 : am_at (am_m 323) 395 = some (.aload_n 0, 0) := by decide +kernel
theorem at_323_396 : am_at (am_m 323) 396 = some (.bipush 64, 0) := by decide +kernel
theorem at_323_398 : am_at (am_m 323) 398 = some (.newarray .int, 0) := by decide +kernel
theorem at_323_400 : am_at (am_m 323) 400 = some (.putfield 148, 3146) := by decide +kernel
theorem at_323_403 : am_at (am_m 323) 403 = some (.aload_n 0, 0) := by decide +kernel
theorem at_323_404 : am_at (am_m 323) 404 = some (.bipush 64, 0) := by decide +kernel
theorem at_323_406 : am_at (am_m 323) 406 = some (.newarray .int, 0) := by decide +kernel
theorem at_323_408 : am_at (am_m 323) 408 = some (.putfield 151, 3147) := by decide +kernel
theorem at_323_411 : am_at (am_m 323) 411 = some (.aload_n 0, 0) := by decide +kernel
theorem at_323_412 : am_at (am_m 323) 412 = some (.bipush 64, 0) := by decide +kernel
theorem at_323_414 : am_at (am_m 323) 414 = some (.newarray .boolean, 2) := by decide +kernel
theorem at_323_416 : am_at (am_m 323) 416 = some (.putfield 154, 3148) := by decide +kernel
theorem at_323_419 : am_at (am_m 323) 419 = some (.aload_n 0, 0) := by decide +kernel
theorem at_323_420 : am_at (am_m 323) 420 = some (.sipush 800, 0) := by decide +kernel
theorem at_323_423 : am_at (am_m 323) 423 = some (.newarray .int, 0) := by decide +kernel
theorem at_323_425 : am_at (am_m 323) 425 = some (.putfield 157, 3151) := by decide +kernel
theorem at_323_428 : am_at (am_m 323) 428 = some (.aload_n 0, 0) := by decide +kernel
theorem at_323_429 : am_at (am_m 323) 429 = some (.bipush 84, 0) := by decide +kernel
theorem at_323_431 : am_at (am_m 323) 431 = some (.newarray .long, 1) := by decide +kernel
theorem at_323_433 : am_at (am_m 323) 433 = some (.putfield 160, 3153) := by decide +kernel
theorem at_323_436 : am_at (am_m 323) 436 = some (.aload_n 0, 0) := by decide +kernel
theorem at_323_437 : am_at (am_m 323) 437 = some (.sipush 819, 0) := by decide +kernel
theorem at_323_440 : am_at (am_m 323) 440 = some (.newarray .long, 1) := by decide +kernel
theorem at_323_442 : am_at (am_m 323) 442 = some (.putfield 163, 3154) := by decide +kernel
theorem at_323_445 : am_at (am_m 323) 445 = some (.aload_n 0, 0) := by decide +kernel
theorem at_323_446 : am_at (am_m 323) 446 = some (.bipush 6, 0) := by decide +kernel
theorem at_323_448 : am_at (am_m 323) 448 = some (.newarray .long, 1) := by decide +kernel
theorem at_323_450 : am_at (am_m 323) 450 = some (.putfield 166, 3155) := by decide +kernel
theorem at_323_453 : am_at (am_m 323) 453 = some (.aload_n 0, 0) := by decide +kernel
theorem at_323_454 : am_at (am_m 323) 454 = some (.bipush 40, 0) := by decide +kernel
theorem at_323_456 : am_at (am_m 323) 456 = some (.newarray .int, 0) := by decide +kernel
theorem at_323_458 : am_at (am_m 323) 458 = some (.putfield 169, 3156) := by decide +kernel
theorem at_323_461 : am_at (am_m 323) 461 = some (.aload_n 0, 0) := by decide +kernel
theorem at_323_462 : am_at (am_m 323) 462 = some (.bipush 40, 0) := by decide +kernel
theorem at_323_464 : am_at (am_m 323) 464 = some (.newarray .int, 0) := by decide +kernel
theorem at_323_466 : am_at (am_m 323) 466 = some (.putfield 172, 3157) := by decide +kernel
theorem at_323_469 : am_at (am_m 323) 469 = some (.aload_n 0, 0) := by decide +kernel
theorem at_323_470 : am_at (am_m 323) 470 = some (.bipush 40, 0) := by decide +kernel
theorem at_323_472 : am_at (am_m 323) 472 = some (.newarray .int, 0) := by decide +kernel
theorem at_323_474 : am_at (am_m 323) 474 = some (.putfield 175, 3158) := by decide +kernel
theorem at_323_477 : am_at (am_m 323) 477 = some (.aload_n 0, 0) := by decide +kernel
theorem at_323_478 : am_at (am_m 323) 478 = some (.bipush 40, 0) := by decide +kernel
theorem at_323_480 : am_at (am_m 323) 480 = some (.newarray .long, 1) := by decide +kernel
theorem at_323_482 : am_at (am_m 323) 482 = some (.putfield 178, 3159) := by decide +kernel
theorem at_323_485 : am_at (am_m 323) 485 = some (.aload_n 0, 0) := by decide +kernel
theorem at_323_486 : am_at (am_m 323) 486 = some (.bipush 13, 0) := by decide +kernel
theorem at_323_488 : am_at (am_m 323) 488 = some (.newarray .long, 1) := by decide +kernel
theorem at_323_490 : am_at (am_m 323) 490 = some (.putfield 181, 3161) := by decide +kernel
theorem at_323_493 : am_at (am_m 323) 493 = some (.aload_n 0, 0) := by decide +kernel
theorem at_323_494 : am_at (am_m 323) 494 = some (.bipush 13, 0) := by decide +kernel
theorem at_323_496 : am_at (am_m 323) 496 = some (.newarray .int, 0) := by decide +kernel
theorem at_323_498 : am_at (am_m 323) 498 = some (.putfield 184, 3162) := by decide +kernel
theorem at_323_501 : am_at (am_m 323) 501 = some (.aload_n 0, 0) := by decide +kernel
theorem at_323_502 : am_at (am_m 323) 502 = some (.iconst 4, 0) := by decide +kernel
theorem at_323_503 : am_at (am_m 323) 503 = some (.newarray .int, 0) := by decide +kernel
theorem at_323_505 : am_at (am_m 323) 505 = some (.putfield 187, 3170) := by decide +kernel
theorem at_323_508 : am_at (am_m 323) 508 = some (.aload_n 0, 0) := by decide +kernel
theorem at_323_509 : am_at (am_m 323) 509 = some (.bipush 64, 0) := by decide +kernel
theorem at_323_511 : am_at (am_m 323) 511 = some (.newarray .int, 0) := by decide +kernel
theorem at_323_513 : am_at (am_m 323) 513 = some (.putfield 190, 3171) := by decide +kernel
theorem at_323_516 : am_at (am_m 323) 516 = some (.aload_n 0, 0) := by decide +kernel
theorem at_323_517 : am_at (am_m 323) 517 = some (.iconst 4, 0) := by decide +kernel
theorem at_323_518 : am_at (am_m 323) 518 = some (.newarray .long, 1) := by decide +kernel
theorem at_323_520 : am_at (am_m 323) 520 = some (.putfield 193, 3172) := by decide +kernel
theorem at_323_523 : am_at (am_m 323) 523 = some (.aload_n 0, 0) := by decide +kernel
theorem at_323_524 : am_at (am_m 323) 524 = some (.bipush 16, 0) := by decide +kernel
theorem at_323_526 : am_at (am_m 323) 526 = some (.newarray .long, 1) := by decide +kernel
theorem at_323_528 : am_at (am_m 323) 528 = some (.putfield 196, 3173) := by decide +kernel
theorem at_323_531 : am_at (am_m 323) 531 = some (.aload_n 0, 0) := by decide +kernel
theorem at_323_532 : am_at (am_m 323) 532 = some (.bipush 16, 0) := by decide +kernel
theorem at_323_534 : am_at (am_m 323) 534 = some (.newarray .long, 1) := by decide +kernel
theorem at_323_536 : am_at (am_m 323) 536 = some (.putfield 199, 3174) := by decide +kernel
theorem at_323_539 : am_at (am_m 323) 539 = some (.aload_n 0, 0) := by decide +kernel
theorem at_323_540 : am_at (am_m 323) 540 = some (.bipush 16, 0) := by decide +kernel
theorem at_323_542 : am_at (am_m 323) 542 = some (.newarray .int, 0) := by decide +kernel
theorem at_323_544 : am_at (am_m 323) 544 = some (.putfield 202, 3175) := by decide +kernel
theorem at_323_547 : am_at (am_m 323) 547 = some (.aload_n 0, 0) := by decide +kernel
theorem at_323_548 : am_at (am_m 323) 548 = some (.bipush 16, 0) := by decide +kernel
theorem at_323_550 : am_at (am_m 323) 550 = some (.newarray .int, 0) := by decide +kernel
theorem at_323_552 : am_at (am_m 323) 552 = some (.putfield 205, 3176) := by decide +kernel
theorem at_323_555 : am_at (am_m 323) 555 = some (.aload_n 0, 0) := by decide +kernel
theorem at_323_556 : am_at (am_m 323) 556 = some (.sipush 384, 0) := by decide +kernel
theorem at_323_559 : am_at (am_m 323) 559 = some (.newarray .long, 1) := by decide +kernel
theorem at_323_561 : am_at (am_m 323) 561 = some (.putfield 208, 3178) := by decide +kernel
theorem at_323_564 : am_at (am_m 323) 564 = some (.aload_n 0, 0) := by decide +kernel
theorem at_323_565 : am_at (am_m 323) 565 = some (.bipush 24, 0) := by decide +kernel
theorem at_323_567 : am_at (am_m 323) 567 = some (.newarray .int, 0) := by decide +kernel
theorem at_323_569 : am_at (am_m 323) 569 = some (.putfield 211, 3179) := by decide +kernel
theorem at_323_572 : am_at (am_m 323) 572 = some (.aload_n 0, 0) := by decide +kernel
theorem at_323_573 : am_at (am_m 323) 573 = some (.bipush 16, 0) := by decide +kernel
theorem at_323_575 : am_at (am_m 323) 575 = some (.newarray .boolean, 2) := by decide +kernel
theorem at_323_577 : am_at (am_m 323) 577 = some (.putfield 214, 3181) := by decide +kernel
theorem at_323_580 : am_at (am_m 323) 580 = some (.aload_n 0, 0) := by decide +kernel
theorem at_323_581 : am_at (am_m 323) 581 = some (.bipush 16, 0) := by decide +kernel
theorem at_323_583 : am_at (am_m 323) 583 = some (.newarray .int, 0) := by decide +kernel
theorem at_323_585 : am_at (am_m 323) 585 = some (.putfield 217, 3182) := by decide +kernel
theorem at_323_588 : am_at (am_m 323) 588 = some (.aload_n 0, 0) := by decide +kernel
theorem at_323_589 : am_at (am_m 323) 589 = some (.bipush 16, 0) := by decide +kernel
theorem at_323_591 : am_at (am_m 323) 591 = some (.newarray .int, 0) := by decide +kernel
theorem at_323_593 : am_at (am_m 323) 593 = some (.putfield 220, 3183) := by decide +kernel
theorem at_323_596 : am_at (am_m 323) 596 = some (.aload_n 0, 0) := by decide +kernel
theorem at_323_597 : am_at (am_m 323) 597 = some (.iconst 3, 0) := by decide +kernel
theorem at_323_598 : am_at (am_m 323) 598 = some (.newarray .long, 1) := by decide +kernel
theorem at_323_600 : am_at (am_m 323) 600 = some (.putfield 223, 3184) := by decide +kernel
theorem at_323_603 : am_at (am_m 323) 603 = some (.aload_n 0, 0) := by decide +kernel
theorem at_323_604 : am_at (am_m 323) 604 = some (.sipush 600, 0) := by decide +kernel
theorem at_323_607 : am_at (am_m 323) 607 = some (.newarray .boolean, 2) := by decide +kernel
theorem at_323_609 : am_at (am_m 323) 609 = some (.putfield 226, 3185) := by decide +kernel
theorem at_323_612 : am_at (am_m 323) 612 = some (.aload_n 0, 0) := by decide +kernel
theorem at_323_613 : am_at (am_m 323) 613 = some (.sipush 600, 0) := by decide +kernel
theorem at_323_616 : am_at (am_m 323) 616 = some (.newarray .boolean, 2) := by decide +kernel
theorem at_323_618 : am_at (am_m 323) 618 = some (.putfield 229, 3186) := by decide +kernel
theorem at_323_621 : am_at (am_m 323) 621 = some (.aload_n 0, 0) := by decide +kernel
theorem at_323_622 : am_at (am_m 323) 622 = some (.sipush 400, 0) := by decide +kernel
theorem at_323_625 : am_at (am_m 323) 625 = some (.newarray .int, 0) := by decide +kernel
theorem at_323_627 : am_at (am_m 323) 627 = some (.putfield 232, 3188) := by decide +kernel
theorem at_323_630 : am_at (am_m 323) 630 = some (.aload_n 0, 0) := by decide +kernel
theorem at_323_631 : am_at (am_m 323) 631 = some (.sipush 400, 0) := by decide +kernel
theorem at_323_634 : am_at (am_m 323) 634 = some (.newarray .int, 0) := by decide +kernel
theorem at_323_636 : am_at (am_m 323) 636 = some (.putfield 235, 3189) := by decide +kernel
theorem at_323_639 : am_at (am_m 323) 639 = some (.aload_n 0, 0) := by decide +kernel
theorem at_323_640 : am_at (am_m 323) 640 = some (.sipush 1152, 0) := by decide +kernel
theorem at_323_643 : am_at (am_m 323) 643 = some (.newarray .int, 0) := by decide +kernel
theorem at_323_645 : am_at (am_m 323) 645 = some (.putfield 238, 3190) := by decide +kernel
theorem at_323_648 : am_at (am_m 323) 648 = some (.aload_n 0, 0) := by decide +kernel
theorem at_323_649 : am_at (am_m 323) 649 = some (.sipush 1152, 0) := by decide +kernel
theorem at_323_652 : am_at (am_m 323) 652 = some (.newarray .int, 0) := by decide +kernel
theorem at_323_654 : am_at (am_m 323) 654 = some (.putfield 241, 3191) := by decide +kernel
theorem at_323_657 : am_at (am_m 323) 657 = some (.aload_n 0, 0) := by decide +kernel
theorem at_323_658 : am_at (am_m 323) 658 = some (.bipush 9, 0) := by decide +kernel
theorem at_323_660 : am_at (am_m 323) 660 = some (.newarray .int, 0) := by decide +kernel
theorem at_323_662 : am_at (am_m 323) 662 = some (.putfield 244, 3192) := by decide +kernel
theorem at_323_665 : am_at (am_m 323) 665 = some (.aload_n 0, 0) := by decide +kernel
theorem at_323_666 : am_at (am_m 323) 666 = some (.bipush 61, 0) := by decide +kernel
theorem at_323_668 : am_at (am_m 323) 668 = some (.newarray .int, 0) := by decide +kernel
theorem at_323_670 : am_at (am_m 323) 670 = some (.putfield 247, 3194) := by decide +kernel
theorem at_323_673 : am_at (am_m 323) 673 = some (.aload_n 0, 0) := by decide +kernel
theorem at_323_674 : am_at (am_m 323) 674 = some (.bipush 15, 0) := by decide +kernel
theorem at_323_676 : am_at (am_m 323) 676 = some (.newarray .int, 0) := by decide +kernel
theorem at_323_678 : am_at (am_m 323) 678 = some (.putfield 250, 3195) := by decide +kernel
theorem at_323_681 : am_at (am_m 323) 681 = some (.aload_n 0, 0) := by decide +kernel
theorem at_323_682 : am_at (am_m 323) 682 = some (.bipush 36, 0) := by decide +kernel
theorem at_323_684 : am_at (am_m 323) 684 = some (.newarray .int, 0) := by decide +kernel
theorem at_323_686 : am_at (am_m 323) 686 = some (.putfield 253, 3196) := by decide +kernel
theorem at_323_689 : am_at (am_m 323) 689 = some (.aload_n 0, 0) := by decide +kernel
theorem at_323_690 : am_at (am_m 323) 690 = some (.bipush 36, 0) := by decide +kernel
theorem at_323_692 : am_at (am_m 323) 692 = some (.newarray .int, 0) := by decide +kernel
theorem at_323_694 : am_at (am_m 323) 694 = some (.putfield 256, 3197) := by decide +kernel
theorem at_323_697 : am_at (am_m 323) 697 = some (.aload_n 0, 0) := by decide +kernel
theorem at_323_698 : am_at (am_m 323) 698 = some (.bipush 36, 0) := by decide +kernel
theorem at_323_700 : am_at (am_m 323) 700 = some (.newarray .boolean, 2) := by decide +kernel
theorem at_323_702 : am_at (am_m 323) 702 = some (.putfield 259, 3198) := by decide +kernel
theorem at_323_705 : am_at (am_m 323) 705 = some (.aload_n 0, 0) := by decide +kernel
theorem at_323_706 : am_at (am_m 323) 706 = some (.bipush 36, 0) := by decide +kernel
theorem at_323_708 : am_at (am_m 323) 708 = some (.newarray .int, 0) := by decide +kernel
theorem at_323_710 : am_at (am_m 323) 710 = some (.putfield 262, 3199) := by decide +kernel
theorem at_323_713 : am_at (am_m 323) 713 = some (.aload_n 0, 0) := by decide +kernel
theorem at_323_714 : am_at (am_m 323) 714 = some (.bipush 40, 0) := by decide +kernel
theorem at_323_716 : am_at (am_m 323) 716 = some (.newarray .int, 0) := by decide +kernel
theorem at_323_718 : am_at (am_m 323) 718 = some (.putfield 265, 3200) := by decide +kernel
theorem at_323_721 : am_at (am_m 323) 721 = some (.aload_n 0, 0) := by decide +kernel
theorem at_323_722 : am_at (am_m 323) 722 = some (.bipush 60, 0) := by decide +kernel
theorem at_323_724 : am_at (am_m 323) 724 = some (.newarray .int, 0) := by decide +kernel
theorem at_323_726 : am_at (am_m 323) 726 = some (.putfield 268, 3201) := by decide +kernel
theorem at_323_729 : am_at (am_m 323) 729 = some (.aload_n 0, 0) := by decide +kernel
theorem at_323_730 : am_at (am_m 323) 730 = some (.bipush 60, 0) := by decide +kernel
theorem at_323_732 : am_at (am_m 323) 732 = some (.newarray .int, 0) := by decide +kernel
theorem at_323_734 : am_at (am_m 323) 734 = some (.putfield 271, 3202) := by decide +kernel
theorem at_323_737 : am_at (am_m 323) 737 = some (.aload_n 0, 0) := by decide +kernel
theorem at_323_738 : am_at (am_m 323) 738 = some (.bipush 6, 0) := by decide +kernel
theorem at_323_740 : am_at (am_m 323) 740 = some (.newarray .int, 0) := by decide +kernel
theorem at_323_742 : am_at (am_m 323) 742 = some (.putfield 274, 3204) := by decide +kernel
theorem at_323_745 : am_at (am_m 323) 745 = some (.aload_n 0, 0) := by decide +kernel
theorem at_323_746 : am_at (am_m 323) 746 = some (.bipush 6, 0) := by decide +kernel
theorem at_323_748 : am_at (am_m 323) 748 = some (.newarray .int, 0) := by decide +kernel
theorem at_323_750 : am_at (am_m 323) 750 = some (.putfield 277, 3205) := by decide +kernel
theorem at_323_753 : am_at (am_m 323) 753 = some (.aload_n 0, 0) := by decide +kernel
theorem at_323_754 : am_at (am_m 323) 754 = some (.bipush 6, 0) := by decide +kernel
theorem at_323_756 : am_at (am_m 323) 756 = some (.newarray .int, 0) := by decide +kernel
theorem at_323_758 : am_at (am_m 323) 758 = some (.putfield 280, 3206) := by decide +kernel
theorem at_323_761 : am_at (am_m 323) 761 = some (.aload_n 0, 0) := by decide +kernel
theorem at_323_762 : am_at (am_m 323) 762 = some (.bipush 6, 0) := by decide +kernel
theorem at_323_764 : am_at (am_m 323) 764 = some (.newarray .int, 0) := by decide +kernel
theorem at_323_766 : am_at (am_m 323) 766 = some (.putfield 283, 3207) := by decide +kernel
theorem at_323_769 : am_at (am_m 323) 769 = some (.aload_n 0, 0) := by decide +kernel
theorem at_323_770 : am_at (am_m 323) 770 = some (.bipush 40, 0) := by decide +kernel
theorem at_323_772 : am_at (am_m 323) 772 = some (.newarray .boolean, 2) := by decide +kernel
theorem at_323_774 : am_at (am_m 323) 774 = some (.putfield 286, 3208) := by decide +kernel
theorem at_323_777 : am_at (am_m 323) 777 = some (.aload_n 0, 0) := by decide +kernel
theorem at_323_778 : am_at (am_m 323) 778 = some (.bipush 8, 0) := by decide +kernel
theorem at_323_780 : am_at (am_m 323) 780 = some (.newarray .int, 0) := by decide +kernel
theorem at_323_782 : am_at (am_m 323) 782 = some (.putfield 289, 3209) := by decide +kernel
theorem at_323_785 : am_at (am_m 323) 785 = some (.aload_n 0, 0) := by decide +kernel
theorem at_323_786 : am_at (am_m 323) 786 = some (.getfield 106, 3114) := by decide +kernel
theorem at_323_789 : am_at (am_m 323) 789 = some (.iconst 0, 0) := by decide +kernel
theorem at_323_790 : am_at (am_m 323) 790 = some (.sipush 200, 0) := by decide +kernel
theorem at_323_793 : am_at (am_m 323) 793 = some (.iastore, 0) := by decide +kernel
theorem at_323_794 : am_at (am_m 323) 794 = some (.aload_n 0, 0) := by decide +kernel
theorem at_323_795 : am_at (am_m 323) 795 = some (.getfield 106, 3114) := by decide +kernel
theorem at_323_798 : am_at (am_m 323) 798 = some (.iconst 1, 0) := by decide +kernel
theorem at_323_799 : am_at (am_m 323) 799 = some (.iconst 1, 0) := by decide +kernel
theorem at_323_800 : am_at (am_m 323) 800 = some (.iastore, 0) := by decide +kernel
theorem at_323_801 : am_at (am_m 323) 801 = some (.aload_n 0, 0) := by decide +kernel
theorem at_323_802 : am_at (am_m 323) 802 = some (.getfield 106, 3114) := by decide +kernel
theorem at_323_805 : am_at (am_m 323) 805 = some (.iconst 2, 0) := by decide +kernel
theorem at_323_806 : am_at (am_m 323) 806 = some (.iconst 3, 0) := by decide +kernel
theorem at_323_807 : am_at (am_m 323) 807 = some (.iastore, 0) := by decide +kernel
theorem at_323_808 : am_at (am_m 323) 808 = some (.aload_n 0, 0) := by decide +kernel
theorem at_323_809 : am_at (am_m 323) 809 = some (.getfield 106, 3114) := by decide +kernel
theorem at_323_812 : am_at (am_m 323) 812 = some (.iconst 3, 0) := by decide +kernel
theorem at_323_813 : am_at (am_m 323) 813 = some (.bipush 30, 0) := by decide +kernel
theorem at_323_815 : am_at (am_m 323) 815 = some (.iastore, 0) := by decide +kernel
theorem at_323_816 : am_at (am_m 323) 816 = some (.return_, 0) := by decide +kernel
theorem at_324_0 : am_at (am_m 324) 0 = some (.aload_n 0, 0) := by decide +kernel
theorem at_324_1 : am_at (am_m 324) 1 = some (.getfield 292, 3072) := by decide +kernel
theorem at_324_4 : am_at (am_m 324) 4 = some (.ireturn, 0) := by decide +kernel
theorem at_325_0 : am_at (am_m 325) 0 = some (.aload_n 0, 0) := by decide +kernel
theorem at_325_1 : am_at (am_m 325) 1 = some (.iconst 0, 0) := by decide +kernel
theorem at_325_2 : am_at (am_m 325) 2 = some (.putfield 292, 3072) := by decide +kernel
theorem at_325_5 : am_at (am_m 325) 5 = some (.iconst 0, 0) := by decide +kernel
theorem at_325_6 : am_at (am_m 325) 6 = some (.istore_n 3, 0) := by decide +kernel
theorem at_325_7 : am_at (am_m 325) 7 = some (.iload_n 3, 0) := by decide +kernel
theorem at_325_8 : am_at (am_m 325) 8 = some (.bipush 8, 0) := by decide +kernel
theorem at_325_10 : am_at (am_m 325) 10 = some (.if_icmp .ge 24, 34) := by decide +kernel
theorem at_325_13 : am_at (am_m 325) 13 = some (.lload_n 1, 0) := by decide +kernel
theorem at_325_14 : am_at (am_m 325) 14 = some (.bipush 8, 0) := by decide +kernel
theorem at_325_16 : am_at (am_m 325) 16 = some (.iload_n 3, 0) := by decide +kernel
theorem at_325_17 : am_at (am_m 325) 17 = some (.imul, 0) := by decide +kernel
theorem at_325_18 : am_at (am_m 325) 18 = some (.lshr, 0) := by decide +kernel
theorem at_325_19 : am_at (am_m 325) 19 = some (.ldc2_w 453, 2) := by decide +kernel
theorem at_325_22 : am_at (am_m 325) 22 = some (.land, 0) := by decide +kernel
theorem at_325_23 : am_at (am_m 325) 23 = some (.lconst 0, 0) := by decide +kernel
theorem at_325_24 : am_at (am_m 325) 24 = some (.lcmp, 0) := by decide +kernel
theorem at_325_25 : am_at (am_m 325) 25 = some (.ifCond .eq 9, 34) := by decide +kernel
theorem at_325_28 : am_at (am_m 325) 28 = some (.iinc 3 1, 0) := by decide +kernel
theorem at_325_31 : am_at (am_m 325) 31 = some (.goto (-24), 7) := by decide +kernel
theorem at_325_34 : am_at (am_m 325) 34 = some (.aload_n 0, 0) := by decide +kernel
theorem at_325_35 : am_at (am_m 325) 35 = some (.getfield 455, 3140) := by decide +kernel
theorem at_325_38 : am_at (am_m 325) 38 = some (.iload_n 3, 0) := by decide +kernel
theorem at_325_39 : am_at (am_m 325) 39 = some (.iadd, 0) := by decide +kernel
theorem at_325_40 : am_at (am_m 325) 40 = some (.sipush 240, 0) := by decide +kernel
theorem at_325_43 : am_at (am_m 325) 43 = some (.if_icmp .le 5, 48) := by decide +kernel
theorem at_325_46 : am_at (am_m 325) 46 = some (.iconst (-1), 0) := by decide +kernel
theorem at_325_47 : am_at (am_m 325) 47 = some (.ireturn, 0) := by decide +kernel
theorem at_325_48 : am_at (am_m 325) 48 = some (.iconst 0, 0) := by decide +kernel
theorem at_325_49 : am_at (am_m 325) 49 = some (.istore 4, 0) := by decide +kernel
theorem at_325_51 : am_at (am_m 325) 51 = some (.iload 4, 0) := by decide +kernel
theorem at_325_53 : am_at (am_m 325) 53 = some (.iload_n 3, 0) := by decide +kernel
theorem at_325_54 : am_at (am_m 325) 54 = some (.if_icmp .ge 33, 87) := by decide +kernel
theorem at_325_57 : am_at (am_m 325) 57 = some (.aload_n 0, 0) := by decide +kernel
theorem at_325_58 : am_at (am_m 325) 58 = some (.getfield 142, 3139) := by decide +kernel
theorem at_325_61 : am_at (am_m 325) 61 = some (.aload_n 0, 0) := by decide +kernel
theorem at_325_62 : am_at (am_m 325) 62 = some (.getfield 455, 3140) := by decide +kernel
theorem at_325_65 : am_at (am_m 325) 65 = some (.iload 4, 0) := by decide +kernel
theorem at_325_67 : am_at (am_m 325) 67 = some (.iadd, 0) := by decide +kernel
theorem at_325_68 : am_at (am_m 325) 68 = some (.lload_n 1, 0) := by decide +kernel
theorem at_325_69 : am_at (am_m 325) 69 = some (.bipush 8, 0) := by decide +kernel
theorem at_325_71 : am_at (am_m 325) 71 = some (.iload 4, 0) := by decide +kernel
theorem at_325_73 : am_at (am_m 325) 73 = some (.imul, 0) := by decide +kernel
theorem at_325_74 : am_at (am_m 325) 74 = some (.lshr, 0) := by decide +kernel
theorem at_325_75 : am_at (am_m 325) 75 = some (.ldc2_w 453, 2) := by decide +kernel
theorem at_325_78 : am_at (am_m 325) 78 = some (.land, 0) := by decide +kernel
theorem at_325_79 : am_at (am_m 325) 79 = some (.l2i, 0) := by decide +kernel
theorem at_325_80 : am_at (am_m 325) 80 = some (.iastore, 0) := by decide +kernel
theorem at_325_81 : am_at (am_m 325) 81 = some (.iinc 4 1, 0) := by decide +kernel
theorem at_325_84 : am_at (am_m 325) 84 = some (.goto (-33), 51) := by decide +kernel
theorem at_325_87 : am_at (am_m 325) 87 = some (.aload_n 0, 0) := by decide +kernel
theorem at_325_88 : am_at (am_m 325) 88 = some (.dup, 0) := by decide +kernel
theorem at_325_89 : am_at (am_m 325) 89 = some (.getfield 455, 3140) := by decide +kernel
theorem at_325_92 : am_at (am_m 325) 92 = some (.iload_n 3, 0) := by decide +kernel
theorem at_325_93 : am_at (am_m 325) 93 = some (.iadd, 0) := by decide +kernel
theorem at_325_94 : am_at (am_m 325) 94 = some (.putfield 455, 3140) := by decide +kernel
theorem at_325_97 : am_at (am_m 325) 97 = some (.aload_n 0, 0) := by decide +kernel
theorem at_325_98 : am_at (am_m 325) 98 = some (.getfield 455, 3140) := by decide +kernel
theorem at_325_101 : am_at (am_m 325) 101 = some (.ireturn, 0) := by decide +kernel
theorem at_326_0 : am_at (am_m 326) 0 = some (.aload_n 0, 0) := by decide +kernel
theorem at_326_1 : am_at (am_m 326) 1 = some (.iload_n 1, 0) := by decide +kernel
theorem at_326_2 : am_at (am_m 326) 2 = some (.i2l, 0) := by decide +kernel
theorem at_326_3 : am_at (am_m 326) 3 = some (.lconst 0, 0) := by decide +kernel
theorem at_326_4 : am_at (am_m 326) 4 = some (.ldc2_w 529, 48) := by decide +kernel
theorem at_326_7 : am_at (am_m 326) 7 = some (.invokestatic 299, 327) := by decide +kernel
theorem at_326_10 : am_at (am_m 326) 10 = some (.ifCond .ne 7, 17) := by decide +kernel
theorem at_326_13 : am_at (am_m 326) 13 = some (.iconst 1, 0) := by decide +kernel
theorem at_326_14 : am_at (am_m 326) 14 = some (.goto 18, 32) := by decide +kernel
theorem at_326_17 : am_at (am_m 326) 17 = some (.aload_n 0, 0) := by decide +kernel
theorem at_326_18 : am_at (am_m 326) 18 = some (.getfield 296, 3073) := by decide +kernel
theorem at_326_21 : am_at (am_m 326) 21 = some (.sipush 600, 0) := by decide +kernel
theorem at_326_24 : am_at (am_m 326) 24 = some (.if_icmp .ne 7, 31) := by decide +kernel
theorem at_326_27 : am_at (am_m 326) 27 = some (.iconst 2, 0) := by decide +kernel
theorem at_326_28 : am_at (am_m 326) 28 = some (.goto 4, 32) := by decide +kernel
theorem at_326_31 : am_at (am_m 326) 31 = some (.iconst 0, 0) := by decide +kernel
theorem at_326_32 : am_at (am_m 326) 32 = some (.putfield 292, 3072) := by decide +kernel
theorem at_326_35 : am_at (am_m 326) 35 = some (.aload_n 0, 0) := by decide +kernel
theorem at_326_36 : am_at (am_m 326) 36 = some (.getfield 292, 3072) := by decide +kernel
theorem at_326_39 : am_at (am_m 326) 39 = some (.ifCond .le 5, 44) := by decide +kernel
theorem at_326_42 : am_at (am_m 326) 42 = some (.iconst 0, 0) := by decide +kernel
theorem at_326_43 : am_at (am_m 326) 43 = some (.ireturn, 0) := by decide +kernel
theorem at_326_44 : am_at (am_m 326) 44 = some (.aload_n 0, 0) := by decide +kernel
theorem at_326_45 : am_at (am_m 326) 45 = some (.iload_n 1, 0) := by decide +kernel
theorem at_326_46 : am_at (am_m 326) 46 = some (.putfield 303, 3085) := by decide +kernel
theorem at_326_49 : am_at (am_m 326) 49 = some (.aload_n 0, 0) := by decide +kernel
theorem at_326_50 : am_at (am_m 326) 50 = some (.iconst 0, 0) := by decide +kernel
theorem at_326_51 : am_at (am_m 326) 51 = some (.putfield 306, 3086) := by decide +kernel
theorem at_326_54 : am_at (am_m 326) 54 = some (.aload_n 0, 0) := by decide +kernel
theorem at_326_55 : am_at (am_m 326) 55 = some (.iconst 0, 0) := by decide +kernel
theorem at_326_56 : am_at (am_m 326) 56 = some (.putfield 309, 3087) := by decide +kernel
theorem at_326_59 : am_at (am_m 326) 59 = some (.aload_n 0, 0) := by decide +kernel
theorem at_326_60 : am_at (am_m 326) 60 = some (.iconst 0, 0) := by decide +kernel
theorem at_326_61 : am_at (am_m 326) 61 = some (.putfield 468, 3141) := by decide +kernel
theorem at_326_64 : am_at (am_m 326) 64 = some (.aload_n 0, 0) := by decide +kernel
theorem at_326_65 : am_at (am_m 326) 65 = some (.iconst (-1), 0) := by decide +kernel
theorem at_326_66 : am_at (am_m 326) 66 = some (.putfield 465, 3142) := by decide +kernel
theorem at_326_69 : am_at (am_m 326) 69 = some (.aload_n 0, 0) := by decide +kernel
theorem at_326_70 : am_at (am_m 326) 70 = some (.iconst 0, 0) := by decide +kernel
theorem at_326_71 : am_at (am_m 326) 71 = some (.putfield 506, 3149) := by decide +kernel
theorem at_326_74 : am_at (am_m 326) 74 = some (.iload_n 1, 0) := by decide +kernel
theorem at_326_75 : am_at (am_m 326) 75 = some (.ifCond .ne 10, 85) := by decide +kernel
theorem at_326_78 : am_at (am_m 326) 78 = some (.aload_n 0, 0) := by decide +kernel
theorem at_326_79 : am_at (am_m 326) 79 = some (.invokevirtual 531, 328) := by decide +kernel
theorem at_326_82 : am_at (am_m 326) 82 = some (.goto 31, 113) := by decide +kernel
theorem at_326_85 : am_at (am_m 326) 85 = some (.iload_n 1, 0) := by decide +kernel
theorem at_326_86 : am_at (am_m 326) 86 = some (.iconst 1, 0) := by decide +kernel
theorem at_326_87 : am_at (am_m 326) 87 = some (.if_icmp .ne 10, 97) := by decide +kernel
theorem at_326_90 : am_at (am_m 326) 90 = some (.aload_n 0, 0) := by decide +kernel
theorem at_326_91 : am_at (am_m 326) 91 = some (.invokevirtual 534, 344) := by decide +kernel
theorem at_326_94 : am_at (am_m 326) 94 = some (.goto 19, 113) := by decide +kernel
theorem at_326_97 : am_at (am_m 326) 97 = some (.iload_n 1, 0) := by decide +kernel
theorem at_326_98 : am_at (am_m 326) 98 = some (.iconst 2, 0) := by decide +kernel
theorem at_326_99 : am_at (am_m 326) 99 = some (.if_icmp .ne 10, 109) := by decide +kernel
theorem at_326_102 : am_at (am_m 326) 102 = some (.aload_n 0, 0) := by decide +kernel
theorem at_326_103 : am_at (am_m 326) 103 = some (.invokevirtual 537, 351) := by decide +kernel
theorem at_326_106 : am_at (am_m 326) 106 = some (.goto 7, 113) := by decide +kernel
theorem at_326_109 : am_at (am_m 326) 109 = some (.aload_n 0, 0) := by decide +kernel
theorem at_326_110 : am_at (am_m 326) 110 = some (.invokevirtual 540, 354) := by decide +kernel
theorem at_326_113 : am_at (am_m 326) 113 = some (.aload_n 0, 0) := by decide +kernel
theorem at_326_114 : am_at (am_m 326) 114 = some (.iconst 0, 0) := by decide +kernel
theorem at_326_115 : am_at (am_m 326) 115 = some (.putfield 455, 3140) := by decide +kernel
theorem at_326_118 : am_at (am_m 326) 118 = some (.aload_n 0, 0) := by decide +kernel
theorem at_326_119 : am_at (am_m 326) 119 = some (.getfield 465, 3142) := by decide +kernel
theorem at_326_122 : am_at (am_m 326) 122 = some (.ifCond .lt 12, 134) := by decide +kernel
theorem at_326_125 : am_at (am_m 326) 125 = some (.iconst (-1), 0) := by decide +kernel
theorem at_326_126 : am_at (am_m 326) 126 = some (.aload_n 0, 0) := by decide +kernel
theorem at_326_127 : am_at (am_m 326) 127 = some (.getfield 465, 3142) := by decide +kernel
theorem at_326_130 : am_at (am_m 326) 130 = some (.isub, 0) := by decide +kernel
theorem at_326_131 : am_at (am_m 326) 131 = some (.goto 13, 144) := by decide +kernel
theorem at_326_134 : am_at (am_m 326) 134 = some (.aload_n 0, 0) := by decide +kernel
theorem at_326_135 : am_at (am_m 326) 135 = some (.iconst 0, 0) := by decide +kernel
theorem at_326_136 : am_at (am_m 326) 136 = some (.iconst (-1), 0) := by decide +kernel
theorem at_326_137 : am_at (am_m 326) 137 = some (.iconst (-1), 0) := by decide +kernel
theorem at_326_138 : am_at (am_m 326) 138 = some (.iconst (-1), 0) := by decide +kernel
theorem at_326_139 : am_at (am_m 326) 139 = some (.iconst (-1), 0) := by decide +kernel
theorem at_326_140 : am_at (am_m 326) 140 = some (.lconst 0, 0) := by decide +kernel
theorem at_326_141 : am_at (am_m 326) 141 = some (.invokevirtual 543, 356) := by decide +kernel
theorem at_326_144 : am_at (am_m 326) 144 = some (.ireturn, 0) := by decide +kernel
theorem at_327_0 : am_at (am_m 327) 0 = some (.lload_n 0, 0) := by decide +kernel
theorem at_327_1 : am_at (am_m 327) 1 = some (.lload_n 2, 0) := by decide +kernel
theorem at_327_2 : am_at (am_m 327) 2 = some (.lcmp, 0) := by decide +kernel
theorem at_327_3 : am_at (am_m 327) 3 = some (.ifCond .lt 14, 17) := by decide +kernel
theorem at_327_6 : am_at (am_m 327) 6 = some (.lload_n 0, 0) := by decide +kernel
theorem at_327_7 : am_at (am_m 327) 7 = some (.lload 4, 0) := by decide +kernel
theorem at_327_9 : am_at (am_m 327) 9 = some (.lcmp, 0) := by decide +kernel
theorem at_327_10 : am_at (am_m 327) 10 = some (.ifCond .gt 7, 17) := by decide +kernel
theorem at_327_13 : am_at (am_m 327) 13 = some (.iconst 1, 0) := by decide +kernel
theorem at_327_14 : am_at (am_m 327) 14 = some (.goto 4, 18) := by decide +kernel
theorem at_327_17 : am_at (am_m 327) 17 = some (.iconst 0, 0) := by decide +kernel
theorem at_327_18 : am_at (am_m 327) 18 = some (.ireturn, 0) := by decide +kernel
theorem at_328_0 : am_at (am_m 328) 0 = some (.aload_n 0, 0) := by decide +kernel
theorem at_328_1 : am_at (am_m 328) 1 = some (.iconst 0, 0) := by decide +kernel
theorem at_328_2 : am_at (am_m 328) 2 = some (.putfield 482, 3145) := by decide +kernel
theorem at_328_5 : am_at (am_m 328) 5 = some (.iconst 1, 0) := by decide +kernel
theorem at_328_6 : am_at (am_m 328) 6 = some (.istore_n 1, 0) := by decide +kernel
theorem at_328_7 : am_at (am_m 328) 7 = some (.iload_n 1, 0) := by decide +kernel
theorem at_328_8 : am_at (am_m 328) 8 = some (.ifCond .eq 33, 41) := by decide +kernel
theorem at_328_11 : am_at (am_m 328) 11 = some (.aload_n 0, 0) := by decide +kernel
theorem at_328_12 : am_at (am_m 328) 12 = some (.getfield 465, 3142) := by decide +kernel
theorem at_328_15 : am_at (am_m 328) 15 = some (.ifCond .ge 26, 41) := by decide +kernel
theorem at_328_18 : am_at (am_m 328) 18 = some (.aload_n 0, 0) := by decide +kernel
theorem at_328_19 : am_at (am_m 328) 19 = some (.invokevirtual 485, 329) := by decide +kernel
theorem at_328_22 : am_at (am_m 328) 22 = some (.ifCond .eq 14, 36) := by decide +kernel
theorem at_328_25 : am_at (am_m 328) 25 = some (.aload_n 0, 0) := by decide +kernel
theorem at_328_26 : am_at (am_m 328) 26 = some (.invokevirtual 488, 342) := by decide +kernel
theorem at_328_29 : am_at (am_m 328) 29 = some (.ifCond .eq 7, 36) := by decide +kernel
theorem at_328_32 : am_at (am_m 328) 32 = some (.iconst 1, 0) := by decide +kernel
theorem at_328_33 : am_at (am_m 328) 33 = some (.goto 4, 37) := by decide +kernel
theorem at_328_36 : am_at (am_m 328) 36 = some (.iconst 0, 0) := by decide +kernel
theorem at_328_37 : am_at (am_m 328) 37 = some (.istore_n 1, 0) := by decide +kernel
theorem at_328_38 : am_at (am_m 328) 38 = some (.goto (-31), 7) := by decide +kernel
theorem at_328_41 : am_at (am_m 328) 41 = some (.aload_n 0, 0) := by decide +kernel
theorem at_328_42 : am_at (am_m 328) 42 = some (.getfield 465, 3142) := by decide +kernel
theorem at_328_45 : am_at (am_m 328) 45 = some (.ifCond .ge 23, 68) := by decide +kernel
theorem at_328_48 : am_at (am_m 328) 48 = some (.aload_n 0, 0) := by decide +kernel
theorem at_328_49 : am_at (am_m 328) 49 = some (.getfield 468, 3141) := by decide +kernel
theorem at_328_52 : am_at (am_m 328) 52 = some (.aload_n 0, 0) := by decide +kernel
theorem at_328_53 : am_at (am_m 328) 53 = some (.getfield 455, 3140) := by decide +kernel
theorem at_328_56 : am_at (am_m 328) 56 = some (.if_icmp .ge 12, 68) := by decide +kernel
theorem at_328_59 : am_at (am_m 328) 59 = some (.aload_n 0, 0) := by decide +kernel
theorem at_328_60 : am_at (am_m 328) 60 = some (.aload_n 0, 0) := by decide +kernel
theorem at_328_61 : am_at (am_m 328) 61 = some (.getfield 468, 3141) := by decide +kernel
theorem at_328_64 : am_at (am_m 328) 64 = some (.invokevirtual 471, 331) := by decide +kernel
theorem at_328_67 : am_at (am_m 328) 67 = some (.pop, 0) := by decide +kernel
theorem at_328_68 : am_at (am_m 328) 68 = some (.return_, 0) := by decide +kernel
theorem at_329_0 : am_at (am_m 329) 0 = some (.aload_n 0, 0) := by decide +kernel
theorem at_329_1 : am_at (am_m 329) 1 = some (.getfield 482, 3145) := by decide +kernel
theorem at_329_4 : am_at (am_m 329) 4 = some (.ifCond .le 35, 39) := by decide +kernel
theorem at_329_7 : am_at (am_m 329) 7 = some (.aload_n 0, 0) := by decide +kernel
theorem at_329_8 : am_at (am_m 329) 8 = some (.getfield 148, 3146) := by decide +kernel
theorem at_329_11 : am_at (am_m 329) 11 = some (.aload_n 0, 0) := by decide +kernel
theorem at_329_12 : am_at (am_m 329) 12 = some (.getfield 482, 3145) := by decide +kernel
theorem at_329_15 : am_at (am_m 329) 15 = some (.iconst 1, 0) := by decide +kernel
theorem at_329_16 : am_at (am_m 329) 16 = some (.isub, 0) := by decide +kernel
theorem at_329_17 : am_at (am_m 329) 17 = some (.iaload, 0) := by decide +kernel
theorem at_329_18 : am_at (am_m 329) 18 = some (.aload_n 0, 0) := by decide +kernel
theorem at_329_19 : am_at (am_m 329) 19 = some (.getfield 151, 3147) := by decide +kernel
theorem at_329_22 : am_at (am_m 329) 22 = some (.aload_n 0, 0) := by decide +kernel
theorem at_329_23 : am_at (am_m 329) 23 = some (.getfield 482, 3145) := by decide +kernel
theorem at_329_26 : am_at (am_m 329) 26 = some (.iconst 1, 0) := by decide +kernel
theorem at_329_27 : am_at (am_m 329) 27 = some (.isub, 0) := by decide +kernel
theorem at_329_28 : am_at (am_m 329) 28 = some (.iaload, 0) := by decide +kernel
theorem at_329_29 : am_at (am_m 329) 29 = some (.invokestatic 342, 330) := by decide +kernel
theorem at_329_32 : am_at (am_m 329) 32 = some (.ifCond .eq 7, 39) := by decide +kernel
theorem at_329_35 : am_at (am_m 329) 35 = some (.iconst 1, 0) := by decide +kernel
theorem at_329_36 : am_at (am_m 329) 36 = some (.goto 4, 40) := by decide +kernel
theorem at_329_39 : am_at (am_m 329) 39 = some (.iconst 0, 0) := by decide +kernel
theorem at_329_40 : am_at (am_m 329) 40 = some (.istore_n 1, 0) := by decide +kernel
theorem at_329_41 : am_at (am_m 329) 41 = some (.aload_n 0, 0) := by decide +kernel
theorem at_329_42 : am_at (am_m 329) 42 = some (.getfield 482, 3145) := by decide +kernel
theorem at_329_45 : am_at (am_m 329) 45 = some (.ifCond .le 52, 97) := by decide +kernel
theorem at_329_48 : am_at (am_m 329) 48 = some (.aload_n 0, 0) := by decide +kernel
theorem at_329_49 : am_at (am_m 329) 49 = some (.getfield 154, 3148) := by decide +kernel
theorem at_329_52 : am_at (am_m 329) 52 = some (.aload_n 0, 0) := by decide +kernel
theorem at_329_53 : am_at (am_m 329) 53 = some (.getfield 482, 3145) := by decide +kernel
theorem at_329_56 : am_at (am_m 329) 56 = some (.iconst 1, 0) := by decide +kernel
theorem at_329_57 : am_at (am_m 329) 57 = some (.isub, 0) := by decide +kernel
theorem at_329_58 : am_at (am_m 329) 58 = some (.baload, 0) := by decide +kernel
theorem at_329_59 : am_at (am_m 329) 59 = some (.ifCond .ne 34, 93) := by decide +kernel
theorem at_329_62 : am_at (am_m 329) 62 = some (.aload_n 0, 0) := by decide +kernel
theorem at_329_63 : am_at (am_m 329) 63 = some (.getfield 148, 3146) := by decide +kernel
theorem at_329_66 : am_at (am_m 329) 66 = some (.aload_n 0, 0) := by decide +kernel
theorem at_329_67 : am_at (am_m 329) 67 = some (.getfield 482, 3145) := by decide +kernel
theorem at_329_70 : am_at (am_m 329) 70 = some (.iconst 1, 0) := by decide +kernel
theorem at_329_71 : am_at (am_m 329) 71 = some (.isub, 0) := by decide +kernel
theorem at_329_72 : am_at (am_m 329) 72 = some (.iaload, 0) := by decide +kernel
theorem at_329_73 : am_at (am_m 329) 73 = some (.bipush 19, 0) := by decide +kernel
theorem at_329_75 : am_at (am_m 329) 75 = some (.if_icmp .ne 22, 97) := by decide +kernel
theorem at_329_78 : am_at (am_m 329) 78 = some (.aload_n 0, 0) := by decide +kernel
theorem at_329_79 : am_at (am_m 329) 79 = some (.getfield 151, 3147) := by decide +kernel
theorem at_329_82 : am_at (am_m 329) 82 = some (.aload_n 0, 0) := by decide +kernel
theorem at_329_83 : am_at (am_m 329) 83 = some (.getfield 482, 3145) := by decide +kernel
theorem at_329_86 : am_at (am_m 329) 86 = some (.iconst 1, 0) := by decide +kernel
theorem at_329_87 : am_at (am_m 329) 87 = some (.isub, 0) := by decide +kernel
theorem at_329_88 : am_at (am_m 329) 88 = some (.iaload, 0) := by decide +kernel
theorem at_329_89 : am_at (am_m 329) 89 = some (.iconst 1, 0) := by decide +kernel
theorem at_329_90 : am_at (am_m 329) 90 = some (.if_icmp .ne 7, 97) := by decide +kernel
theorem at_329_93 : am_at (am_m 329) 93 = some (.iconst 1, 0) := by decide +kernel
theorem at_329_94 : am_at (am_m 329) 94 = some (.goto 4, 98) := by decide +kernel
theorem at_329_97 : am_at (am_m 329) 97 = some (.iconst 0, 0) := by decide +kernel
theorem at_329_98 : am_at (am_m 329) 98 = some (.istore_n 2, 0) := by decide +kernel
theorem at_329_99 : am_at (am_m 329) 99 = some (.aload_n 0, 0) := by decide +kernel
theorem at_329_100 : am_at (am_m 329) 100 = some (.getfield 306, 3086) := by decide +kernel
theorem at_329_103 : am_at (am_m 329) 103 = some (.bipush 60, 0) := by decide +kernel
theorem at_329_105 : am_at (am_m 329) 105 = some (.if_icmp .eq 12, 117) := by decide +kernel
theorem at_329_108 : am_at (am_m 329) 108 = some (.aload_n 0, 0) := by decide +kernel
theorem at_329_109 : am_at (am_m 329) 109 = some (.getfield 482, 3145) := by decide +kernel
theorem at_329_112 : am_at (am_m 329) 112 = some (.bipush 12, 0) := by decide +kernel
theorem at_329_114 : am_at (am_m 329) 114 = some (.if_icmp .ne 12, 126) := by decide +kernel
theorem at_329_117 : am_at (am_m 329) 117 = some (.aload_n 0, 0) := by decide +kernel
theorem at_329_118 : am_at (am_m 329) 118 = some (.aload_n 0, 0) := by decide +kernel
theorem at_329_119 : am_at (am_m 329) 119 = some (.getfield 468, 3141) := by decide +kernel
theorem at_329_122 : am_at (am_m 329) 122 = some (.invokevirtual 471, 331) := by decide +kernel
theorem at_329_125 : am_at (am_m 329) 125 = some (.ireturn, 0) := by decide +kernel
theorem at_329_126 : am_at (am_m 329) 126 = some (.aload_n 0, 0) := by decide +kernel
theorem at_329_127 : am_at (am_m 329) 127 = some (.aload_n 0, 0) := by decide +kernel
theorem at_329_128 : am_at (am_m 329) 128 = some (.getfield 468, 3141) := by decide +kernel
theorem at_329_131 : am_at (am_m 329) 131 = some (.invokevirtual 458, 332) := by decide +kernel
theorem at_329_134 : am_at (am_m 329) 134 = some (.bipush 40, 0) := by decide +kernel
theorem at_329_136 : am_at (am_m 329) 136 = some (.if_icmp .ne 128, 264) := by decide +kernel
theorem at_329_139 : am_at (am_m 329) 139 = some (.aload_n 0, 0) := by decide +kernel
theorem at_329_140 : am_at (am_m 329) 140 = some (.aload_n 0, 0) := by decide +kernel
theorem at_329_141 : am_at (am_m 329) 141 = some (.getfield 468, 3141) := by decide +kernel
theorem at_329_144 : am_at (am_m 329) 144 = some (.iconst 1, 0) := by decide +kernel
theorem at_329_145 : am_at (am_m 329) 145 = some (.iadd, 0) := by decide +kernel
theorem at_329_146 : am_at (am_m 329) 146 = some (.invokevirtual 458, 332) := by decide +kernel
theorem at_329_149 : am_at (am_m 329) 149 = some (.invokestatic 491, 333) := by decide +kernel
theorem at_329_152 : am_at (am_m 329) 152 = some (.istore_n 3, 0) := by decide +kernel
theorem at_329_153 : am_at (am_m 329) 153 = some (.iload_n 3, 0) := by decide +kernel
theorem at_329_154 : am_at (am_m 329) 154 = some (.ifCond .lt 21, 175) := by decide +kernel
theorem at_329_157 : am_at (am_m 329) 157 = some (.iload_n 3, 0) := by decide +kernel
theorem at_329_158 : am_at (am_m 329) 158 = some (.invokestatic 338, 334) := by decide +kernel
theorem at_329_161 : am_at (am_m 329) 161 = some (.iload_n 1, 0) := by decide +kernel
theorem at_329_162 : am_at (am_m 329) 162 = some (.if_icmp .ne 13, 175) := by decide +kernel
theorem at_329_165 : am_at (am_m 329) 165 = some (.iload_n 2, 0) := by decide +kernel
theorem at_329_166 : am_at (am_m 329) 166 = some (.ifCond .eq 20, 186) := by decide +kernel
theorem at_329_169 : am_at (am_m 329) 169 = some (.iload_n 3, 0) := by decide +kernel
theorem at_329_170 : am_at (am_m 329) 170 = some (.bipush 19, 0) := by decide +kernel
theorem at_329_172 : am_at (am_m 329) 172 = some (.if_icmp .ne 14, 186) := by decide +kernel
theorem at_329_175 : am_at (am_m 329) 175 = some (.aload_n 0, 0) := by decide +kernel
theorem at_329_176 : am_at (am_m 329) 176 = some (.aload_n 0, 0) := by decide +kernel
theorem at_329_177 : am_at (am_m 329) 177 = some (.getfield 468, 3141) := by decide +kernel
theorem at_329_180 : am_at (am_m 329) 180 = some (.iconst 1, 0) := by decide +kernel
theorem at_329_181 : am_at (am_m 329) 181 = some (.iadd, 0) := by decide +kernel
theorem at_329_182 : am_at (am_m 329) 182 = some (.invokevirtual 471, 331) := by decide +kernel
theorem at_329_185 : am_at (am_m 329) 185 = some (.ireturn, 0) := by decide +kernel
theorem at_329_186 : am_at (am_m 329) 186 = some (.aload_n 0, 0) := by decide +kernel
theorem at_329_187 : am_at (am_m 329) 187 = some (.iload_n 3, 0) := by decide +kernel
theorem at_329_188 : am_at (am_m 329) 188 = some (.iconst 0, 0) := by decide +kernel
theorem at_329_189 : am_at (am_m 329) 189 = some (.invokevirtual 335, 335) := by decide +kernel
theorem at_329_192 : am_at (am_m 329) 192 = some (.aload_n 0, 0) := by decide +kernel
theorem at_329_193 : am_at (am_m 329) 193 = some (.dup, 0) := by decide +kernel
theorem at_329_194 : am_at (am_m 329) 194 = some (.getfield 468, 3141) := by decide +kernel
theorem at_329_197 : am_at (am_m 329) 197 = some (.iconst 2, 0) := by decide +kernel
theorem at_329_198 : am_at (am_m 329) 198 = some (.iadd, 0) := by decide +kernel
theorem at_329_199 : am_at (am_m 329) 199 = some (.putfield 468, 3141) := by decide +kernel
theorem at_329_202 : am_at (am_m 329) 202 = some (.aload_n 0, 0) := by decide +kernel
theorem at_329_203 : am_at (am_m 329) 203 = some (.getfield 148, 3146) := by decide +kernel
theorem at_329_206 : am_at (am_m 329) 206 = some (.aload_n 0, 0) := by decide +kernel
theorem at_329_207 : am_at (am_m 329) 207 = some (.getfield 482, 3145) := by decide +kernel
theorem at_329_210 : am_at (am_m 329) 210 = some (.iload_n 3, 0) := by decide +kernel
theorem at_329_211 : am_at (am_m 329) 211 = some (.iastore, 0) := by decide +kernel
theorem at_329_212 : am_at (am_m 329) 212 = some (.aload_n 0, 0) := by decide +kernel
theorem at_329_213 : am_at (am_m 329) 213 = some (.getfield 151, 3147) := by decide +kernel
theorem at_329_216 : am_at (am_m 329) 216 = some (.aload_n 0, 0) := by decide +kernel
theorem at_329_217 : am_at (am_m 329) 217 = some (.getfield 482, 3145) := by decide +kernel
theorem at_329_220 : am_at (am_m 329) 220 = some (.iconst 0, 0) := by decide +kernel
theorem at_329_221 : am_at (am_m 329) 221 = some (.iastore, 0) := by decide +kernel
theorem at_329_222 : am_at (am_m 329) 222 = some (.aload_n 0, 0) := by decide +kernel
theorem at_329_223 : am_at (am_m 329) 223 = some (.getfield 154, 3148) := by decide +kernel
theorem at_329_226 : am_at (am_m 329) 226 = some (.aload_n 0, 0) := by decide +kernel
theorem at_329_227 : am_at (am_m 329) 227 = some (.getfield 482, 3145) := by decide +kernel
theorem at_329_230 : am_at (am_m 329) 230 = some (.iload_n 2, 0) := by decide +kernel
theorem at_329_231 : am_at (am_m 329) 231 = some (.bastore, 0) := by decide +kernel
theorem at_329_232 : am_at (am_m 329) 232 = some (.aload_n 0, 0) := by decide +kernel
theorem at_329_233 : am_at (am_m 329) 233 = some (.dup, 0) := by decide +kernel
theorem at_329_234 : am_at (am_m 329) 234 = some (.getfield 482, 3145) := by decide +kernel
theorem at_329_237 : am_at (am_m 329) 237 = some (.iconst 1, 0) := by decide +kernel
theorem at_329_238 : am_at (am_m 329) 238 = some (.iadd, 0) := by decide +kernel
theorem at_329_239 : am_at (am_m 329) 239 = some (.putfield 482, 3145) := by decide +kernel
theorem at_329_242 : am_at (am_m 329) 242 = some (.aload_n 0, 0) := by decide +kernel
theorem at_329_243 : am_at (am_m 329) 243 = some (.bipush 32, 0) := by decide +kernel
theorem at_329_245 : am_at (am_m 329) 245 = some (.invokevirtual 494, 336) := by decide +kernel
theorem at_329_248 : am_at (am_m 329) 248 = some (.ifCond .eq 14, 262) := by decide +kernel
theorem at_329_251 : am_at (am_m 329) 251 = some (.aload_n 0, 0) := by decide +kernel
theorem at_329_252 : am_at (am_m 329) 252 = some (.invokevirtual 497, 337) := by decide +kernel
theorem at_329_255 : am_at (am_m 329) 255 = some (.ifCond .eq 7, 262) := by decide +kernel
theorem at_329_258 : am_at (am_m 329) 258 = some (.iconst 1, 0) := by decide +kernel
theorem at_329_259 : am_at (am_m 329) 259 = some (.goto 4, 263) := by decide +kernel
theorem at_329_262 : am_at (am_m 329) 262 = some (.iconst 0, 0) := by decide +kernel
theorem at_329_263 : am_at (am_m 329) 263 = some (.ireturn, 0) := by decide +kernel
theorem at_329_264 : am_at (am_m 329) 264 = some (.aload_n 0, 0) := by decide +kernel
theorem at_329_265 : am_at (am_m 329) 265 = some (.aload_n 0, 0) := by decide +kernel
theorem at_329_266 : am_at (am_m 329) 266 = some (.getfield 468, 3141) := by decide +kernel
theorem at_329_269 : am_at (am_m 329) 269 = some (.invokevirtual 458, 332) := by decide +kernel
theorem at_329_272 : am_at (am_m 329) 272 = some (.invokestatic 500, 338) := by decide +kernel
theorem at_329_275 : am_at (am_m 329) 275 = some (.istore_n 3, 0) := by decide +kernel
theorem at_329_276 : am_at (am_m 329) 276 = some (.iload_n 1, 0) := by decide +kernel
theorem at_329_277 : am_at (am_m 329) 277 = some (.ifCond .ne 12, 289) := by decide +kernel
theorem at_329_280 : am_at (am_m 329) 280 = some (.iload_n 2, 0) := by decide +kernel
theorem at_329_281 : am_at (am_m 329) 281 = some (.ifCond .ne 17, 298) := by decide +kernel
theorem at_329_284 : am_at (am_m 329) 284 = some (.iload_n 3, 0) := by decide +kernel
theorem at_329_285 : am_at (am_m 329) 285 = some (.iconst 4, 0) := by decide +kernel
theorem at_329_286 : am_at (am_m 329) 286 = some (.if_icmp .le 12, 298) := by decide +kernel
theorem at_329_289 : am_at (am_m 329) 289 = some (.aload_n 0, 0) := by decide +kernel
theorem at_329_290 : am_at (am_m 329) 290 = some (.aload_n 0, 0) := by decide +kernel
theorem at_329_291 : am_at (am_m 329) 291 = some (.getfield 468, 3141) := by decide +kernel
theorem at_329_294 : am_at (am_m 329) 294 = some (.invokevirtual 471, 331) := by decide +kernel
theorem at_329_297 : am_at (am_m 329) 297 = some (.ireturn, 0) := by decide +kernel
theorem at_329_298 : am_at (am_m 329) 298 = some (.iload_n 3, 0) := by decide +kernel
theorem at_329_299 : am_at (am_m 329) 299 = some (.ifCond .le 21, 320) := by decide +kernel
theorem at_329_302 : am_at (am_m 329) 302 = some (.aload_n 0, 0) := by decide +kernel
theorem at_329_303 : am_at (am_m 329) 303 = some (.iload_n 3, 0) := by decide +kernel
theorem at_329_304 : am_at (am_m 329) 304 = some (.iconst 0, 0) := by decide +kernel
theorem at_329_305 : am_at (am_m 329) 305 = some (.invokevirtual 335, 335) := by decide +kernel
theorem at_329_308 : am_at (am_m 329) 308 = some (.aload_n 0, 0) := by decide +kernel
theorem at_329_309 : am_at (am_m 329) 309 = some (.dup, 0) := by decide +kernel
theorem at_329_310 : am_at (am_m 329) 310 = some (.getfield 468, 3141) := by decide +kernel
theorem at_329_313 : am_at (am_m 329) 313 = some (.iconst 1, 0) := by decide +kernel
theorem at_329_314 : am_at (am_m 329) 314 = some (.iadd, 0) := by decide +kernel
theorem at_329_315 : am_at (am_m 329) 315 = some (.putfield 468, 3141) := by decide +kernel
theorem at_329_318 : am_at (am_m 329) 318 = some (.iconst 1, 0) := by decide +kernel
theorem at_329_319 : am_at (am_m 329) 319 = some (.ireturn, 0) := by decide +kernel
theorem at_329_320 : am_at (am_m 329) 320 = some (.aload_n 0, 0) := by decide +kernel
theorem at_329_321 : am_at (am_m 329) 321 = some (.aload_n 0, 0) := by decide +kernel
theorem at_329_322 : am_at (am_m 329) 322 = some (.getfield 468, 3141) := by decide +kernel
theorem at_329_325 : am_at (am_m 329) 325 = some (.invokevirtual 458, 332) := by decide +kernel
theorem at_329_328 : am_at (am_m 329) 328 = some (.bipush 45, 0) := by decide +kernel
theorem at_329_330 : am_at (am_m 329) 330 = some (.if_icmp .eq 23, 353) := by decide +kernel
theorem at_329_333 : am_at (am_m 329) 333 = some (.aload_n 0, 0) := by decide +kernel
theorem at_329_334 : am_at (am_m 329) 334 = some (.aload_n 0, 0) := by decide +kernel
theorem at_329_335 : am_at (am_m 329) 335 = some (.getfield 468, 3141) := by decide +kernel
theorem at_329_338 : am_at (am_m 329) 338 = some (.invokevirtual 474, 339) := by decide +kernel
theorem at_329_341 : am_at (am_m 329) 341 = some (.ifCond .ne 12, 353) := by decide +kernel
theorem at_329_344 : am_at (am_m 329) 344 = some (.aload_n 0, 0) := by decide +kernel
theorem at_329_345 : am_at (am_m 329) 345 = some (.aload_n 0, 0) := by decide +kernel
theorem at_329_346 : am_at (am_m 329) 346 = some (.getfield 468, 3141) := by decide +kernel
theorem at_329_349 : am_at (am_m 329) 349 = some (.invokevirtual 471, 331) := by decide +kernel
theorem at_329_352 : am_at (am_m 329) 352 = some (.ireturn, 0) := by decide +kernel
theorem at_329_353 : am_at (am_m 329) 353 = some (.aload_n 0, 0) := by decide +kernel
theorem at_329_354 : am_at (am_m 329) 354 = some (.invokevirtual 503, 340) := by decide +kernel
theorem at_329_357 : am_at (am_m 329) 357 = some (.ifCond .ne 5, 362) := by decide +kernel
theorem at_329_360 : am_at (am_m 329) 360 = some (.iconst 0, 0) := by decide +kernel
theorem at_329_361 : am_at (am_m 329) 361 = some (.ireturn, 0) := by decide +kernel
theorem at_329_362 : am_at (am_m 329) 362 = some (.aload_n 0, 0) := by decide +kernel
theorem at_329_363 : am_at (am_m 329) 363 = some (.iconst 0, 0) := by decide +kernel
theorem at_329_364 : am_at (am_m 329) 364 = some (.aload_n 0, 0) := by decide +kernel
theorem at_329_365 : am_at (am_m 329) 365 = some (.getfield 477, 3144) := by decide +kernel
theorem at_329_368 : am_at (am_m 329) 368 = some (.invokevirtual 335, 335) := by decide +kernel
theorem at_329_371 : am_at (am_m 329) 371 = some (.iconst 1, 0) := by decide +kernel
theorem at_329_372 : am_at (am_m 329) 372 = some (.ireturn, 0) := by decide +kernel
theorem at_330_0 : am_at (am_m 330) 0 = some (.iload_n 0, 0) := by decide +kernel
theorem at_330_1 : am_at (am_m 330) 1 = some (.bipush 9, 0) := by decide +kernel
theorem at_330_3 : am_at (am_m 330) 3 = some (.if_icmp .eq 25, 28) := by decide +kernel
theorem at_330_6 : am_at (am_m 330) 6 = some (.iload_n 0, 0) := by decide +kernel
theorem at_330_7 : am_at (am_m 330) 7 = some (.bipush 17, 0) := by decide +kernel
theorem at_330_9 : am_at (am_m 330) 9 = some (.if_icmp .eq 19, 28) := by decide +kernel
theorem at_330_12 : am_at (am_m 330) 12 = some (.iload_n 0, 0) := by decide +kernel
theorem at_330_13 : am_at (am_m 330) 13 = some (.bipush 18, 0) := by decide +kernel
theorem at_330_15 : am_at (am_m 330) 15 = some (.if_icmp .eq 13, 28) := by decide +kernel
theorem at_330_18 : am_at (am_m 330) 18 = some (.iload_n 0, 0) := by decide +kernel
theorem at_330_19 : am_at (am_m 330) 19 = some (.bipush 20, 0) := by decide +kernel
theorem at_330_21 : am_at (am_m 330) 21 = some (.if_icmp .ne 11, 32) := by decide +kernel
theorem at_330_24 : am_at (am_m 330) 24 = some (.iload_n 1, 0) := by decide +kernel
theorem at_330_25 : am_at (am_m 330) 25 = some (.ifCond .ne 7, 32) := by decide +kernel
theorem at_330_28 : am_at (am_m 330) 28 = some (.iconst 1, 0) := by decide +kernel
theorem at_330_29 : am_at (am_m 330) 29 = some (.goto 4, 33) := by decide +kernel
theorem at_330_32 : am_at (am_m 330) 32 = some (.iconst 0, 0) := by decide +kernel
theorem at_330_33 : am_at (am_m 330) 33 = some (.ireturn, 0) := by decide +kernel
theorem at_331_0 : am_at (am_m 331) 0 = some (.aload_n 0, 0) := by decide +kernel
theorem at_331_1 : am_at (am_m 331) 1 = some (.aload_n 0, 0) := by decide +kernel
theorem at_331_2 : am_at (am_m 331) 2 = some (.getfield 465, 3142) := by decide +kernel
theorem at_331_5 : am_at (am_m 331) 5 = some (.ifCond .ge 7, 12) := by decide +kernel
theorem at_331_8 : am_at (am_m 331) 8 = some (.iload_n 1, 0) := by decide +kernel
theorem at_331_9 : am_at (am_m 331) 9 = some (.goto 7, 16) := by decide +kernel
theorem at_331_12 : am_at (am_m 331) 12 = some (.aload_n 0, 0) := by decide +kernel
theorem at_331_13 : am_at (am_m 331) 13 = some (.getfield 465, 3142) := by decide +kernel
theorem at_331_16 : am_at (am_m 331) 16 = some (.putfield 465, 3142) := by decide +kernel
theorem at_331_19 : am_at (am_m 331) 19 = some (.iconst 0, 0) := by decide +kernel
theorem at_331_20 : am_at (am_m 331) 20 = some (.ireturn, 0) := by decide +kernel
theorem at_332_0 : am_at (am_m 332) 0 = some (.iload_n 1, 0) := by decide +kernel
theorem at_332_1 : am_at (am_m 332) 1 = some (.aload_n 0, 0) := by decide +kernel
theorem at_332_2 : am_at (am_m 332) 2 = some (.getfield 455, 3140) := by decide +kernel
theorem at_332_5 : am_at (am_m 332) 5 = some (.if_icmp .ge 12, 17) := by decide +kernel
theorem at_332_8 : am_at (am_m 332) 8 = some (.aload_n 0, 0) := by decide +kernel
theorem at_332_9 : am_at (am_m 332) 9 = some (.getfield 142, 3139) := by decide +kernel
theorem at_332_12 : am_at (am_m 332) 12 = some (.iload_n 1, 0) := by decide +kernel
theorem at_332_13 : am_at (am_m 332) 13 = some (.iaload, 0) := by decide +kernel
theorem at_332_14 : am_at (am_m 332) 14 = some (.goto 4, 18) := by decide +kernel
theorem at_332_17 : am_at (am_m 332) 17 = some (.iconst (-1), 0) := by decide +kernel
theorem at_332_18 : am_at (am_m 332) 18 = some (.ireturn, 0) := by decide +kernel
theorem at_333_0 : am_at (am_m 333) 0 = some (.iload_n 0, 0) := by decide +kernel
theorem at_333_1 : am_at (am_m 333) 1 = some (.lookupswitch 165 #[(33, 129), (35, 126), (37, 144), (38, 153), (42, 138), (43, 132), (45, 135), (47, 141), (60, 147), (61, 150), (63, 162), (64, 159), (124, 156), (126, 123)], 0) := by decide +kernel
theorem at_333_124 : am_at (am_m 333) 124 = some (.bipush 7, 0) := by decide +kernel
theorem at_333_126 : am_at (am_m 333) 126 = some (.ireturn, 0) := by decide +kernel
theorem at_333_127 : am_at (am_m 333) 127 = some (.bipush 8, 0) := by decide +kernel
theorem at_333_129 : am_at (am_m 333) 129 = some (.ireturn, 0) := by decide +kernel
theorem at_333_130 : am_at (am_m 333) 130 = some (.bipush 9, 0) := by decide +kernel
theorem at_333_132 : am_at (am_m 333) 132 = some (.ireturn, 0) := by decide +kernel
theorem at_333_133 : am_at (am_m 333) 133 = some (.bipush 10, 0) := by decide +kernel
theorem at_333_135 : am_at (am_m 333) 135 = some (.ireturn, 0) := by decide +kernel
theorem at_333_136 : am_at (am_m 333) 136 = some (.bipush 11, 0) := by decide +kernel
theorem at_333_138 : am_at (am_m 333) 138 = some (.ireturn, 0) := by decide +kernel
theorem at_333_139 : am_at (am_m 333) 139 = some (.bipush 12, 0) := by decide +kernel
theorem at_333_141 : am_at (am_m 333) 141 = some (.ireturn, 0) := by decide +kernel
theorem at_333_142 : am_at (am_m 333) 142 = some (.bipush 13, 0) := by decide +kernel
theorem at_333_144 : am_at (am_m 333) 144 = some (.ireturn, 0) := by decide +kernel
theorem at_333_145 : am_at (am_m 333) 145 = some (.bipush 14, 0) := by decide +kernel
theorem at_333_147 : am_at (am_m 333) 147 = some (.ireturn, 0) := by decide +kernel
theorem at_333_148 : am_at (am_m 333) 148 = some (.bipush 15, 0) := by decide +kernel
theorem at_333_150 : am_at (am_m 333) 150 = some (.ireturn, 0) := by decide +kernel
theorem at_333_151 : am_at (am_m 333) 151 = some (.bipush 16, 0) := by decide +kernel
theorem at_333_153 : am_at (am_m 333) 153 = some (.ireturn, 0) := by decide +kernel
theorem at_333_154 : am_at (am_m 333) 154 = some (.bipush 17, 0) := by decide +kernel
theorem at_333_156 : am_at (am_m 333) 156 = some (.ireturn, 0) := by decide +kernel
theorem at_333_157 : am_at (am_m 333) 157 = some (.bipush 18, 0) := by decide +kernel
theorem at_333_159 : am_at (am_m 333) 159 = some (.ireturn, 0) := by decide +kernel
theorem at_333_160 : am_at (am_m 333) 160 = some (.bipush 19, 0) := by decide +kernel
theorem at_333_162 : am_at (am_m 333) 162 = some (.ireturn, 0) := by decide +kernel
theorem at_333_163 : am_at (am_m 333) 163 = some (.bipush 20, 0) := by decide +kernel
theorem at_333_165 : am_at (am_m 333) 165 = some (.ireturn, 0) := by decide +kernel
theorem at_333_166 : am_at (am_m 333) 166 = some (.iconst (-1), 0) := by decide +kernel
theorem at_333_167 : am_at (am_m 333) 167 = some (.ireturn, 0) := by decide +kernel
theorem at_334_0 : am_at (am_m 334) 0 = some (.iload_n 0, 0) := by decide +kernel
theorem at_334_1 : am_at (am_m 334) 1 = some (.bipush 9, 0) := by decide +kernel
theorem at_334_3 : am_at (am_m 334) 3 = some (.if_icmp .eq 15, 18) := by decide +kernel
theorem at_334_6 : am_at (am_m 334) 6 = some (.iload_n 0, 0) := by decide +kernel
theorem at_334_7 : am_at (am_m 334) 7 = some (.bipush 15, 0) := by decide +kernel
theorem at_334_9 : am_at (am_m 334) 9 = some (.if_icmp .lt 13, 22) := by decide +kernel
theorem at_334_12 : am_at (am_m 334) 12 = some (.iload_n 0, 0) := by decide +kernel
theorem at_334_13 : am_at (am_m 334) 13 = some (.bipush 18, 0) := by decide +kernel
theorem at_334_15 : am_at (am_m 334) 15 = some (.if_icmp .gt 7, 22) := by decide +kernel
theorem at_334_18 : am_at (am_m 334) 18 = some (.iconst 1, 0) := by decide +kernel
theorem at_334_19 : am_at (am_m 334) 19 = some (.goto 4, 23) := by decide +kernel
theorem at_334_22 : am_at (am_m 334) 22 = some (.iconst 0, 0) := by decide +kernel
theorem at_334_23 : am_at (am_m 334) 23 = some (.ireturn, 0) := by decide +kernel
theorem at_335_0 : am_at (am_m 335) 0 = some (.aload_n 0, 0) := by decide +kernel
theorem at_335_1 : am_at (am_m 335) 1 = some (.getfield 45, 3088) := by decide +kernel
theorem at_335_4 : am_at (am_m 335) 4 = some (.aload_n 0, 0) := by decide +kernel
theorem at_335_5 : am_at (am_m 335) 5 = some (.getfield 306, 3086) := by decide +kernel
theorem at_335_8 : am_at (am_m 335) 8 = some (.iload_n 1, 0) := by decide +kernel
theorem at_335_9 : am_at (am_m 335) 9 = some (.iastore, 0) := by decide +kernel
theorem at_335_10 : am_at (am_m 335) 10 = some (.aload_n 0, 0) := by decide +kernel
theorem at_335_11 : am_at (am_m 335) 11 = some (.getfield 48, 3089) := by decide +kernel
theorem at_335_14 : am_at (am_m 335) 14 = some (.aload_n 0, 0) := by decide +kernel
theorem at_335_15 : am_at (am_m 335) 15 = some (.getfield 306, 3086) := by decide +kernel
theorem at_335_18 : am_at (am_m 335) 18 = some (.iload_n 2, 0) := by decide +kernel
theorem at_335_19 : am_at (am_m 335) 19 = some (.iastore, 0) := by decide +kernel
theorem at_335_20 : am_at (am_m 335) 20 = some (.aload_n 0, 0) := by decide +kernel
theorem at_335_21 : am_at (am_m 335) 21 = some (.dup, 0) := by decide +kernel
theorem at_335_22 : am_at (am_m 335) 22 = some (.getfield 306, 3086) := by decide +kernel
theorem at_335_25 : am_at (am_m 335) 25 = some (.iconst 1, 0) := by decide +kernel
theorem at_335_26 : am_at (am_m 335) 26 = some (.iadd, 0) := by decide +kernel
theorem at_335_27 : am_at (am_m 335) 27 = some (.putfield 306, 3086) := by decide +kernel
theorem at_335_30 : am_at (am_m 335) 30 = some (.return_, 0) := by decide +kernel
theorem at_336_0 : am_at (am_m 336) 0 = some (.aload_n 0, 0) := by decide +kernel
theorem at_336_1 : am_at (am_m 336) 1 = some (.aload_n 0, 0) := by decide +kernel
theorem at_336_2 : am_at (am_m 336) 2 = some (.getfield 468, 3141) := by decide +kernel
theorem at_336_5 : am_at (am_m 336) 5 = some (.invokevirtual 458, 332) := by decide +kernel
theorem at_336_8 : am_at (am_m 336) 8 = some (.iload_n 1, 0) := by decide +kernel
theorem at_336_9 : am_at (am_m 336) 9 = some (.if_icmp .eq 12, 21) := by decide +kernel
theorem at_336_12 : am_at (am_m 336) 12 = some (.aload_n 0, 0) := by decide +kernel
theorem at_336_13 : am_at (am_m 336) 13 = some (.aload_n 0, 0) := by decide +kernel
theorem at_336_14 : am_at (am_m 336) 14 = some (.getfield 468, 3141) := by decide +kernel
theorem at_336_17 : am_at (am_m 336) 17 = some (.invokevirtual 471, 331) := by decide +kernel
theorem at_336_20 : am_at (am_m 336) 20 = some (.ireturn, 0) := by decide +kernel
theorem at_336_21 : am_at (am_m 336) 21 = some (.aload_n 0, 0) := by decide +kernel
theorem at_336_22 : am_at (am_m 336) 22 = some (.dup, 0) := by decide +kernel
theorem at_336_23 : am_at (am_m 336) 23 = some (.getfield 468, 3141) := by decide +kernel
theorem at_336_26 : am_at (am_m 336) 26 = some (.iconst 1, 0) := by decide +kernel
theorem at_336_27 : am_at (am_m 336) 27 = some (.iadd, 0) := by decide +kernel
theorem at_336_28 : am_at (am_m 336) 28 = some (.putfield 468, 3141) := by decide +kernel
theorem at_336_31 : am_at (am_m 336) 31 = some (.iconst 1, 0) := by decide +kernel
theorem at_336_32 : am_at (am_m 336) 32 = some (.ireturn, 0) := by decide +kernel
theorem at_337_0 : am_at (am_m 337) 0 = some (.aload_n 0, 0) := by decide +kernel
theorem at_337_1 : am_at (am_m 337) 1 = some (.iconst 1, 0) := by decide +kernel
theorem at_337_2 : am_at (am_m 337) 2 = some (.putfield 506, 3149) := by decide +kernel
theorem at_337_5 : am_at (am_m 337) 5 = some (.iconst 1, 0) := by decide +kernel
theorem at_337_6 : am_at (am_m 337) 6 = some (.ireturn, 0) := by decide +kernel
theorem at_338_0 : am_at (am_m 338) 0 = some (.iload_n 0, 0) := by decide +kernel
theorem at_338_1 : am_at (am_m 338) 1 = some (.bipush 120, 0) := by decide +kernel
theorem at_338_3 : am_at (am_m 338) 3 = some (.if_icmp .ne 7, 10) := by decide +kernel
theorem at_338_6 : am_at (am_m 338) 6 = some (.iconst 1, 0) := by decide +kernel
theorem at_338_7 : am_at (am_m 338) 7 = some (.goto 55, 62) := by decide +kernel
theorem at_338_10 : am_at (am_m 338) 10 = some (.iload_n 0, 0) := by decide +kernel
theorem at_338_11 : am_at (am_m 338) 11 = some (.bipush 121, 0) := by decide +kernel
theorem at_338_13 : am_at (am_m 338) 13 = some (.if_icmp .ne 7, 20) := by decide +kernel
theorem at_338_16 : am_at (am_m 338) 16 = some (.iconst 2, 0) := by decide +kernel
theorem at_338_17 : am_at (am_m 338) 17 = some (.goto 45, 62) := by decide +kernel
theorem at_338_20 : am_at (am_m 338) 20 = some (.iload_n 0, 0) := by decide +kernel
theorem at_338_21 : am_at (am_m 338) 21 = some (.bipush 122, 0) := by decide +kernel
theorem at_338_23 : am_at (am_m 338) 23 = some (.if_icmp .ne 7, 30) := by decide +kernel
theorem at_338_26 : am_at (am_m 338) 26 = some (.iconst 3, 0) := by decide +kernel
theorem at_338_27 : am_at (am_m 338) 27 = some (.goto 35, 62) := by decide +kernel
theorem at_338_30 : am_at (am_m 338) 30 = some (.iload_n 0, 0) := by decide +kernel
theorem at_338_31 : am_at (am_m 338) 31 = some (.bipush 110, 0) := by decide +kernel
theorem at_338_33 : am_at (am_m 338) 33 = some (.if_icmp .ne 7, 40) := by decide +kernel
theorem at_338_36 : am_at (am_m 338) 36 = some (.iconst 4, 0) := by decide +kernel
theorem at_338_37 : am_at (am_m 338) 37 = some (.goto 25, 62) := by decide +kernel
theorem at_338_40 : am_at (am_m 338) 40 = some (.iload_n 0, 0) := by decide +kernel
theorem at_338_41 : am_at (am_m 338) 41 = some (.bipush 115, 0) := by decide +kernel
theorem at_338_43 : am_at (am_m 338) 43 = some (.if_icmp .ne 7, 50) := by decide +kernel
theorem at_338_46 : am_at (am_m 338) 46 = some (.iconst 5, 0) := by decide +kernel
theorem at_338_47 : am_at (am_m 338) 47 = some (.goto 15, 62) := by decide +kernel
theorem at_338_50 : am_at (am_m 338) 50 = some (.iload_n 0, 0) := by decide +kernel
theorem at_338_51 : am_at (am_m 338) 51 = some (.bipush 101, 0) := by decide +kernel
theorem at_338_53 : am_at (am_m 338) 53 = some (.if_icmp .ne 8, 61) := by decide +kernel
theorem at_338_56 : am_at (am_m 338) 56 = some (.bipush 6, 0) := by decide +kernel
theorem at_338_58 : am_at (am_m 338) 58 = some (.goto 4, 62) := by decide +kernel
theorem at_338_61 : am_at (am_m 338) 61 = some (.iconst (-1), 0) := by decide +kernel
theorem at_338_62 : am_at (am_m 338) 62 = some (.ireturn, 0) := by decide +kernel
theorem at_339_0 : am_at (am_m 339) 0 = some (.aload_n 0, 0) := by decide +kernel
theorem at_339_1 : am_at (am_m 339) 1 = some (.iload_n 1, 0) := by decide +kernel
theorem at_339_2 : am_at (am_m 339) 2 = some (.invokevirtual 458, 332) := by decide +kernel
theorem at_339_5 : am_at (am_m 339) 5 = some (.i2l, 0) := by decide +kernel
theorem at_339_6 : am_at (am_m 339) 6 = some (.ldc2_w 461, 49) := by decide +kernel
theorem at_339_9 : am_at (am_m 339) 9 = some (.ldc2_w 463, 50) := by decide +kernel
theorem at_339_12 : am_at (am_m 339) 12 = some (.invokestatic 299, 327) := by decide +kernel
theorem at_339_15 : am_at (am_m 339) 15 = some (.ireturn, 0) := by decide +kernel
theorem at_340_0 : am_at (am_m 340) 0 = some (.aload_n 0, 0) := by decide +kernel
theorem at_340_1 : am_at (am_m 340) 1 = some (.aload_n 0, 0) := by decide +kernel
theorem at_340_2 : am_at (am_m 340) 2 = some (.getfield 468, 3141) := by decide +kernel
theorem at_340_5 : am_at (am_m 340) 5 = some (.invokevirtual 458, 332) := by decide +kernel
theorem at_340_8 : am_at (am_m 340) 8 = some (.bipush 45, 0) := by decide +kernel
theorem at_340_10 : am_at (am_m 340) 10 = some (.if_icmp .ne 7, 17) := by decide +kernel
theorem at_340_13 : am_at (am_m 340) 13 = some (.iconst 1, 0) := by decide +kernel
theorem at_340_14 : am_at (am_m 340) 14 = some (.goto 4, 18) := by decide +kernel
theorem at_340_17 : am_at (am_m 340) 17 = some (.iconst 0, 0) := by decide +kernel
theorem at_340_18 : am_at (am_m 340) 18 = some (.istore_n 1, 0) := by decide +kernel
theorem at_340_19 : am_at (am_m 340) 19 = some (.aload_n 0, 0) := by decide +kernel
theorem at_340_20 : am_at (am_m 340) 20 = some (.iload_n 1, 0) := by decide +kernel
theorem at_340_21 : am_at (am_m 340) 21 = some (.ifCond .eq 12, 33) := by decide +kernel
theorem at_340_24 : am_at (am_m 340) 24 = some (.aload_n 0, 0) := by decide +kernel
theorem at_340_25 : am_at (am_m 340) 25 = some (.getfield 468, 3141) := by decide +kernel
theorem at_340_28 : am_at (am_m 340) 28 = some (.iconst 1, 0) := by decide +kernel
theorem at_340_29 : am_at (am_m 340) 29 = some (.iadd, 0) := by decide +kernel
theorem at_340_30 : am_at (am_m 340) 30 = some (.goto 7, 37) := by decide +kernel
theorem at_340_33 : am_at (am_m 340) 33 = some (.aload_n 0, 0) := by decide +kernel
theorem at_340_34 : am_at (am_m 340) 34 = some (.getfield 468, 3141) := by decide +kernel
theorem at_340_37 : am_at (am_m 340) 37 = some (.putfield 468, 3141) := by decide +kernel
theorem at_340_40 : am_at (am_m 340) 40 = some (.aload_n 0, 0) := by decide +kernel
theorem at_340_41 : am_at (am_m 340) 41 = some (.invokevirtual 480, 341) := by decide +kernel
theorem at_340_44 : am_at (am_m 340) 44 = some (.ifCond .ne 5, 49) := by decide +kernel
theorem at_340_47 : am_at (am_m 340) 47 = some (.iconst 0, 0) := by decide +kernel
theorem at_340_48 : am_at (am_m 340) 48 = some (.ireturn, 0) := by decide +kernel
theorem at_340_49 : am_at (am_m 340) 49 = some (.aload_n 0, 0) := by decide +kernel
theorem at_340_50 : am_at (am_m 340) 50 = some (.iload_n 1, 0) := by decide +kernel
theorem at_340_51 : am_at (am_m 340) 51 = some (.ifCond .eq 11, 62) := by decide +kernel
theorem at_340_54 : am_at (am_m 340) 54 = some (.aload_n 0, 0) := by decide +kernel
theorem at_340_55 : am_at (am_m 340) 55 = some (.getfield 477, 3144) := by decide +kernel
