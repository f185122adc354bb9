theorem at_580_11 : am_at (am_m 580) 11 = some (.lload_n 1, 0) := (congrArg (fun m => am_at m 11) (am_mg_11 30 (by decide))).trans (by decide +kernel)
theorem at_580_12 : am_at (am_m 580) 12 = some (.aload_n 0, 0) := (congrArg (fun m => am_at m 12) (am_mg_11 30 (by decide))).trans (by decide +kernel)
theorem at_580_13 : am_at (am_m 580) 13 = some (.getfield 693, 3164) := (congrArg (fun m => am_at m 13) (am_mg_11 30 (by decide))).trans (by decide +kernel)
theorem at_580_16 : am_at (am_m 580) 16 = some (.lmul, 0) := (congrArg (fun m => am_at m 16) (am_mg_11 30 (by decide))).trans (by decide +kernel)
theorem at_580_17 : am_at (am_m 580) 17 = some (.lcmp, 0) := (congrArg (fun m => am_at m 17) (am_mg_11 30 (by decide))).trans (by decide +kernel)
theorem at_580_18 : am_at (am_m 580) 18 = some (.ifCond .gt 7, 25) := (congrArg (fun m => am_at m 18) (am_mg_11 30 (by decide))).trans (by decide +kernel)
theorem at_580_21 : am_at (am_m 580) 21 = some (.iconst 1, 0) := (congrArg (fun m => am_at m 21) (am_mg_11 30 (by decide))).trans (by decide +kernel)
theorem at_580_22 : am_at (am_m 580) 22 = some (.goto 4, 26) := (congrArg (fun m => am_at m 22) (am_mg_11 30 (by decide))).trans (by decide +kernel)
theorem at_580_25 : am_at (am_m 580) 25 = some (.iconst 0, 0) := (congrArg (fun m => am_at m 25) (am_mg_11 30 (by decide))).trans (by decide +kernel)
theorem at_580_26 : am_at (am_m 580) 26 = some (.ireturn, 0) := (congrArg (fun m => am_at m 26) (am_mg_11 30 (by decide))).trans (by decide +kernel)
theorem at_581_0 : am_at (am_m 581) 0 = some (.aload_n 0, 0) := (congrArg (fun m => am_at m 0) (am_mg_11 31 (by decide))).trans (by decide +kernel)
theorem at_581_1 : am_at (am_m 581) 1 = some (.aload_n 0, 0) := (congrArg (fun m => am_at m 1) (am_mg_11 31 (by decide))).trans (by decide +kernel)
theorem at_581_2 : am_at (am_m 581) 2 = some (.iload_n 1, 0) := (congrArg (fun m => am_at m 2) (am_mg_11 31 (by decide))).trans (by decide +kernel)
theorem at_581_3 : am_at (am_m 581) 3 = some (.invokevirtual 568, 358) := (congrArg (fun m => am_at m 3) (am_mg_11 31 (by decide))).trans (by decide +kernel)
theorem at_581_6 : am_at (am_m 581) 6 = some (.ifCond .ne 7, 13) := (congrArg (fun m => am_at m 6) (am_mg_11 31 (by decide))).trans (by decide +kernel)
theorem at_581_9 : am_at (am_m 581) 9 = some (.iconst 1, 0) := (congrArg (fun m => am_at m 9) (am_mg_11 31 (by decide))).trans (by decide +kernel)
theorem at_581_10 : am_at (am_m 581) 10 = some (.goto 32, 42) := (congrArg (fun m => am_at m 10) (am_mg_11 31 (by decide))).trans (by decide +kernel)
theorem at_581_13 : am_at (am_m 581) 13 = some (.iload_n 2, 0) := (congrArg (fun m => am_at m 13) (am_mg_11 31 (by decide))).trans (by decide +kernel)
theorem at_581_14 : am_at (am_m 581) 14 = some (.i2l, 0) := (congrArg (fun m => am_at m 14) (am_mg_11 31 (by decide))).trans (by decide +kernel)
theorem at_581_15 : am_at (am_m 581) 15 = some (.lconst 0, 0) := (congrArg (fun m => am_at m 15) (am_mg_11 31 (by decide))).trans (by decide +kernel)
theorem at_581_16 : am_at (am_m 581) 16 = some (.ldc2_w 529, 48) := (congrArg (fun m => am_at m 16) (am_mg_11 31 (by decide))).trans (by decide +kernel)
theorem at_581_19 : am_at (am_m 581) 19 = some (.invokestatic 299, 327) := (congrArg (fun m => am_at m 19) (am_mg_11 31 (by decide))).trans (by decide +kernel)
theorem at_581_22 : am_at (am_m 581) 22 = some (.ifCond .eq 15, 37) := (congrArg (fun m => am_at m 22) (am_mg_11 31 (by decide))).trans (by decide +kernel)
theorem at_581_25 : am_at (am_m 581) 25 = some (.iload_n 3, 0) := (congrArg (fun m => am_at m 25) (am_mg_11 31 (by decide))).trans (by decide +kernel)
theorem at_581_26 : am_at (am_m 581) 26 = some (.i2l, 0) := (congrArg (fun m => am_at m 26) (am_mg_11 31 (by decide))).trans (by decide +kernel)
theorem at_581_27 : am_at (am_m 581) 27 = some (.lconst 0, 0) := (congrArg (fun m => am_at m 27) (am_mg_11 31 (by decide))).trans (by decide +kernel)
theorem at_581_28 : am_at (am_m 581) 28 = some (.ldc2_w 522, 51) := (congrArg (fun m => am_at m 28) (am_mg_11 31 (by decide))).trans (by decide +kernel)
theorem at_581_31 : am_at (am_m 581) 31 = some (.invokestatic 299, 327) := (congrArg (fun m => am_at m 31) (am_mg_11 31 (by decide))).trans (by decide +kernel)
theorem at_581_34 : am_at (am_m 581) 34 = some (.ifCond .ne 7, 41) := (congrArg (fun m => am_at m 34) (am_mg_11 31 (by decide))).trans (by decide +kernel)
theorem at_581_37 : am_at (am_m 581) 37 = some (.iconst 2, 0) := (congrArg (fun m => am_at m 37) (am_mg_11 31 (by decide))).trans (by decide +kernel)
theorem at_581_38 : am_at (am_m 581) 38 = some (.goto 4, 42) := (congrArg (fun m => am_at m 38) (am_mg_11 31 (by decide))).trans (by decide +kernel)
theorem at_581_41 : am_at (am_m 581) 41 = some (.iconst 0, 0) := (congrArg (fun m => am_at m 41) (am_mg_11 31 (by decide))).trans (by decide +kernel)
theorem at_581_42 : am_at (am_m 581) 42 = some (.putfield 292, 3072) := (congrArg (fun m => am_at m 42) (am_mg_11 31 (by decide))).trans (by decide +kernel)
theorem at_581_45 : am_at (am_m 581) 45 = some (.aload_n 0, 0) := (congrArg (fun m => am_at m 45) (am_mg_11 31 (by decide))).trans (by decide +kernel)
theorem at_581_46 : am_at (am_m 581) 46 = some (.getfield 292, 3072) := (congrArg (fun m => am_at m 46) (am_mg_11 31 (by decide))).trans (by decide +kernel)
theorem at_581_49 : am_at (am_m 581) 49 = some (.ifCond .le 5, 54) := (congrArg (fun m => am_at m 49) (am_mg_11 31 (by decide))).trans (by decide +kernel)
theorem at_581_52 : am_at (am_m 581) 52 = some (.iconst 0, 0) := (congrArg (fun m => am_at m 52) (am_mg_11 31 (by decide))).trans (by decide +kernel)
theorem at_581_53 : am_at (am_m 581) 53 = some (.ireturn, 0) := (congrArg (fun m => am_at m 53) (am_mg_11 31 (by decide))).trans (by decide +kernel)
theorem at_581_54 : am_at (am_m 581) 54 = some (.aload_n 0, 0) := (congrArg (fun m => am_at m 54) (am_mg_11 31 (by decide))).trans (by decide +kernel)
theorem at_581_55 : am_at (am_m 581) 55 = some (.iload_n 1, 0) := (congrArg (fun m => am_at m 55) (am_mg_11 31 (by decide))).trans (by decide +kernel)
theorem at_581_56 : am_at (am_m 581) 56 = some (.invokevirtual 635, 391) := (congrArg (fun m => am_at m 56) (am_mg_11 31 (by decide))).trans (by decide +kernel)
theorem at_581_59 : am_at (am_m 581) 59 = some (.aload_n 0, 0) := (congrArg (fun m => am_at m 59) (am_mg_11 31 (by decide))).trans (by decide +kernel)
theorem at_581_60 : am_at (am_m 581) 60 = some (.invokevirtual 739, 442) := (congrArg (fun m => am_at m 60) (am_mg_11 31 (by decide))).trans (by decide +kernel)
theorem at_581_63 : am_at (am_m 581) 63 = some (.aload_n 0, 0) := (congrArg (fun m => am_at m 63) (am_mg_11 31 (by decide))).trans (by decide +kernel)
theorem at_581_64 : am_at (am_m 581) 64 = some (.iconst 0, 0) := (congrArg (fun m => am_at m 64) (am_mg_11 31 (by decide))).trans (by decide +kernel)
theorem at_581_65 : am_at (am_m 581) 65 = some (.invokevirtual 703, 428) := (congrArg (fun m => am_at m 65) (am_mg_11 31 (by decide))).trans (by decide +kernel)
theorem at_581_68 : am_at (am_m 581) 68 = some (.aload_n 0, 0) := (congrArg (fun m => am_at m 68) (am_mg_11 31 (by decide))).trans (by decide +kernel)
theorem at_581_69 : am_at (am_m 581) 69 = some (.getfield 689, 3163) := (congrArg (fun m => am_at m 69) (am_mg_11 31 (by decide))).trans (by decide +kernel)
theorem at_581_72 : am_at (am_m 581) 72 = some (.lstore 4, 0) := (congrArg (fun m => am_at m 72) (am_mg_11 31 (by decide))).trans (by decide +kernel)
theorem at_581_74 : am_at (am_m 581) 74 = some (.aload_n 0, 0) := (congrArg (fun m => am_at m 74) (am_mg_11 31 (by decide))).trans (by decide +kernel)
theorem at_581_75 : am_at (am_m 581) 75 = some (.getfield 693, 3164) := (congrArg (fun m => am_at m 75) (am_mg_11 31 (by decide))).trans (by decide +kernel)
theorem at_581_78 : am_at (am_m 581) 78 = some (.lstore 6, 0) := (congrArg (fun m => am_at m 78) (am_mg_11 31 (by decide))).trans (by decide +kernel)
theorem at_581_80 : am_at (am_m 581) 80 = some (.aload_n 0, 0) := (congrArg (fun m => am_at m 80) (am_mg_11 31 (by decide))).trans (by decide +kernel)
theorem at_581_81 : am_at (am_m 581) 81 = some (.iload_n 2, 0) := (congrArg (fun m => am_at m 81) (am_mg_11 31 (by decide))).trans (by decide +kernel)
theorem at_581_82 : am_at (am_m 581) 82 = some (.iconst (-1), 0) := (congrArg (fun m => am_at m 82) (am_mg_11 31 (by decide))).trans (by decide +kernel)
theorem at_581_83 : am_at (am_m 581) 83 = some (.invokevirtual 817, 439) := (congrArg (fun m => am_at m 83) (am_mg_11 31 (by decide))).trans (by decide +kernel)
theorem at_581_86 : am_at (am_m 581) 86 = some (.istore 8, 0) := (congrArg (fun m => am_at m 86) (am_mg_11 31 (by decide))).trans (by decide +kernel)
theorem at_581_88 : am_at (am_m 581) 88 = some (.iconst 0, 0) := (congrArg (fun m => am_at m 88) (am_mg_11 31 (by decide))).trans (by decide +kernel)
theorem at_581_89 : am_at (am_m 581) 89 = some (.istore 9, 0) := (congrArg (fun m => am_at m 89) (am_mg_11 31 (by decide))).trans (by decide +kernel)
theorem at_581_91 : am_at (am_m 581) 91 = some (.iconst 0, 0) := (congrArg (fun m => am_at m 91) (am_mg_11 31 (by decide))).trans (by decide +kernel)
theorem at_581_92 : am_at (am_m 581) 92 = some (.istore 10, 0) := (congrArg (fun m => am_at m 92) (am_mg_11 31 (by decide))).trans (by decide +kernel)
theorem at_581_94 : am_at (am_m 581) 94 = some (.iload 10, 0) := (congrArg (fun m => am_at m 94) (am_mg_11 31 (by decide))).trans (by decide +kernel)
theorem at_581_96 : am_at (am_m 581) 96 = some (.iload 8, 0) := (congrArg (fun m => am_at m 96) (am_mg_11 31 (by decide))).trans (by decide +kernel)
theorem at_581_98 : am_at (am_m 581) 98 = some (.if_icmp .ge 76, 174) := (congrArg (fun m => am_at m 98) (am_mg_11 31 (by decide))).trans (by decide +kernel)
theorem at_581_101 : am_at (am_m 581) 101 = some (.aload_n 0, 0) := (congrArg (fun m => am_at m 101) (am_mg_11 31 (by decide))).trans (by decide +kernel)
theorem at_581_102 : am_at (am_m 581) 102 = some (.iload_n 2, 0) := (congrArg (fun m => am_at m 102) (am_mg_11 31 (by decide))).trans (by decide +kernel)
theorem at_581_103 : am_at (am_m 581) 103 = some (.iload 10, 0) := (congrArg (fun m => am_at m 103) (am_mg_11 31 (by decide))).trans (by decide +kernel)
theorem at_581_105 : am_at (am_m 581) 105 = some (.invokevirtual 817, 439) := (congrArg (fun m => am_at m 105) (am_mg_11 31 (by decide))).trans (by decide +kernel)
theorem at_581_108 : am_at (am_m 581) 108 = some (.pop, 0) := (congrArg (fun m => am_at m 108) (am_mg_11 31 (by decide))).trans (by decide +kernel)
theorem at_581_109 : am_at (am_m 581) 109 = some (.aload_n 0, 0) := (congrArg (fun m => am_at m 109) (am_mg_11 31 (by decide))).trans (by decide +kernel)
theorem at_581_110 : am_at (am_m 581) 110 = some (.iconst 0, 0) := (congrArg (fun m => am_at m 110) (am_mg_11 31 (by decide))).trans (by decide +kernel)
theorem at_581_111 : am_at (am_m 581) 111 = some (.invokevirtual 703, 428) := (congrArg (fun m => am_at m 111) (am_mg_11 31 (by decide))).trans (by decide +kernel)
theorem at_581_114 : am_at (am_m 581) 114 = some (.aload_n 0, 0) := (congrArg (fun m => am_at m 114) (am_mg_11 31 (by decide))).trans (by decide +kernel)
theorem at_581_115 : am_at (am_m 581) 115 = some (.getfield 689, 3163) := (congrArg (fun m => am_at m 115) (am_mg_11 31 (by decide))).trans (by decide +kernel)
theorem at_581_118 : am_at (am_m 581) 118 = some (.lload 6, 0) := (congrArg (fun m => am_at m 118) (am_mg_11 31 (by decide))).trans (by decide +kernel)
theorem at_581_120 : am_at (am_m 581) 120 = some (.lmul, 0) := (congrArg (fun m => am_at m 120) (am_mg_11 31 (by decide))).trans (by decide +kernel)
theorem at_581_121 : am_at (am_m 581) 121 = some (.lload 4, 0) := (congrArg (fun m => am_at m 121) (am_mg_11 31 (by decide))).trans (by decide +kernel)
theorem at_581_123 : am_at (am_m 581) 123 = some (.aload_n 0, 0) := (congrArg (fun m => am_at m 123) (am_mg_11 31 (by decide))).trans (by decide +kernel)
theorem at_581_124 : am_at (am_m 581) 124 = some (.getfield 693, 3164) := (congrArg (fun m => am_at m 124) (am_mg_11 31 (by decide))).trans (by decide +kernel)
theorem at_581_127 : am_at (am_m 581) 127 = some (.lmul, 0) := (congrArg (fun m => am_at m 127) (am_mg_11 31 (by decide))).trans (by decide +kernel)
theorem at_581_128 : am_at (am_m 581) 128 = some (.lsub, 0) := (congrArg (fun m => am_at m 128) (am_mg_11 31 (by decide))).trans (by decide +kernel)
theorem at_581_129 : am_at (am_m 581) 129 = some (.lstore 11, 0) := (congrArg (fun m => am_at m 129) (am_mg_11 31 (by decide))).trans (by decide +kernel)
theorem at_581_131 : am_at (am_m 581) 131 = some (.iload 9, 0) := (congrArg (fun m => am_at m 131) (am_mg_11 31 (by decide))).trans (by decide +kernel)
theorem at_581_133 : am_at (am_m 581) 133 = some (.iload_n 3, 0) := (congrArg (fun m => am_at m 133) (am_mg_11 31 (by decide))).trans (by decide +kernel)
theorem at_581_134 : am_at (am_m 581) 134 = some (.lload 11, 0) := (congrArg (fun m => am_at m 134) (am_mg_11 31 (by decide))).trans (by decide +kernel)
theorem at_581_136 : am_at (am_m 581) 136 = some (.lconst 0, 0) := (congrArg (fun m => am_at m 136) (am_mg_11 31 (by decide))).trans (by decide +kernel)
theorem at_581_137 : am_at (am_m 581) 137 = some (.lcmp, 0) := (congrArg (fun m => am_at m 137) (am_mg_11 31 (by decide))).trans (by decide +kernel)
theorem at_581_138 : am_at (am_m 581) 138 = some (.ifCond .ge 7, 145) := (congrArg (fun m => am_at m 138) (am_mg_11 31 (by decide))).trans (by decide +kernel)
theorem at_581_141 : am_at (am_m 581) 141 = some (.iconst 0, 0) := (congrArg (fun m => am_at m 141) (am_mg_11 31 (by decide))).trans (by decide +kernel)
theorem at_581_142 : am_at (am_m 581) 142 = some (.goto 15, 157) := (congrArg (fun m => am_at m 142) (am_mg_11 31 (by decide))).trans (by decide +kernel)
theorem at_581_145 : am_at (am_m 581) 145 = some (.lload 11, 0) := (congrArg (fun m => am_at m 145) (am_mg_11 31 (by decide))).trans (by decide +kernel)
theorem at_581_147 : am_at (am_m 581) 147 = some (.lconst 0, 0) := (congrArg (fun m => am_at m 147) (am_mg_11 31 (by decide))).trans (by decide +kernel)
theorem at_581_148 : am_at (am_m 581) 148 = some (.lcmp, 0) := (congrArg (fun m => am_at m 148) (am_mg_11 31 (by decide))).trans (by decide +kernel)
theorem at_581_149 : am_at (am_m 581) 149 = some (.ifCond .ne 7, 156) := (congrArg (fun m => am_at m 149) (am_mg_11 31 (by decide))).trans (by decide +kernel)
theorem at_581_152 : am_at (am_m 581) 152 = some (.iconst 1, 0) := (congrArg (fun m => am_at m 152) (am_mg_11 31 (by decide))).trans (by decide +kernel)
theorem at_581_153 : am_at (am_m 581) 153 = some (.goto 4, 157) := (congrArg (fun m => am_at m 153) (am_mg_11 31 (by decide))).trans (by decide +kernel)
theorem at_581_156 : am_at (am_m 581) 156 = some (.iconst 2, 0) := (congrArg (fun m => am_at m 156) (am_mg_11 31 (by decide))).trans (by decide +kernel)
theorem at_581_157 : am_at (am_m 581) 157 = some (.if_icmp .ne 7, 164) := (congrArg (fun m => am_at m 157) (am_mg_11 31 (by decide))).trans (by decide +kernel)
theorem at_581_160 : am_at (am_m 581) 160 = some (.iconst 1, 0) := (congrArg (fun m => am_at m 160) (am_mg_11 31 (by decide))).trans (by decide +kernel)
theorem at_581_161 : am_at (am_m 581) 161 = some (.goto 4, 165) := (congrArg (fun m => am_at m 161) (am_mg_11 31 (by decide))).trans (by decide +kernel)
theorem at_581_164 : am_at (am_m 581) 164 = some (.iconst 0, 0) := (congrArg (fun m => am_at m 164) (am_mg_11 31 (by decide))).trans (by decide +kernel)
theorem at_581_165 : am_at (am_m 581) 165 = some (.iadd, 0) := (congrArg (fun m => am_at m 165) (am_mg_11 31 (by decide))).trans (by decide +kernel)
theorem at_581_166 : am_at (am_m 581) 166 = some (.istore 9, 0) := (congrArg (fun m => am_at m 166) (am_mg_11 31 (by decide))).trans (by decide +kernel)
theorem at_581_168 : am_at (am_m 581) 168 = some (.iinc 10 1, 0) := (congrArg (fun m => am_at m 168) (am_mg_11 31 (by decide))).trans (by decide +kernel)
theorem at_581_171 : am_at (am_m 581) 171 = some (.goto (-77), 94) := (congrArg (fun m => am_at m 171) (am_mg_11 31 (by decide))).trans (by decide +kernel)
theorem at_581_174 : am_at (am_m 581) 174 = some (.iload 9, 0) := (congrArg (fun m => am_at m 174) (am_mg_11 31 (by decide))).trans (by decide +kernel)
theorem at_581_176 : am_at (am_m 581) 176 = some (.ireturn, 0) := (congrArg (fun m => am_at m 176) (am_mg_11 31 (by decide))).trans (by decide +kernel)
theorem at_582_0 : am_at (am_m 582) 0 = some (.aload_n 0, 0) := (congrArg (fun m => am_at m 0) (am_mg_11 32 (by decide))).trans (by decide +kernel)
theorem at_582_1 : am_at (am_m 582) 1 = some (.aload_n 0, 0) := (congrArg (fun m => am_at m 1) (am_mg_11 32 (by decide))).trans (by decide +kernel)
theorem at_582_2 : am_at (am_m 582) 2 = some (.iload_n 1, 0) := (congrArg (fun m => am_at m 2) (am_mg_11 32 (by decide))).trans (by decide +kernel)
theorem at_582_3 : am_at (am_m 582) 3 = some (.invokevirtual 568, 358) := (congrArg (fun m => am_at m 3) (am_mg_11 32 (by decide))).trans (by decide +kernel)
theorem at_582_6 : am_at (am_m 582) 6 = some (.ifCond .ne 7, 13) := (congrArg (fun m => am_at m 6) (am_mg_11 32 (by decide))).trans (by decide +kernel)
theorem at_582_9 : am_at (am_m 582) 9 = some (.iconst 1, 0) := (congrArg (fun m => am_at m 9) (am_mg_11 32 (by decide))).trans (by decide +kernel)
theorem at_582_10 : am_at (am_m 582) 10 = some (.goto 44, 54) := (congrArg (fun m => am_at m 10) (am_mg_11 32 (by decide))).trans (by decide +kernel)
theorem at_582_13 : am_at (am_m 582) 13 = some (.aload_n 0, 0) := (congrArg (fun m => am_at m 13) (am_mg_11 32 (by decide))).trans (by decide +kernel)
theorem at_582_14 : am_at (am_m 582) 14 = some (.getfield 7, 3074) := (congrArg (fun m => am_at m 14) (am_mg_11 32 (by decide))).trans (by decide +kernel)
theorem at_582_17 : am_at (am_m 582) 17 = some (.aload_n 0, 0) := (congrArg (fun m => am_at m 17) (am_mg_11 32 (by decide))).trans (by decide +kernel)
theorem at_582_18 : am_at (am_m 582) 18 = some (.iload_n 1, 0) := (congrArg (fun m => am_at m 18) (am_mg_11 32 (by decide))).trans (by decide +kernel)
theorem at_582_19 : am_at (am_m 582) 19 = some (.invokevirtual 568, 358) := (congrArg (fun m => am_at m 19) (am_mg_11 32 (by decide))).trans (by decide +kernel)
theorem at_582_22 : am_at (am_m 582) 22 = some (.ifCond .eq 7, 29) := (congrArg (fun m => am_at m 22) (am_mg_11 32 (by decide))).trans (by decide +kernel)
theorem at_582_25 : am_at (am_m 582) 25 = some (.iload_n 1, 0) := (congrArg (fun m => am_at m 25) (am_mg_11 32 (by decide))).trans (by decide +kernel)
theorem at_582_26 : am_at (am_m 582) 26 = some (.goto 4, 30) := (congrArg (fun m => am_at m 26) (am_mg_11 32 (by decide))).trans (by decide +kernel)
theorem at_582_29 : am_at (am_m 582) 29 = some (.iconst 0, 0) := (congrArg (fun m => am_at m 29) (am_mg_11 32 (by decide))).trans (by decide +kernel)
theorem at_582_30 : am_at (am_m 582) 30 = some (.iaload, 0) := (congrArg (fun m => am_at m 30) (am_mg_11 32 (by decide))).trans (by decide +kernel)
theorem at_582_31 : am_at (am_m 582) 31 = some (.iconst 2, 0) := (congrArg (fun m => am_at m 31) (am_mg_11 32 (by decide))).trans (by decide +kernel)
theorem at_582_32 : am_at (am_m 582) 32 = some (.if_icmp .eq 7, 39) := (congrArg (fun m => am_at m 32) (am_mg_11 32 (by decide))).trans (by decide +kernel)
theorem at_582_35 : am_at (am_m 582) 35 = some (.iconst 2, 0) := (congrArg (fun m => am_at m 35) (am_mg_11 32 (by decide))).trans (by decide +kernel)
theorem at_582_36 : am_at (am_m 582) 36 = some (.goto 18, 54) := (congrArg (fun m => am_at m 36) (am_mg_11 32 (by decide))).trans (by decide +kernel)
theorem at_582_39 : am_at (am_m 582) 39 = some (.aload_n 0, 0) := (congrArg (fun m => am_at m 39) (am_mg_11 32 (by decide))).trans (by decide +kernel)
theorem at_582_40 : am_at (am_m 582) 40 = some (.getfield 296, 3073) := (congrArg (fun m => am_at m 40) (am_mg_11 32 (by decide))).trans (by decide +kernel)
theorem at_582_43 : am_at (am_m 582) 43 = some (.sipush 600, 0) := (congrArg (fun m => am_at m 43) (am_mg_11 32 (by decide))).trans (by decide +kernel)
theorem at_582_46 : am_at (am_m 582) 46 = some (.if_icmp .ne 7, 53) := (congrArg (fun m => am_at m 46) (am_mg_11 32 (by decide))).trans (by decide +kernel)
theorem at_582_49 : am_at (am_m 582) 49 = some (.iconst 3, 0) := (congrArg (fun m => am_at m 49) (am_mg_11 32 (by decide))).trans (by decide +kernel)
theorem at_582_50 : am_at (am_m 582) 50 = some (.goto 4, 54) := (congrArg (fun m => am_at m 50) (am_mg_11 32 (by decide))).trans (by decide +kernel)
theorem at_582_53 : am_at (am_m 582) 53 = some (.iconst 0, 0) := (congrArg (fun m => am_at m 53) (am_mg_11 32 (by decide))).trans (by decide +kernel)
theorem at_582_54 : am_at (am_m 582) 54 = some (.putfield 292, 3072) := (congrArg (fun m => am_at m 54) (am_mg_11 32 (by decide))).trans (by decide +kernel)
theorem at_582_57 : am_at (am_m 582) 57 = some (.aload_n 0, 0) := (congrArg (fun m => am_at m 57) (am_mg_11 32 (by decide))).trans (by decide +kernel)
theorem at_582_58 : am_at (am_m 582) 58 = some (.getfield 292, 3072) := (congrArg (fun m => am_at m 58) (am_mg_11 32 (by decide))).trans (by decide +kernel)
theorem at_582_61 : am_at (am_m 582) 61 = some (.ifCond .le 5, 66) := (congrArg (fun m => am_at m 61) (am_mg_11 32 (by decide))).trans (by decide +kernel)
theorem at_582_64 : am_at (am_m 582) 64 = some (.iconst 0, 0) := (congrArg (fun m => am_at m 64) (am_mg_11 32 (by decide))).trans (by decide +kernel)
theorem at_582_65 : am_at (am_m 582) 65 = some (.ireturn, 0) := (congrArg (fun m => am_at m 65) (am_mg_11 32 (by decide))).trans (by decide +kernel)
theorem at_582_66 : am_at (am_m 582) 66 = some (.aload_n 0, 0) := (congrArg (fun m => am_at m 66) (am_mg_11 32 (by decide))).trans (by decide +kernel)
theorem at_582_67 : am_at (am_m 582) 67 = some (.iload_n 1, 0) := (congrArg (fun m => am_at m 67) (am_mg_11 32 (by decide))).trans (by decide +kernel)
theorem at_582_68 : am_at (am_m 582) 68 = some (.invokevirtual 635, 391) := (congrArg (fun m => am_at m 68) (am_mg_11 32 (by decide))).trans (by decide +kernel)
theorem at_582_71 : am_at (am_m 582) 71 = some (.aload_n 0, 0) := (congrArg (fun m => am_at m 71) (am_mg_11 32 (by decide))).trans (by decide +kernel)
theorem at_582_72 : am_at (am_m 582) 72 = some (.invokevirtual 1120, 583) := (congrArg (fun m => am_at m 72) (am_mg_11 32 (by decide))).trans (by decide +kernel)
theorem at_582_75 : am_at (am_m 582) 75 = some (.iconst 0, 0) := (congrArg (fun m => am_at m 75) (am_mg_11 32 (by decide))).trans (by decide +kernel)
theorem at_582_76 : am_at (am_m 582) 76 = some (.istore_n 2, 0) := (congrArg (fun m => am_at m 76) (am_mg_11 32 (by decide))).trans (by decide +kernel)
theorem at_582_77 : am_at (am_m 582) 77 = some (.iload_n 2, 0) := (congrArg (fun m => am_at m 77) (am_mg_11 32 (by decide))).trans (by decide +kernel)
theorem at_582_78 : am_at (am_m 582) 78 = some (.bipush 6, 0) := (congrArg (fun m => am_at m 78) (am_mg_11 32 (by decide))).trans (by decide +kernel)
theorem at_582_80 : am_at (am_m 582) 80 = some (.if_icmp .ge 16, 96) := (congrArg (fun m => am_at m 80) (am_mg_11 32 (by decide))).trans (by decide +kernel)
theorem at_582_83 : am_at (am_m 582) 83 = some (.aload_n 0, 0) := (congrArg (fun m => am_at m 83) (am_mg_11 32 (by decide))).trans (by decide +kernel)
theorem at_582_84 : am_at (am_m 582) 84 = some (.getfield 280, 3206) := (congrArg (fun m => am_at m 84) (am_mg_11 32 (by decide))).trans (by decide +kernel)
theorem at_582_87 : am_at (am_m 582) 87 = some (.iload_n 2, 0) := (congrArg (fun m => am_at m 87) (am_mg_11 32 (by decide))).trans (by decide +kernel)
theorem at_582_88 : am_at (am_m 582) 88 = some (.iconst (-1), 0) := (congrArg (fun m => am_at m 88) (am_mg_11 32 (by decide))).trans (by decide +kernel)
theorem at_582_89 : am_at (am_m 582) 89 = some (.iastore, 0) := (congrArg (fun m => am_at m 89) (am_mg_11 32 (by decide))).trans (by decide +kernel)
theorem at_582_90 : am_at (am_m 582) 90 = some (.iinc 2 1, 0) := (congrArg (fun m => am_at m 90) (am_mg_11 32 (by decide))).trans (by decide +kernel)
theorem at_582_93 : am_at (am_m 582) 93 = some (.goto (-16), 77) := (congrArg (fun m => am_at m 93) (am_mg_11 32 (by decide))).trans (by decide +kernel)
theorem at_582_96 : am_at (am_m 582) 96 = some (.aload_n 0, 0) := (congrArg (fun m => am_at m 96) (am_mg_11 32 (by decide))).trans (by decide +kernel)
theorem at_582_97 : am_at (am_m 582) 97 = some (.getfield 280, 3206) := (congrArg (fun m => am_at m 97) (am_mg_11 32 (by decide))).trans (by decide +kernel)
theorem at_582_100 : am_at (am_m 582) 100 = some (.aload_n 0, 0) := (congrArg (fun m => am_at m 100) (am_mg_11 32 (by decide))).trans (by decide +kernel)
theorem at_582_101 : am_at (am_m 582) 101 = some (.getfield 274, 3204) := (congrArg (fun m => am_at m 101) (am_mg_11 32 (by decide))).trans (by decide +kernel)
theorem at_582_104 : am_at (am_m 582) 104 = some (.iconst 0, 0) := (congrArg (fun m => am_at m 104) (am_mg_11 32 (by decide))).trans (by decide +kernel)
theorem at_582_105 : am_at (am_m 582) 105 = some (.iaload, 0) := (congrArg (fun m => am_at m 105) (am_mg_11 32 (by decide))).trans (by decide +kernel)
theorem at_582_106 : am_at (am_m 582) 106 = some (.iconst 0, 0) := (congrArg (fun m => am_at m 106) (am_mg_11 32 (by decide))).trans (by decide +kernel)
theorem at_582_107 : am_at (am_m 582) 107 = some (.iastore, 0) := (congrArg (fun m => am_at m 107) (am_mg_11 32 (by decide))).trans (by decide +kernel)
theorem at_582_108 : am_at (am_m 582) 108 = some (.aload_n 0, 0) := (congrArg (fun m => am_at m 108) (am_mg_11 32 (by decide))).trans (by decide +kernel)
theorem at_582_109 : am_at (am_m 582) 109 = some (.getfield 283, 3207) := (congrArg (fun m => am_at m 109) (am_mg_11 32 (by decide))).trans (by decide +kernel)
theorem at_582_112 : am_at (am_m 582) 112 = some (.iconst 0, 0) := (congrArg (fun m => am_at m 112) (am_mg_11 32 (by decide))).trans (by decide +kernel)
theorem at_582_113 : am_at (am_m 582) 113 = some (.aload_n 0, 0) := (congrArg (fun m => am_at m 113) (am_mg_11 32 (by decide))).trans (by decide +kernel)
theorem at_582_114 : am_at (am_m 582) 114 = some (.getfield 274, 3204) := (congrArg (fun m => am_at m 114) (am_mg_11 32 (by decide))).trans (by decide +kernel)
theorem at_582_117 : am_at (am_m 582) 117 = some (.iconst 0, 0) := (congrArg (fun m => am_at m 117) (am_mg_11 32 (by decide))).trans (by decide +kernel)
theorem at_582_118 : am_at (am_m 582) 118 = some (.iaload, 0) := (congrArg (fun m => am_at m 118) (am_mg_11 32 (by decide))).trans (by decide +kernel)
theorem at_582_119 : am_at (am_m 582) 119 = some (.iastore, 0) := (congrArg (fun m => am_at m 119) (am_mg_11 32 (by decide))).trans (by decide +kernel)
theorem at_582_120 : am_at (am_m 582) 120 = some (.iconst 1, 0) := (congrArg (fun m => am_at m 120) (am_mg_11 32 (by decide))).trans (by decide +kernel)
theorem at_582_121 : am_at (am_m 582) 121 = some (.istore_n 2, 0) := (congrArg (fun m => am_at m 121) (am_mg_11 32 (by decide))).trans (by decide +kernel)
theorem at_582_122 : am_at (am_m 582) 122 = some (.aload_n 0, 0) := (congrArg (fun m => am_at m 122) (am_mg_11 32 (by decide))).trans (by decide +kernel)
theorem at_582_123 : am_at (am_m 582) 123 = some (.invokevirtual 753, 451) := (congrArg (fun m => am_at m 123) (am_mg_11 32 (by decide))).trans (by decide +kernel)
theorem at_582_126 : am_at (am_m 582) 126 = some (.iconst 0, 0) := (congrArg (fun m => am_at m 126) (am_mg_11 32 (by decide))).trans (by decide +kernel)
theorem at_582_127 : am_at (am_m 582) 127 = some (.istore_n 3, 0) := (congrArg (fun m => am_at m 127) (am_mg_11 32 (by decide))).trans (by decide +kernel)
theorem at_582_128 : am_at (am_m 582) 128 = some (.iload_n 3, 0) := (congrArg (fun m => am_at m 128) (am_mg_11 32 (by decide))).trans (by decide +kernel)
theorem at_582_129 : am_at (am_m 582) 129 = some (.iload_n 2, 0) := (congrArg (fun m => am_at m 129) (am_mg_11 32 (by decide))).trans (by decide +kernel)
theorem at_582_130 : am_at (am_m 582) 130 = some (.if_icmp .ge 112, 242) := (congrArg (fun m => am_at m 130) (am_mg_11 32 (by decide))).trans (by decide +kernel)
theorem at_582_133 : am_at (am_m 582) 133 = some (.iconst 0, 0) := (congrArg (fun m => am_at m 133) (am_mg_11 32 (by decide))).trans (by decide +kernel)
theorem at_582_134 : am_at (am_m 582) 134 = some (.istore 4, 0) := (congrArg (fun m => am_at m 134) (am_mg_11 32 (by decide))).trans (by decide +kernel)
theorem at_582_136 : am_at (am_m 582) 136 = some (.iconst 0, 0) := (congrArg (fun m => am_at m 136) (am_mg_11 32 (by decide))).trans (by decide +kernel)
theorem at_582_137 : am_at (am_m 582) 137 = some (.istore 5, 0) := (congrArg (fun m => am_at m 137) (am_mg_11 32 (by decide))).trans (by decide +kernel)
theorem at_582_139 : am_at (am_m 582) 139 = some (.iload 5, 0) := (congrArg (fun m => am_at m 139) (am_mg_11 32 (by decide))).trans (by decide +kernel)
theorem at_582_141 : am_at (am_m 582) 141 = some (.iconst 4, 0) := (congrArg (fun m => am_at m 141) (am_mg_11 32 (by decide))).trans (by decide +kernel)
theorem at_582_142 : am_at (am_m 582) 142 = some (.if_icmp .ge 77, 219) := (congrArg (fun m => am_at m 142) (am_mg_11 32 (by decide))).trans (by decide +kernel)
theorem at_582_145 : am_at (am_m 582) 145 = some (.aload_n 0, 0) := (congrArg (fun m => am_at m 145) (am_mg_11 32 (by decide))).trans (by decide +kernel)
theorem at_582_146 : am_at (am_m 582) 146 = some (.getfield 274, 3204) := (congrArg (fun m => am_at m 146) (am_mg_11 32 (by decide))).trans (by decide +kernel)
theorem at_582_149 : am_at (am_m 582) 149 = some (.aload_n 0, 0) := (congrArg (fun m => am_at m 149) (am_mg_11 32 (by decide))).trans (by decide +kernel)
theorem at_582_150 : am_at (am_m 582) 150 = some (.getfield 54, 3094) := (congrArg (fun m => am_at m 150) (am_mg_11 32 (by decide))).trans (by decide +kernel)
theorem at_582_153 : am_at (am_m 582) 153 = some (.aload_n 0, 0) := (congrArg (fun m => am_at m 153) (am_mg_11 32 (by decide))).trans (by decide +kernel)
theorem at_582_154 : am_at (am_m 582) 154 = some (.getfield 283, 3207) := (congrArg (fun m => am_at m 154) (am_mg_11 32 (by decide))).trans (by decide +kernel)
theorem at_582_157 : am_at (am_m 582) 157 = some (.iload_n 3, 0) := (congrArg (fun m => am_at m 157) (am_mg_11 32 (by decide))).trans (by decide +kernel)
theorem at_582_158 : am_at (am_m 582) 158 = some (.iaload, 0) := (congrArg (fun m => am_at m 158) (am_mg_11 32 (by decide))).trans (by decide +kernel)
theorem at_582_159 : am_at (am_m 582) 159 = some (.iaload, 0) := (congrArg (fun m => am_at m 159) (am_mg_11 32 (by decide))).trans (by decide +kernel)
theorem at_582_160 : am_at (am_m 582) 160 = some (.iload 5, 0) := (congrArg (fun m => am_at m 160) (am_mg_11 32 (by decide))).trans (by decide +kernel)
theorem at_582_162 : am_at (am_m 582) 162 = some (.invokestatic 447, 367) := (congrArg (fun m => am_at m 162) (am_mg_11 32 (by decide))).trans (by decide +kernel)
theorem at_582_165 : am_at (am_m 582) 165 = some (.iaload, 0) := (congrArg (fun m => am_at m 165) (am_mg_11 32 (by decide))).trans (by decide +kernel)
theorem at_582_166 : am_at (am_m 582) 166 = some (.istore 6, 0) := (congrArg (fun m => am_at m 166) (am_mg_11 32 (by decide))).trans (by decide +kernel)
theorem at_582_168 : am_at (am_m 582) 168 = some (.aload_n 0, 0) := (congrArg (fun m => am_at m 168) (am_mg_11 32 (by decide))).trans (by decide +kernel)
theorem at_582_169 : am_at (am_m 582) 169 = some (.getfield 280, 3206) := (congrArg (fun m => am_at m 169) (am_mg_11 32 (by decide))).trans (by decide +kernel)
theorem at_582_172 : am_at (am_m 582) 172 = some (.iload 6, 0) := (congrArg (fun m => am_at m 172) (am_mg_11 32 (by decide))).trans (by decide +kernel)
theorem at_582_174 : am_at (am_m 582) 174 = some (.iaload, 0) := (congrArg (fun m => am_at m 174) (am_mg_11 32 (by decide))).trans (by decide +kernel)
theorem at_582_175 : am_at (am_m 582) 175 = some (.ifCond .ge 22, 197) := (congrArg (fun m => am_at m 175) (am_mg_11 32 (by decide))).trans (by decide +kernel)
theorem at_582_178 : am_at (am_m 582) 178 = some (.aload_n 0, 0) := (congrArg (fun m => am_at m 178) (am_mg_11 32 (by decide))).trans (by decide +kernel)
theorem at_582_179 : am_at (am_m 582) 179 = some (.getfield 280, 3206) := (congrArg (fun m => am_at m 179) (am_mg_11 32 (by decide))).trans (by decide +kernel)
theorem at_582_182 : am_at (am_m 582) 182 = some (.iload 6, 0) := (congrArg (fun m => am_at m 182) (am_mg_11 32 (by decide))).trans (by decide +kernel)
theorem at_582_184 : am_at (am_m 582) 184 = some (.iload_n 2, 0) := (congrArg (fun m => am_at m 184) (am_mg_11 32 (by decide))).trans (by decide +kernel)
theorem at_582_185 : am_at (am_m 582) 185 = some (.iastore, 0) := (congrArg (fun m => am_at m 185) (am_mg_11 32 (by decide))).trans (by decide +kernel)
theorem at_582_186 : am_at (am_m 582) 186 = some (.aload_n 0, 0) := (congrArg (fun m => am_at m 186) (am_mg_11 32 (by decide))).trans (by decide +kernel)
theorem at_582_187 : am_at (am_m 582) 187 = some (.getfield 283, 3207) := (congrArg (fun m => am_at m 187) (am_mg_11 32 (by decide))).trans (by decide +kernel)
theorem at_582_190 : am_at (am_m 582) 190 = some (.iload_n 2, 0) := (congrArg (fun m => am_at m 190) (am_mg_11 32 (by decide))).trans (by decide +kernel)
theorem at_582_191 : am_at (am_m 582) 191 = some (.iload 6, 0) := (congrArg (fun m => am_at m 191) (am_mg_11 32 (by decide))).trans (by decide +kernel)
theorem at_582_193 : am_at (am_m 582) 193 = some (.iastore, 0) := (congrArg (fun m => am_at m 193) (am_mg_11 32 (by decide))).trans (by decide +kernel)
theorem at_582_194 : am_at (am_m 582) 194 = some (.iinc 2 1, 0) := (congrArg (fun m => am_at m 194) (am_mg_11 32 (by decide))).trans (by decide +kernel)
theorem at_582_197 : am_at (am_m 582) 197 = some (.iload 4, 0) := (congrArg (fun m => am_at m 197) (am_mg_11 32 (by decide))).trans (by decide +kernel)
theorem at_582_199 : am_at (am_m 582) 199 = some (.iload 5, 0) := (congrArg (fun m => am_at m 199) (am_mg_11 32 (by decide))).trans (by decide +kernel)
theorem at_582_201 : am_at (am_m 582) 201 = some (.aload_n 0, 0) := (congrArg (fun m => am_at m 201) (am_mg_11 32 (by decide))).trans (by decide +kernel)
theorem at_582_202 : am_at (am_m 582) 202 = some (.getfield 280, 3206) := (congrArg (fun m => am_at m 202) (am_mg_11 32 (by decide))).trans (by decide +kernel)
theorem at_582_205 : am_at (am_m 582) 205 = some (.iload 6, 0) := (congrArg (fun m => am_at m 205) (am_mg_11 32 (by decide))).trans (by decide +kernel)
theorem at_582_207 : am_at (am_m 582) 207 = some (.iaload, 0) := (congrArg (fun m => am_at m 207) (am_mg_11 32 (by decide))).trans (by decide +kernel)
theorem at_582_208 : am_at (am_m 582) 208 = some (.invokestatic 516, 353) := (congrArg (fun m => am_at m 208) (am_mg_11 32 (by decide))).trans (by decide +kernel)
theorem at_582_211 : am_at (am_m 582) 211 = some (.istore 4, 0) := (congrArg (fun m => am_at m 211) (am_mg_11 32 (by decide))).trans (by decide +kernel)
theorem at_582_213 : am_at (am_m 582) 213 = some (.iinc 5 1, 0) := (congrArg (fun m => am_at m 213) (am_mg_11 32 (by decide))).trans (by decide +kernel)
theorem at_582_216 : am_at (am_m 582) 216 = some (.goto (-77), 139) := (congrArg (fun m => am_at m 216) (am_mg_11 32 (by decide))).trans (by decide +kernel)
theorem at_582_219 : am_at (am_m 582) 219 = some (.aload_n 0, 0) := (congrArg (fun m => am_at m 219) (am_mg_11 32 (by decide))).trans (by decide +kernel)
theorem at_582_220 : am_at (am_m 582) 220 = some (.aload_n 0, 0) := (congrArg (fun m => am_at m 220) (am_mg_11 32 (by decide))).trans (by decide +kernel)
theorem at_582_221 : am_at (am_m 582) 221 = some (.getfield 51, 3093) := (congrArg (fun m => am_at m 221) (am_mg_11 32 (by decide))).trans (by decide +kernel)
theorem at_582_224 : am_at (am_m 582) 224 = some (.aload_n 0, 0) := (congrArg (fun m => am_at m 224) (am_mg_11 32 (by decide))).trans (by decide +kernel)
theorem at_582_225 : am_at (am_m 582) 225 = some (.getfield 283, 3207) := (congrArg (fun m => am_at m 225) (am_mg_11 32 (by decide))).trans (by decide +kernel)
theorem at_582_228 : am_at (am_m 582) 228 = some (.iload_n 3, 0) := (congrArg (fun m => am_at m 228) (am_mg_11 32 (by decide))).trans (by decide +kernel)
theorem at_582_229 : am_at (am_m 582) 229 = some (.iaload, 0) := (congrArg (fun m => am_at m 229) (am_mg_11 32 (by decide))).trans (by decide +kernel)
theorem at_582_230 : am_at (am_m 582) 230 = some (.iaload, 0) := (congrArg (fun m => am_at m 230) (am_mg_11 32 (by decide))).trans (by decide +kernel)
theorem at_582_231 : am_at (am_m 582) 231 = some (.iload 4, 0) := (congrArg (fun m => am_at m 231) (am_mg_11 32 (by decide))).trans (by decide +kernel)
theorem at_582_233 : am_at (am_m 582) 233 = some (.invokevirtual 335, 335) := (congrArg (fun m => am_at m 233) (am_mg_11 32 (by decide))).trans (by decide +kernel)
theorem at_582_236 : am_at (am_m 582) 236 = some (.iinc 3 1, 0) := (congrArg (fun m => am_at m 236) (am_mg_11 32 (by decide))).trans (by decide +kernel)
theorem at_582_239 : am_at (am_m 582) 239 = some (.goto (-111), 128) := (congrArg (fun m => am_at m 239) (am_mg_11 32 (by decide))).trans (by decide +kernel)
theorem at_582_242 : am_at (am_m 582) 242 = some (.aload_n 0, 0) := (congrArg (fun m => am_at m 242) (am_mg_11 32 (by decide))).trans (by decide +kernel)
theorem at_582_243 : am_at (am_m 582) 243 = some (.bipush 7, 0) := (congrArg (fun m => am_at m 243) (am_mg_11 32 (by decide))).trans (by decide +kernel)
theorem at_582_245 : am_at (am_m 582) 245 = some (.iload_n 1, 0) := (congrArg (fun m => am_at m 245) (am_mg_11 32 (by decide))).trans (by decide +kernel)
theorem at_582_246 : am_at (am_m 582) 246 = some (.iconst (-1), 0) := (congrArg (fun m => am_at m 246) (am_mg_11 32 (by decide))).trans (by decide +kernel)
theorem at_582_247 : am_at (am_m 582) 247 = some (.iconst (-1), 0) := (congrArg (fun m => am_at m 247) (am_mg_11 32 (by decide))).trans (by decide +kernel)
theorem at_582_248 : am_at (am_m 582) 248 = some (.iconst (-1), 0) := (congrArg (fun m => am_at m 248) (am_mg_11 32 (by decide))).trans (by decide +kernel)
theorem at_582_249 : am_at (am_m 582) 249 = some (.lconst 0, 0) := (congrArg (fun m => am_at m 249) (am_mg_11 32 (by decide))).trans (by decide +kernel)
theorem at_582_250 : am_at (am_m 582) 250 = some (.invokevirtual 543, 356) := (congrArg (fun m => am_at m 250) (am_mg_11 32 (by decide))).trans (by decide +kernel)
theorem at_582_253 : am_at (am_m 582) 253 = some (.ireturn, 0) := (congrArg (fun m => am_at m 253) (am_mg_11 32 (by decide))).trans (by decide +kernel)
theorem at_583_0 : am_at (am_m 583) 0 = some (.iconst 0, 0) := (congrArg (fun m => am_at m 0) (am_mg_11 33 (by decide))).trans (by decide +kernel)
theorem at_583_1 : am_at (am_m 583) 1 = some (.istore_n 1, 0) := (congrArg (fun m => am_at m 1) (am_mg_11 33 (by decide))).trans (by decide +kernel)
theorem at_583_2 : am_at (am_m 583) 2 = some (.iload_n 1, 0) := (congrArg (fun m => am_at m 2) (am_mg_11 33 (by decide))).trans (by decide +kernel)
theorem at_583_3 : am_at (am_m 583) 3 = some (.aload_n 0, 0) := (congrArg (fun m => am_at m 3) (am_mg_11 33 (by decide))).trans (by decide +kernel)
theorem at_583_4 : am_at (am_m 583) 4 = some (.getfield 315, 3090) := (congrArg (fun m => am_at m 4) (am_mg_11 33 (by decide))).trans (by decide +kernel)
theorem at_583_7 : am_at (am_m 583) 7 = some (.if_icmp .ge 61, 68) := (congrArg (fun m => am_at m 7) (am_mg_11 33 (by decide))).trans (by decide +kernel)
theorem at_583_10 : am_at (am_m 583) 10 = some (.aload_n 0, 0) := (congrArg (fun m => am_at m 10) (am_mg_11 33 (by decide))).trans (by decide +kernel)
theorem at_583_11 : am_at (am_m 583) 11 = some (.getfield 274, 3204) := (congrArg (fun m => am_at m 11) (am_mg_11 33 (by decide))).trans (by decide +kernel)
theorem at_583_14 : am_at (am_m 583) 14 = some (.iload_n 1, 0) := (congrArg (fun m => am_at m 14) (am_mg_11 33 (by decide))).trans (by decide +kernel)
theorem at_583_15 : am_at (am_m 583) 15 = some (.iload_n 1, 0) := (congrArg (fun m => am_at m 15) (am_mg_11 33 (by decide))).trans (by decide +kernel)
theorem at_583_16 : am_at (am_m 583) 16 = some (.iastore, 0) := (congrArg (fun m => am_at m 16) (am_mg_11 33 (by decide))).trans (by decide +kernel)
theorem at_583_17 : am_at (am_m 583) 17 = some (.iload_n 1, 0) := (congrArg (fun m => am_at m 17) (am_mg_11 33 (by decide))).trans (by decide +kernel)
theorem at_583_18 : am_at (am_m 583) 18 = some (.iconst 1, 0) := (congrArg (fun m => am_at m 18) (am_mg_11 33 (by decide))).trans (by decide +kernel)
theorem at_583_19 : am_at (am_m 583) 19 = some (.isub, 0) := (congrArg (fun m => am_at m 19) (am_mg_11 33 (by decide))).trans (by decide +kernel)
theorem at_583_20 : am_at (am_m 583) 20 = some (.istore_n 2, 0) := (congrArg (fun m => am_at m 20) (am_mg_11 33 (by decide))).trans (by decide +kernel)
theorem at_583_21 : am_at (am_m 583) 21 = some (.iload_n 2, 0) := (congrArg (fun m => am_at m 21) (am_mg_11 33 (by decide))).trans (by decide +kernel)
theorem at_583_22 : am_at (am_m 583) 22 = some (.ifCond .lt 40, 62) := (congrArg (fun m => am_at m 22) (am_mg_11 33 (by decide))).trans (by decide +kernel)
theorem at_583_25 : am_at (am_m 583) 25 = some (.aload_n 0, 0) := (congrArg (fun m => am_at m 25) (am_mg_11 33 (by decide))).trans (by decide +kernel)
theorem at_583_26 : am_at (am_m 583) 26 = some (.getfield 274, 3204) := (congrArg (fun m => am_at m 26) (am_mg_11 33 (by decide))).trans (by decide +kernel)
theorem at_583_29 : am_at (am_m 583) 29 = some (.iload_n 1, 0) := (congrArg (fun m => am_at m 29) (am_mg_11 33 (by decide))).trans (by decide +kernel)
theorem at_583_30 : am_at (am_m 583) 30 = some (.aload_n 0, 0) := (congrArg (fun m => am_at m 30) (am_mg_11 33 (by decide))).trans (by decide +kernel)
theorem at_583_31 : am_at (am_m 583) 31 = some (.getfield 51, 3093) := (congrArg (fun m => am_at m 31) (am_mg_11 33 (by decide))).trans (by decide +kernel)
theorem at_583_34 : am_at (am_m 583) 34 = some (.iload_n 2, 0) := (congrArg (fun m => am_at m 34) (am_mg_11 33 (by decide))).trans (by decide +kernel)
theorem at_583_35 : am_at (am_m 583) 35 = some (.iaload, 0) := (congrArg (fun m => am_at m 35) (am_mg_11 33 (by decide))).trans (by decide +kernel)
theorem at_583_36 : am_at (am_m 583) 36 = some (.aload_n 0, 0) := (congrArg (fun m => am_at m 36) (am_mg_11 33 (by decide))).trans (by decide +kernel)
theorem at_583_37 : am_at (am_m 583) 37 = some (.getfield 51, 3093) := (congrArg (fun m => am_at m 37) (am_mg_11 33 (by decide))).trans (by decide +kernel)
theorem at_583_40 : am_at (am_m 583) 40 = some (.iload_n 1, 0) := (congrArg (fun m => am_at m 40) (am_mg_11 33 (by decide))).trans (by decide +kernel)
theorem at_583_41 : am_at (am_m 583) 41 = some (.iaload, 0) := (congrArg (fun m => am_at m 41) (am_mg_11 33 (by decide))).trans (by decide +kernel)
theorem at_583_42 : am_at (am_m 583) 42 = some (.if_icmp .ne 7, 49) := (congrArg (fun m => am_at m 42) (am_mg_11 33 (by decide))).trans (by decide +kernel)
theorem at_583_45 : am_at (am_m 583) 45 = some (.iload_n 2, 0) := (congrArg (fun m => am_at m 45) (am_mg_11 33 (by decide))).trans (by decide +kernel)
theorem at_583_46 : am_at (am_m 583) 46 = some (.goto 9, 55) := (congrArg (fun m => am_at m 46) (am_mg_11 33 (by decide))).trans (by decide +kernel)
theorem at_583_49 : am_at (am_m 583) 49 = some (.aload_n 0, 0) := (congrArg (fun m => am_at m 49) (am_mg_11 33 (by decide))).trans (by decide +kernel)
theorem at_583_50 : am_at (am_m 583) 50 = some (.getfield 274, 3204) := (congrArg (fun m => am_at m 50) (am_mg_11 33 (by decide))).trans (by decide +kernel)
theorem at_583_53 : am_at (am_m 583) 53 = some (.iload_n 1, 0) := (congrArg (fun m => am_at m 53) (am_mg_11 33 (by decide))).trans (by decide +kernel)
theorem at_583_54 : am_at (am_m 583) 54 = some (.iaload, 0) := (congrArg (fun m => am_at m 54) (am_mg_11 33 (by decide))).trans (by decide +kernel)
theorem at_583_55 : am_at (am_m 583) 55 = some (.iastore, 0) := (congrArg (fun m => am_at m 55) (am_mg_11 33 (by decide))).trans (by decide +kernel)
theorem at_583_56 : am_at (am_m 583) 56 = some (.iinc 2 (-1), 0) := (congrArg (fun m => am_at m 56) (am_mg_11 33 (by decide))).trans (by decide +kernel)
theorem at_583_59 : am_at (am_m 583) 59 = some (.goto (-38), 21) := (congrArg (fun m => am_at m 59) (am_mg_11 33 (by decide))).trans (by decide +kernel)
theorem at_583_62 : am_at (am_m 583) 62 = some (.iinc 1 1, 0) := (congrArg (fun m => am_at m 62) (am_mg_11 33 (by decide))).trans (by decide +kernel)
theorem at_583_65 : am_at (am_m 583) 65 = some (.goto (-63), 2) := (congrArg (fun m => am_at m 65) (am_mg_11 33 (by decide))).trans (by decide +kernel)
theorem at_583_68 : am_at (am_m 583) 68 = some (.iconst 0, 0) := (congrArg (fun m => am_at m 68) (am_mg_11 33 (by decide))).trans (by decide +kernel)
theorem at_583_69 : am_at (am_m 583) 69 = some (.istore_n 1, 0) := (congrArg (fun m => am_at m 69) (am_mg_11 33 (by decide))).trans (by decide +kernel)
theorem at_583_70 : am_at (am_m 583) 70 = some (.iload_n 1, 0) := (congrArg (fun m => am_at m 70) (am_mg_11 33 (by decide))).trans (by decide +kernel)
theorem at_583_71 : am_at (am_m 583) 71 = some (.bipush 6, 0) := (congrArg (fun m => am_at m 71) (am_mg_11 33 (by decide))).trans (by decide +kernel)
theorem at_583_73 : am_at (am_m 583) 73 = some (.if_icmp .ge 99, 172) := (congrArg (fun m => am_at m 73) (am_mg_11 33 (by decide))).trans (by decide +kernel)
theorem at_583_76 : am_at (am_m 583) 76 = some (.iconst 0, 0) := (congrArg (fun m => am_at m 76) (am_mg_11 33 (by decide))).trans (by decide +kernel)
theorem at_583_77 : am_at (am_m 583) 77 = some (.istore_n 2, 0) := (congrArg (fun m => am_at m 77) (am_mg_11 33 (by decide))).trans (by decide +kernel)
theorem at_583_78 : am_at (am_m 583) 78 = some (.iload_n 2, 0) := (congrArg (fun m => am_at m 78) (am_mg_11 33 (by decide))).trans (by decide +kernel)
theorem at_583_79 : am_at (am_m 583) 79 = some (.aload_n 0, 0) := (congrArg (fun m => am_at m 79) (am_mg_11 33 (by decide))).trans (by decide +kernel)
theorem at_583_80 : am_at (am_m 583) 80 = some (.getfield 315, 3090) := (congrArg (fun m => am_at m 80) (am_mg_11 33 (by decide))).trans (by decide +kernel)
theorem at_583_83 : am_at (am_m 583) 83 = some (.if_icmp .ge 55, 138) := (congrArg (fun m => am_at m 83) (am_mg_11 33 (by decide))).trans (by decide +kernel)
theorem at_583_86 : am_at (am_m 583) 86 = some (.aload_n 0, 0) := (congrArg (fun m => am_at m 86) (am_mg_11 33 (by decide))).trans (by decide +kernel)
theorem at_583_87 : am_at (am_m 583) 87 = some (.getfield 277, 3205) := (congrArg (fun m => am_at m 87) (am_mg_11 33 (by decide))).trans (by decide +kernel)
theorem at_583_90 : am_at (am_m 583) 90 = some (.iload_n 2, 0) := (congrArg (fun m => am_at m 90) (am_mg_11 33 (by decide))).trans (by decide +kernel)
theorem at_583_91 : am_at (am_m 583) 91 = some (.iload_n 2, 0) := (congrArg (fun m => am_at m 91) (am_mg_11 33 (by decide))).trans (by decide +kernel)
theorem at_583_92 : am_at (am_m 583) 92 = some (.iastore, 0) := (congrArg (fun m => am_at m 92) (am_mg_11 33 (by decide))).trans (by decide +kernel)
theorem at_583_93 : am_at (am_m 583) 93 = some (.iload_n 2, 0) := (congrArg (fun m => am_at m 93) (am_mg_11 33 (by decide))).trans (by decide +kernel)
theorem at_583_94 : am_at (am_m 583) 94 = some (.iconst 1, 0) := (congrArg (fun m => am_at m 94) (am_mg_11 33 (by decide))).trans (by decide +kernel)
theorem at_583_95 : am_at (am_m 583) 95 = some (.isub, 0) := (congrArg (fun m => am_at m 95) (am_mg_11 33 (by decide))).trans (by decide +kernel)
theorem at_583_96 : am_at (am_m 583) 96 = some (.istore_n 3, 0) := (congrArg (fun m => am_at m 96) (am_mg_11 33 (by decide))).trans (by decide +kernel)
theorem at_583_97 : am_at (am_m 583) 97 = some (.iload_n 3, 0) := (congrArg (fun m => am_at m 97) (am_mg_11 33 (by decide))).trans (by decide +kernel)
theorem at_583_98 : am_at (am_m 583) 98 = some (.ifCond .lt 34, 132) := (congrArg (fun m => am_at m 98) (am_mg_11 33 (by decide))).trans (by decide +kernel)
theorem at_583_101 : am_at (am_m 583) 101 = some (.aload_n 0, 0) := (congrArg (fun m => am_at m 101) (am_mg_11 33 (by decide))).trans (by decide +kernel)
theorem at_583_102 : am_at (am_m 583) 102 = some (.getfield 277, 3205) := (congrArg (fun m => am_at m 102) (am_mg_11 33 (by decide))).trans (by decide +kernel)
theorem at_583_105 : am_at (am_m 583) 105 = some (.iload_n 2, 0) := (congrArg (fun m => am_at m 105) (am_mg_11 33 (by decide))).trans (by decide +kernel)
theorem at_583_106 : am_at (am_m 583) 106 = some (.aload_n 0, 0) := (congrArg (fun m => am_at m 106) (am_mg_11 33 (by decide))).trans (by decide +kernel)
theorem at_583_107 : am_at (am_m 583) 107 = some (.iload_n 3, 0) := (congrArg (fun m => am_at m 107) (am_mg_11 33 (by decide))).trans (by decide +kernel)
theorem at_583_108 : am_at (am_m 583) 108 = some (.iload_n 2, 0) := (congrArg (fun m => am_at m 108) (am_mg_11 33 (by decide))).trans (by decide +kernel)
theorem at_583_109 : am_at (am_m 583) 109 = some (.invokevirtual 1117, 584) := (congrArg (fun m => am_at m 109) (am_mg_11 33 (by decide))).trans (by decide +kernel)
theorem at_583_112 : am_at (am_m 583) 112 = some (.ifCond .eq 7, 119) := (congrArg (fun m => am_at m 112) (am_mg_11 33 (by decide))).trans (by decide +kernel)
theorem at_583_115 : am_at (am_m 583) 115 = some (.iload_n 3, 0) := (congrArg (fun m => am_at m 115) (am_mg_11 33 (by decide))).trans (by decide +kernel)
theorem at_583_116 : am_at (am_m 583) 116 = some (.goto 9, 125) := (congrArg (fun m => am_at m 116) (am_mg_11 33 (by decide))).trans (by decide +kernel)
theorem at_583_119 : am_at (am_m 583) 119 = some (.aload_n 0, 0) := (congrArg (fun m => am_at m 119) (am_mg_11 33 (by decide))).trans (by decide +kernel)
theorem at_583_120 : am_at (am_m 583) 120 = some (.getfield 277, 3205) := (congrArg (fun m => am_at m 120) (am_mg_11 33 (by decide))).trans (by decide +kernel)
theorem at_583_123 : am_at (am_m 583) 123 = some (.iload_n 2, 0) := (congrArg (fun m => am_at m 123) (am_mg_11 33 (by decide))).trans (by decide +kernel)
theorem at_583_124 : am_at (am_m 583) 124 = some (.iaload, 0) := (congrArg (fun m => am_at m 124) (am_mg_11 33 (by decide))).trans (by decide +kernel)
theorem at_583_125 : am_at (am_m 583) 125 = some (.iastore, 0) := (congrArg (fun m => am_at m 125) (am_mg_11 33 (by decide))).trans (by decide +kernel)
theorem at_583_126 : am_at (am_m 583) 126 = some (.iinc 3 (-1), 0) := (congrArg (fun m => am_at m 126) (am_mg_11 33 (by decide))).trans (by decide +kernel)
theorem at_583_129 : am_at (am_m 583) 129 = some (.goto (-32), 97) := (congrArg (fun m => am_at m 129) (am_mg_11 33 (by decide))).trans (by decide +kernel)
theorem at_583_132 : am_at (am_m 583) 132 = some (.iinc 2 1, 0) := (congrArg (fun m => am_at m 132) (am_mg_11 33 (by decide))).trans (by decide +kernel)
theorem at_583_135 : am_at (am_m 583) 135 = some (.goto (-57), 78) := (congrArg (fun m => am_at m 135) (am_mg_11 33 (by decide))).trans (by decide +kernel)
theorem at_583_138 : am_at (am_m 583) 138 = some (.iconst 0, 0) := (congrArg (fun m => am_at m 138) (am_mg_11 33 (by decide))).trans (by decide +kernel)
theorem at_583_139 : am_at (am_m 583) 139 = some (.istore_n 2, 0) := (congrArg (fun m => am_at m 139) (am_mg_11 33 (by decide))).trans (by decide +kernel)
theorem at_583_140 : am_at (am_m 583) 140 = some (.iload_n 2, 0) := (congrArg (fun m => am_at m 140) (am_mg_11 33 (by decide))).trans (by decide +kernel)
theorem at_583_141 : am_at (am_m 583) 141 = some (.aload_n 0, 0) := (congrArg (fun m => am_at m 141) (am_mg_11 33 (by decide))).trans (by decide +kernel)
theorem at_583_142 : am_at (am_m 583) 142 = some (.getfield 315, 3090) := (congrArg (fun m => am_at m 142) (am_mg_11 33 (by decide))).trans (by decide +kernel)
theorem at_583_145 : am_at (am_m 583) 145 = some (.if_icmp .ge 21, 166) := (congrArg (fun m => am_at m 145) (am_mg_11 33 (by decide))).trans (by decide +kernel)
theorem at_583_148 : am_at (am_m 583) 148 = some (.aload_n 0, 0) := (congrArg (fun m => am_at m 148) (am_mg_11 33 (by decide))).trans (by decide +kernel)
theorem at_583_149 : am_at (am_m 583) 149 = some (.getfield 274, 3204) := (congrArg (fun m => am_at m 149) (am_mg_11 33 (by decide))).trans (by decide +kernel)
theorem at_583_152 : am_at (am_m 583) 152 = some (.iload_n 2, 0) := (congrArg (fun m => am_at m 152) (am_mg_11 33 (by decide))).trans (by decide +kernel)
theorem at_583_153 : am_at (am_m 583) 153 = some (.aload_n 0, 0) := (congrArg (fun m => am_at m 153) (am_mg_11 33 (by decide))).trans (by decide +kernel)
theorem at_583_154 : am_at (am_m 583) 154 = some (.getfield 277, 3205) := (congrArg (fun m => am_at m 154) (am_mg_11 33 (by decide))).trans (by decide +kernel)
theorem at_583_157 : am_at (am_m 583) 157 = some (.iload_n 2, 0) := (congrArg (fun m => am_at m 157) (am_mg_11 33 (by decide))).trans (by decide +kernel)
theorem at_583_158 : am_at (am_m 583) 158 = some (.iaload, 0) := (congrArg (fun m => am_at m 158) (am_mg_11 33 (by decide))).trans (by decide +kernel)
theorem at_583_159 : am_at (am_m 583) 159 = some (.iastore, 0) := (congrArg (fun m => am_at m 159) (am_mg_11 33 (by decide))).trans (by decide +kernel)
theorem at_583_160 : am_at (am_m 583) 160 = some (.iinc 2 1, 0) := (congrArg (fun m => am_at m 160) (am_mg_11 33 (by decide))).trans (by decide +kernel)
theorem at_583_163 : am_at (am_m 583) 163 = some (.goto (-23), 140) := (congrArg (fun m => am_at m 163) (am_mg_11 33 (by decide))).trans (by decide +kernel)
theorem at_583_166 : am_at (am_m 583) 166 = some (.iinc 1 1, 0) := (congrArg (fun m => am_at m 166) (am_mg_11 33 (by decide))).trans (by decide +kernel)
theorem at_583_169 : am_at (am_m 583) 169 = some (.goto (-99), 70) := (congrArg (fun m => am_at m 169) (am_mg_11 33 (by decide))).trans (by decide +kernel)
theorem at_583_172 : am_at (am_m 583) 172 = some (.return_, 0) := (congrArg (fun m => am_at m 172) (am_mg_11 33 (by decide))).trans (by decide +kernel)
theorem at_584_0 : am_at (am_m 584) 0 = some (.aload_n 0, 0) := (congrArg (fun m => am_at m 0) (am_mg_11 34 (by decide))).trans (by decide +kernel)
theorem at_584_1 : am_at (am_m 584) 1 = some (.getfield 274, 3204) := (congrArg (fun m => am_at m 1) (am_mg_11 34 (by decide))).trans (by decide +kernel)
theorem at_584_4 : am_at (am_m 584) 4 = some (.iload_n 1, 0) := (congrArg (fun m => am_at m 4) (am_mg_11 34 (by decide))).trans (by decide +kernel)
theorem at_584_5 : am_at (am_m 584) 5 = some (.iaload, 0) := (congrArg (fun m => am_at m 5) (am_mg_11 34 (by decide))).trans (by decide +kernel)
theorem at_584_6 : am_at (am_m 584) 6 = some (.aload_n 0, 0) := (congrArg (fun m => am_at m 6) (am_mg_11 34 (by decide))).trans (by decide +kernel)
theorem at_584_7 : am_at (am_m 584) 7 = some (.getfield 274, 3204) := (congrArg (fun m => am_at m 7) (am_mg_11 34 (by decide))).trans (by decide +kernel)
theorem at_584_10 : am_at (am_m 584) 10 = some (.iload_n 2, 0) := (congrArg (fun m => am_at m 10) (am_mg_11 34 (by decide))).trans (by decide +kernel)
theorem at_584_11 : am_at (am_m 584) 11 = some (.iaload, 0) := (congrArg (fun m => am_at m 11) (am_mg_11 34 (by decide))).trans (by decide +kernel)
theorem at_584_12 : am_at (am_m 584) 12 = some (.if_icmp .ne 7, 19) := (congrArg (fun m => am_at m 12) (am_mg_11 34 (by decide))).trans (by decide +kernel)
theorem at_584_15 : am_at (am_m 584) 15 = some (.iconst 1, 0) := (congrArg (fun m => am_at m 15) (am_mg_11 34 (by decide))).trans (by decide +kernel)
theorem at_584_16 : am_at (am_m 584) 16 = some (.goto 4, 20) := (congrArg (fun m => am_at m 16) (am_mg_11 34 (by decide))).trans (by decide +kernel)
theorem at_584_19 : am_at (am_m 584) 19 = some (.iconst 0, 0) := (congrArg (fun m => am_at m 19) (am_mg_11 34 (by decide))).trans (by decide +kernel)
theorem at_584_20 : am_at (am_m 584) 20 = some (.istore_n 3, 0) := (congrArg (fun m => am_at m 20) (am_mg_11 34 (by decide))).trans (by decide +kernel)
theorem at_584_21 : am_at (am_m 584) 21 = some (.iconst 0, 0) := (congrArg (fun m => am_at m 21) (am_mg_11 34 (by decide))).trans (by decide +kernel)
theorem at_584_22 : am_at (am_m 584) 22 = some (.istore 4, 0) := (congrArg (fun m => am_at m 22) (am_mg_11 34 (by decide))).trans (by decide +kernel)
theorem at_584_24 : am_at (am_m 584) 24 = some (.iload 4, 0) := (congrArg (fun m => am_at m 24) (am_mg_11 34 (by decide))).trans (by decide +kernel)
theorem at_584_26 : am_at (am_m 584) 26 = some (.iconst 4, 0) := (congrArg (fun m => am_at m 26) (am_mg_11 34 (by decide))).trans (by decide +kernel)
theorem at_584_27 : am_at (am_m 584) 27 = some (.if_icmp .ge 54, 81) := (congrArg (fun m => am_at m 27) (am_mg_11 34 (by decide))).trans (by decide +kernel)
theorem at_584_30 : am_at (am_m 584) 30 = some (.iload_n 3, 0) := (congrArg (fun m => am_at m 30) (am_mg_11 34 (by decide))).trans (by decide +kernel)
theorem at_584_31 : am_at (am_m 584) 31 = some (.ifCond .eq 42, 73) := (congrArg (fun m => am_at m 31) (am_mg_11 34 (by decide))).trans (by decide +kernel)
theorem at_584_34 : am_at (am_m 584) 34 = some (.aload_n 0, 0) := (congrArg (fun m => am_at m 34) (am_mg_11 34 (by decide))).trans (by decide +kernel)
theorem at_584_35 : am_at (am_m 584) 35 = some (.getfield 274, 3204) := (congrArg (fun m => am_at m 35) (am_mg_11 34 (by decide))).trans (by decide +kernel)
theorem at_584_38 : am_at (am_m 584) 38 = some (.aload_n 0, 0) := (congrArg (fun m => am_at m 38) (am_mg_11 34 (by decide))).trans (by decide +kernel)
theorem at_584_39 : am_at (am_m 584) 39 = some (.getfield 54, 3094) := (congrArg (fun m => am_at m 39) (am_mg_11 34 (by decide))).trans (by decide +kernel)
theorem at_584_42 : am_at (am_m 584) 42 = some (.iload_n 1, 0) := (congrArg (fun m => am_at m 42) (am_mg_11 34 (by decide))).trans (by decide +kernel)
theorem at_584_43 : am_at (am_m 584) 43 = some (.iaload, 0) := (congrArg (fun m => am_at m 43) (am_mg_11 34 (by decide))).trans (by decide +kernel)
theorem at_584_44 : am_at (am_m 584) 44 = some (.iload 4, 0) := (congrArg (fun m => am_at m 44) (am_mg_11 34 (by decide))).trans (by decide +kernel)
theorem at_584_46 : am_at (am_m 584) 46 = some (.invokestatic 447, 367) := (congrArg (fun m => am_at m 46) (am_mg_11 34 (by decide))).trans (by decide +kernel)
theorem at_584_49 : am_at (am_m 584) 49 = some (.iaload, 0) := (congrArg (fun m => am_at m 49) (am_mg_11 34 (by decide))).trans (by decide +kernel)
theorem at_584_50 : am_at (am_m 584) 50 = some (.aload_n 0, 0) := (congrArg (fun m => am_at m 50) (am_mg_11 34 (by decide))).trans (by decide +kernel)
theorem at_584_51 : am_at (am_m 584) 51 = some (.getfield 274, 3204) := (congrArg (fun m => am_at m 51) (am_mg_11 34 (by decide))).trans (by decide +kernel)
theorem at_584_54 : am_at (am_m 584) 54 = some (.aload_n 0, 0) := (congrArg (fun m => am_at m 54) (am_mg_11 34 (by decide))).trans (by decide +kernel)
theorem at_584_55 : am_at (am_m 584) 55 = some (.getfield 54, 3094) := (congrArg (fun m => am_at m 55) (am_mg_11 34 (by decide))).trans (by decide +kernel)
theorem at_584_58 : am_at (am_m 584) 58 = some (.iload_n 2, 0) := (congrArg (fun m => am_at m 58) (am_mg_11 34 (by decide))).trans (by decide +kernel)
theorem at_584_59 : am_at (am_m 584) 59 = some (.iaload, 0) := (congrArg (fun m => am_at m 59) (am_mg_11 34 (by decide))).trans (by decide +kernel)
theorem at_584_60 : am_at (am_m 584) 60 = some (.iload 4, 0) := (congrArg (fun m => am_at m 60) (am_mg_11 34 (by decide))).trans (by decide +kernel)
theorem at_584_62 : am_at (am_m 584) 62 = some (.invokestatic 447, 367) := (congrArg (fun m => am_at m 62) (am_mg_11 34 (by decide))).trans (by decide +kernel)
theorem at_584_65 : am_at (am_m 584) 65 = some (.iaload, 0) := (congrArg (fun m => am_at m 65) (am_mg_11 34 (by decide))).trans (by decide +kernel)
theorem at_584_66 : am_at (am_m 584) 66 = some (.if_icmp .ne 7, 73) := (congrArg (fun m => am_at m 66) (am_mg_11 34 (by decide))).trans (by decide +kernel)
theorem at_584_69 : am_at (am_m 584) 69 = some (.iconst 1, 0) := (congrArg (fun m => am_at m 69) (am_mg_11 34 (by decide))).trans (by decide +kernel)
theorem at_584_70 : am_at (am_m 584) 70 = some (.goto 4, 74) := (congrArg (fun m => am_at m 70) (am_mg_11 34 (by decide))).trans (by decide +kernel)
theorem at_584_73 : am_at (am_m 584) 73 = some (.iconst 0, 0) := (congrArg (fun m => am_at m 73) (am_mg_11 34 (by decide))).trans (by decide +kernel)
theorem at_584_74 : am_at (am_m 584) 74 = some (.istore_n 3, 0) := (congrArg (fun m => am_at m 74) (am_mg_11 34 (by decide))).trans (by decide +kernel)
theorem at_584_75 : am_at (am_m 584) 75 = some (.iinc 4 1, 0) := (congrArg (fun m => am_at m 75) (am_mg_11 34 (by decide))).trans (by decide +kernel)
theorem at_584_78 : am_at (am_m 584) 78 = some (.goto (-54), 24) := (congrArg (fun m => am_at m 78) (am_mg_11 34 (by decide))).trans (by decide +kernel)
theorem at_584_81 : am_at (am_m 584) 81 = some (.iload_n 3, 0) := (congrArg (fun m => am_at m 81) (am_mg_11 34 (by decide))).trans (by decide +kernel)
theorem at_584_82 : am_at (am_m 584) 82 = some (.ireturn, 0) := (congrArg (fun m => am_at m 82) (am_mg_11 34 (by decide))).trans (by decide +kernel)
theorem at_585_0 : am_at (am_m 585) 0 = some (.aload_n 0, 0) := (congrArg (fun m => am_at m 0) (am_mg_11 35 (by decide))).trans (by decide +kernel)
theorem at_585_1 : am_at (am_m 585) 1 = some (.aload_n 0, 0) := (congrArg (fun m => am_at m 1) (am_mg_11 35 (by decide))).trans (by decide +kernel)
theorem at_585_2 : am_at (am_m 585) 2 = some (.iload_n 1, 0) := (congrArg (fun m => am_at m 2) (am_mg_11 35 (by decide))).trans (by decide +kernel)
theorem at_585_3 : am_at (am_m 585) 3 = some (.invokevirtual 1123, 586) := (congrArg (fun m => am_at m 3) (am_mg_11 35 (by decide))).trans (by decide +kernel)
theorem at_585_6 : am_at (am_m 585) 6 = some (.putfield 292, 3072) := (congrArg (fun m => am_at m 6) (am_mg_11 35 (by decide))).trans (by decide +kernel)
theorem at_585_9 : am_at (am_m 585) 9 = some (.aload_n 0, 0) := (congrArg (fun m => am_at m 9) (am_mg_11 35 (by decide))).trans (by decide +kernel)
theorem at_585_10 : am_at (am_m 585) 10 = some (.aload_n 0, 0) := (congrArg (fun m => am_at m 10) (am_mg_11 35 (by decide))).trans (by decide +kernel)
theorem at_585_11 : am_at (am_m 585) 11 = some (.getfield 292, 3072) := (congrArg (fun m => am_at m 11) (am_mg_11 35 (by decide))).trans (by decide +kernel)
theorem at_585_14 : am_at (am_m 585) 14 = some (.ifCond .ne 17, 31) := (congrArg (fun m => am_at m 14) (am_mg_11 35 (by decide))).trans (by decide +kernel)
theorem at_585_17 : am_at (am_m 585) 17 = some (.aload_n 0, 0) := (congrArg (fun m => am_at m 17) (am_mg_11 35 (by decide))).trans (by decide +kernel)
theorem at_585_18 : am_at (am_m 585) 18 = some (.getfield 296, 3073) := (congrArg (fun m => am_at m 18) (am_mg_11 35 (by decide))).trans (by decide +kernel)
theorem at_585_21 : am_at (am_m 585) 21 = some (.sipush 600, 0) := (congrArg (fun m => am_at m 21) (am_mg_11 35 (by decide))).trans (by decide +kernel)
theorem at_585_24 : am_at (am_m 585) 24 = some (.if_icmp .ne 7, 31) := (congrArg (fun m => am_at m 24) (am_mg_11 35 (by decide))).trans (by decide +kernel)
theorem at_585_27 : am_at (am_m 585) 27 = some (.iconst 3, 0) := (congrArg (fun m => am_at m 27) (am_mg_11 35 (by decide))).trans (by decide +kernel)
theorem at_585_28 : am_at (am_m 585) 28 = some (.goto 7, 35) := (congrArg (fun m => am_at m 28) (am_mg_11 35 (by decide))).trans (by decide +kernel)
theorem at_585_31 : am_at (am_m 585) 31 = some (.aload_n 0, 0) := (congrArg (fun m => am_at m 31) (am_mg_11 35 (by decide))).trans (by decide +kernel)
theorem at_585_32 : am_at (am_m 585) 32 = some (.getfield 292, 3072) := (congrArg (fun m => am_at m 32) (am_mg_11 35 (by decide))).trans (by decide +kernel)
theorem at_585_35 : am_at (am_m 585) 35 = some (.putfield 292, 3072) := (congrArg (fun m => am_at m 35) (am_mg_11 35 (by decide))).trans (by decide +kernel)
theorem at_585_38 : am_at (am_m 585) 38 = some (.aload_n 0, 0) := (congrArg (fun m => am_at m 38) (am_mg_11 35 (by decide))).trans (by decide +kernel)
theorem at_585_39 : am_at (am_m 585) 39 = some (.getfield 292, 3072) := (congrArg (fun m => am_at m 39) (am_mg_11 35 (by decide))).trans (by decide +kernel)
theorem at_585_42 : am_at (am_m 585) 42 = some (.ifCond .le 5, 47) := (congrArg (fun m => am_at m 42) (am_mg_11 35 (by decide))).trans (by decide +kernel)
theorem at_585_45 : am_at (am_m 585) 45 = some (.iconst 0, 0) := (congrArg (fun m => am_at m 45) (am_mg_11 35 (by decide))).trans (by decide +kernel)
theorem at_585_46 : am_at (am_m 585) 46 = some (.ireturn, 0) := (congrArg (fun m => am_at m 46) (am_mg_11 35 (by decide))).trans (by decide +kernel)
theorem at_585_47 : am_at (am_m 585) 47 = some (.aload_n 0, 0) := (congrArg (fun m => am_at m 47) (am_mg_11 35 (by decide))).trans (by decide +kernel)
theorem at_585_48 : am_at (am_m 585) 48 = some (.iload_n 1, 0) := (congrArg (fun m => am_at m 48) (am_mg_11 35 (by decide))).trans (by decide +kernel)
theorem at_585_49 : am_at (am_m 585) 49 = some (.invokevirtual 571, 359) := (congrArg (fun m => am_at m 49) (am_mg_11 35 (by decide))).trans (by decide +kernel)
theorem at_585_52 : am_at (am_m 585) 52 = some (.iconst 0, 0) := (congrArg (fun m => am_at m 52) (am_mg_11 35 (by decide))).trans (by decide +kernel)
theorem at_585_53 : am_at (am_m 585) 53 = some (.istore_n 2, 0) := (congrArg (fun m => am_at m 53) (am_mg_11 35 (by decide))).trans (by decide +kernel)
theorem at_585_54 : am_at (am_m 585) 54 = some (.iload_n 2, 0) := (congrArg (fun m => am_at m 54) (am_mg_11 35 (by decide))).trans (by decide +kernel)
theorem at_585_55 : am_at (am_m 585) 55 = some (.aload_n 0, 0) := (congrArg (fun m => am_at m 55) (am_mg_11 35 (by decide))).trans (by decide +kernel)
theorem at_585_56 : am_at (am_m 585) 56 = some (.getfield 306, 3086) := (congrArg (fun m => am_at m 56) (am_mg_11 35 (by decide))).trans (by decide +kernel)
theorem at_585_59 : am_at (am_m 585) 59 = some (.if_icmp .ge 16, 75) := (congrArg (fun m => am_at m 59) (am_mg_11 35 (by decide))).trans (by decide +kernel)
theorem at_585_62 : am_at (am_m 585) 62 = some (.aload_n 0, 0) := (congrArg (fun m => am_at m 62) (am_mg_11 35 (by decide))).trans (by decide +kernel)
theorem at_585_63 : am_at (am_m 585) 63 = some (.getfield 286, 3208) := (congrArg (fun m => am_at m 63) (am_mg_11 35 (by decide))).trans (by decide +kernel)
theorem at_585_66 : am_at (am_m 585) 66 = some (.iload_n 2, 0) := (congrArg (fun m => am_at m 66) (am_mg_11 35 (by decide))).trans (by decide +kernel)
theorem at_585_67 : am_at (am_m 585) 67 = some (.iconst 0, 0) := (congrArg (fun m => am_at m 67) (am_mg_11 35 (by decide))).trans (by decide +kernel)
theorem at_585_68 : am_at (am_m 585) 68 = some (.bastore, 0) := (congrArg (fun m => am_at m 68) (am_mg_11 35 (by decide))).trans (by decide +kernel)
theorem at_585_69 : am_at (am_m 585) 69 = some (.iinc 2 1, 0) := (congrArg (fun m => am_at m 69) (am_mg_11 35 (by decide))).trans (by decide +kernel)
theorem at_585_72 : am_at (am_m 585) 72 = some (.goto (-18), 54) := (congrArg (fun m => am_at m 72) (am_mg_11 35 (by decide))).trans (by decide +kernel)
theorem at_585_75 : am_at (am_m 585) 75 = some (.iconst 0, 0) := (congrArg (fun m => am_at m 75) (am_mg_11 35 (by decide))).trans (by decide +kernel)
theorem at_585_76 : am_at (am_m 585) 76 = some (.istore_n 2, 0) := (congrArg (fun m => am_at m 76) (am_mg_11 35 (by decide))).trans (by decide +kernel)
theorem at_585_77 : am_at (am_m 585) 77 = some (.iload_n 2, 0) := (congrArg (fun m => am_at m 77) (am_mg_11 35 (by decide))).trans (by decide +kernel)
theorem at_585_78 : am_at (am_m 585) 78 = some (.iconst 1, 0) := (congrArg (fun m => am_at m 78) (am_mg_11 35 (by decide))).trans (by decide +kernel)
theorem at_585_79 : am_at (am_m 585) 79 = some (.aload_n 0, 0) := (congrArg (fun m => am_at m 79) (am_mg_11 35 (by decide))).trans (by decide +kernel)
theorem at_585_80 : am_at (am_m 585) 80 = some (.getfield 309, 3087) := (congrArg (fun m => am_at m 80) (am_mg_11 35 (by decide))).trans (by decide +kernel)
theorem at_585_83 : am_at (am_m 585) 83 = some (.ishl, 0) := (congrArg (fun m => am_at m 83) (am_mg_11 35 (by decide))).trans (by decide +kernel)
theorem at_585_84 : am_at (am_m 585) 84 = some (.if_icmp .ge 67, 151) := (congrArg (fun m => am_at m 84) (am_mg_11 35 (by decide))).trans (by decide +kernel)
theorem at_585_87 : am_at (am_m 585) 87 = some (.iconst 0, 0) := (congrArg (fun m => am_at m 87) (am_mg_11 35 (by decide))).trans (by decide +kernel)
theorem at_585_88 : am_at (am_m 585) 88 = some (.istore_n 3, 0) := (congrArg (fun m => am_at m 88) (am_mg_11 35 (by decide))).trans (by decide +kernel)
theorem at_585_89 : am_at (am_m 585) 89 = some (.iload_n 3, 0) := (congrArg (fun m => am_at m 89) (am_mg_11 35 (by decide))).trans (by decide +kernel)
theorem at_585_90 : am_at (am_m 585) 90 = some (.aload_n 0, 0) := (congrArg (fun m => am_at m 90) (am_mg_11 35 (by decide))).trans (by decide +kernel)
theorem at_585_91 : am_at (am_m 585) 91 = some (.getfield 309, 3087) := (congrArg (fun m => am_at m 91) (am_mg_11 35 (by decide))).trans (by decide +kernel)
theorem at_585_94 : am_at (am_m 585) 94 = some (.if_icmp .ge 20, 114) := (congrArg (fun m => am_at m 94) (am_mg_11 35 (by decide))).trans (by decide +kernel)
theorem at_585_97 : am_at (am_m 585) 97 = some (.aload_n 0, 0) := (congrArg (fun m => am_at m 97) (am_mg_11 35 (by decide))).trans (by decide +kernel)
theorem at_585_98 : am_at (am_m 585) 98 = some (.getfield 69, 3100) := (congrArg (fun m => am_at m 98) (am_mg_11 35 (by decide))).trans (by decide +kernel)
theorem at_585_101 : am_at (am_m 585) 101 = some (.iload_n 3, 0) := (congrArg (fun m => am_at m 101) (am_mg_11 35 (by decide))).trans (by decide +kernel)
theorem at_585_102 : am_at (am_m 585) 102 = some (.iload_n 2, 0) := (congrArg (fun m => am_at m 102) (am_mg_11 35 (by decide))).trans (by decide +kernel)
theorem at_585_103 : am_at (am_m 585) 103 = some (.iload_n 3, 0) := (congrArg (fun m => am_at m 103) (am_mg_11 35 (by decide))).trans (by decide +kernel)
theorem at_585_104 : am_at (am_m 585) 104 = some (.ishr, 0) := (congrArg (fun m => am_at m 104) (am_mg_11 35 (by decide))).trans (by decide +kernel)
theorem at_585_105 : am_at (am_m 585) 105 = some (.iconst 1, 0) := (congrArg (fun m => am_at m 105) (am_mg_11 35 (by decide))).trans (by decide +kernel)
theorem at_585_106 : am_at (am_m 585) 106 = some (.iand, 0) := (congrArg (fun m => am_at m 106) (am_mg_11 35 (by decide))).trans (by decide +kernel)
theorem at_585_107 : am_at (am_m 585) 107 = some (.iastore, 0) := (congrArg (fun m => am_at m 107) (am_mg_11 35 (by decide))).trans (by decide +kernel)
theorem at_585_108 : am_at (am_m 585) 108 = some (.iinc 3 1, 0) := (congrArg (fun m => am_at m 108) (am_mg_11 35 (by decide))).trans (by decide +kernel)
theorem at_585_111 : am_at (am_m 585) 111 = some (.goto (-22), 89) := (congrArg (fun m => am_at m 111) (am_mg_11 35 (by decide))).trans (by decide +kernel)
theorem at_585_114 : am_at (am_m 585) 114 = some (.iconst 0, 0) := (congrArg (fun m => am_at m 114) (am_mg_11 35 (by decide))).trans (by decide +kernel)
theorem at_585_115 : am_at (am_m 585) 115 = some (.istore_n 3, 0) := (congrArg (fun m => am_at m 115) (am_mg_11 35 (by decide))).trans (by decide +kernel)
theorem at_585_116 : am_at (am_m 585) 116 = some (.iload_n 3, 0) := (congrArg (fun m => am_at m 116) (am_mg_11 35 (by decide))).trans (by decide +kernel)
theorem at_585_117 : am_at (am_m 585) 117 = some (.aload_n 0, 0) := (congrArg (fun m => am_at m 117) (am_mg_11 35 (by decide))).trans (by decide +kernel)
theorem at_585_118 : am_at (am_m 585) 118 = some (.getfield 306, 3086) := (congrArg (fun m => am_at m 118) (am_mg_11 35 (by decide))).trans (by decide +kernel)
theorem at_585_121 : am_at (am_m 585) 121 = some (.if_icmp .ge 24, 145) := (congrArg (fun m => am_at m 121) (am_mg_11 35 (by decide))).trans (by decide +kernel)
theorem at_585_124 : am_at (am_m 585) 124 = some (.aload_n 0, 0) := (congrArg (fun m => am_at m 124) (am_mg_11 35 (by decide))).trans (by decide +kernel)
theorem at_585_125 : am_at (am_m 585) 125 = some (.iload_n 3, 0) := (congrArg (fun m => am_at m 125) (am_mg_11 35 (by decide))).trans (by decide +kernel)
theorem at_585_126 : am_at (am_m 585) 126 = some (.invokevirtual 450, 418) := (congrArg (fun m => am_at m 126) (am_mg_11 35 (by decide))).trans (by decide +kernel)
theorem at_585_129 : am_at (am_m 585) 129 = some (.ifCond .eq 10, 139) := (congrArg (fun m => am_at m 129) (am_mg_11 35 (by decide))).trans (by decide +kernel)
theorem at_585_132 : am_at (am_m 585) 132 = some (.aload_n 0, 0) := (congrArg (fun m => am_at m 132) (am_mg_11 35 (by decide))).trans (by decide +kernel)
theorem at_585_133 : am_at (am_m 585) 133 = some (.getfield 286, 3208) := (congrArg (fun m => am_at m 133) (am_mg_11 35 (by decide))).trans (by decide +kernel)
theorem at_585_136 : am_at (am_m 585) 136 = some (.iload_n 3, 0) := (congrArg (fun m => am_at m 136) (am_mg_11 35 (by decide))).trans (by decide +kernel)
theorem at_585_137 : am_at (am_m 585) 137 = some (.iconst 1, 0) := (congrArg (fun m => am_at m 137) (am_mg_11 35 (by decide))).trans (by decide +kernel)
theorem at_585_138 : am_at (am_m 585) 138 = some (.bastore, 0) := (congrArg (fun m => am_at m 138) (am_mg_11 35 (by decide))).trans (by decide +kernel)
theorem at_585_139 : am_at (am_m 585) 139 = some (.iinc 3 1, 0) := (congrArg (fun m => am_at m 139) (am_mg_11 35 (by decide))).trans (by decide +kernel)
theorem at_585_142 : am_at (am_m 585) 142 = some (.goto (-26), 116) := (congrArg (fun m => am_at m 142) (am_mg_11 35 (by decide))).trans (by decide +kernel)
theorem at_585_145 : am_at (am_m 585) 145 = some (.iinc 2 1, 0) := (congrArg (fun m => am_at m 145) (am_mg_11 35 (by decide))).trans (by decide +kernel)
theorem at_585_148 : am_at (am_m 585) 148 = some (.goto (-71), 77) := (congrArg (fun m => am_at m 148) (am_mg_11 35 (by decide))).trans (by decide +kernel)
theorem at_585_151 : am_at (am_m 585) 151 = some (.aload_n 0, 0) := (congrArg (fun m => am_at m 151) (am_mg_11 35 (by decide))).trans (by decide +kernel)
theorem at_585_152 : am_at (am_m 585) 152 = some (.iload_n 1, 0) := (congrArg (fun m => am_at m 152) (am_mg_11 35 (by decide))).trans (by decide +kernel)
theorem at_585_153 : am_at (am_m 585) 153 = some (.invokevirtual 635, 391) := (congrArg (fun m => am_at m 153) (am_mg_11 35 (by decide))).trans (by decide +kernel)
theorem at_585_156 : am_at (am_m 585) 156 = some (.aload_n 0, 0) := (congrArg (fun m => am_at m 156) (am_mg_11 35 (by decide))).trans (by decide +kernel)
theorem at_585_157 : am_at (am_m 585) 157 = some (.invokevirtual 753, 451) := (congrArg (fun m => am_at m 157) (am_mg_11 35 (by decide))).trans (by decide +kernel)
theorem at_585_160 : am_at (am_m 585) 160 = some (.iconst 0, 0) := (congrArg (fun m => am_at m 160) (am_mg_11 35 (by decide))).trans (by decide +kernel)
theorem at_585_161 : am_at (am_m 585) 161 = some (.istore_n 2, 0) := (congrArg (fun m => am_at m 161) (am_mg_11 35 (by decide))).trans (by decide +kernel)
theorem at_585_162 : am_at (am_m 585) 162 = some (.iload_n 2, 0) := (congrArg (fun m => am_at m 162) (am_mg_11 35 (by decide))).trans (by decide +kernel)
theorem at_585_163 : am_at (am_m 585) 163 = some (.aload_n 0, 0) := (congrArg (fun m => am_at m 163) (am_mg_11 35 (by decide))).trans (by decide +kernel)
theorem at_585_164 : am_at (am_m 585) 164 = some (.getfield 315, 3090) := (congrArg (fun m => am_at m 164) (am_mg_11 35 (by decide))).trans (by decide +kernel)
theorem at_585_167 : am_at (am_m 585) 167 = some (.if_icmp .ge 34, 201) := (congrArg (fun m => am_at m 167) (am_mg_11 35 (by decide))).trans (by decide +kernel)
theorem at_585_170 : am_at (am_m 585) 170 = some (.aload_n 0, 0) := (congrArg (fun m => am_at m 170) (am_mg_11 35 (by decide))).trans (by decide +kernel)
theorem at_585_171 : am_at (am_m 585) 171 = some (.getfield 286, 3208) := (congrArg (fun m => am_at m 171) (am_mg_11 35 (by decide))).trans (by decide +kernel)
theorem at_585_174 : am_at (am_m 585) 174 = some (.iload_n 2, 0) := (congrArg (fun m => am_at m 174) (am_mg_11 35 (by decide))).trans (by decide +kernel)
theorem at_585_175 : am_at (am_m 585) 175 = some (.baload, 0) := (congrArg (fun m => am_at m 175) (am_mg_11 35 (by decide))).trans (by decide +kernel)
theorem at_585_176 : am_at (am_m 585) 176 = some (.ifCond .eq 19, 195) := (congrArg (fun m => am_at m 176) (am_mg_11 35 (by decide))).trans (by decide +kernel)
theorem at_585_179 : am_at (am_m 585) 179 = some (.aload_n 0, 0) := (congrArg (fun m => am_at m 179) (am_mg_11 35 (by decide))).trans (by decide +kernel)
theorem at_585_180 : am_at (am_m 585) 180 = some (.aload_n 0, 0) := (congrArg (fun m => am_at m 180) (am_mg_11 35 (by decide))).trans (by decide +kernel)
theorem at_585_181 : am_at (am_m 585) 181 = some (.getfield 51, 3093) := (congrArg (fun m => am_at m 181) (am_mg_11 35 (by decide))).trans (by decide +kernel)
theorem at_585_184 : am_at (am_m 585) 184 = some (.iload_n 2, 0) := (congrArg (fun m => am_at m 184) (am_mg_11 35 (by decide))).trans (by decide +kernel)
theorem at_585_185 : am_at (am_m 585) 185 = some (.iaload, 0) := (congrArg (fun m => am_at m 185) (am_mg_11 35 (by decide))).trans (by decide +kernel)
theorem at_585_186 : am_at (am_m 585) 186 = some (.aload_n 0, 0) := (congrArg (fun m => am_at m 186) (am_mg_11 35 (by decide))).trans (by decide +kernel)
theorem at_585_187 : am_at (am_m 585) 187 = some (.getfield 54, 3094) := (congrArg (fun m => am_at m 187) (am_mg_11 35 (by decide))).trans (by decide +kernel)
theorem at_585_190 : am_at (am_m 585) 190 = some (.iload_n 2, 0) := (congrArg (fun m => am_at m 190) (am_mg_11 35 (by decide))).trans (by decide +kernel)
theorem at_585_191 : am_at (am_m 585) 191 = some (.iaload, 0) := (congrArg (fun m => am_at m 191) (am_mg_11 35 (by decide))).trans (by decide +kernel)
theorem at_585_192 : am_at (am_m 585) 192 = some (.invokevirtual 335, 335) := (congrArg (fun m => am_at m 192) (am_mg_11 35 (by decide))).trans (by decide +kernel)
theorem at_585_195 : am_at (am_m 585) 195 = some (.iinc 2 1, 0) := (congrArg (fun m => am_at m 195) (am_mg_11 35 (by decide))).trans (by decide +kernel)
theorem at_585_198 : am_at (am_m 585) 198 = some (.goto (-36), 162) := (congrArg (fun m => am_at m 198) (am_mg_11 35 (by decide))).trans (by decide +kernel)
theorem at_585_201 : am_at (am_m 585) 201 = some (.aload_n 0, 0) := (congrArg (fun m => am_at m 201) (am_mg_11 35 (by decide))).trans (by decide +kernel)
theorem at_585_202 : am_at (am_m 585) 202 = some (.bipush 7, 0) := (congrArg (fun m => am_at m 202) (am_mg_11 35 (by decide))).trans (by decide +kernel)
theorem at_585_204 : am_at (am_m 585) 204 = some (.iload_n 1, 0) := (congrArg (fun m => am_at m 204) (am_mg_11 35 (by decide))).trans (by decide +kernel)
theorem at_585_205 : am_at (am_m 585) 205 = some (.iconst (-1), 0) := (congrArg (fun m => am_at m 205) (am_mg_11 35 (by decide))).trans (by decide +kernel)
theorem at_585_206 : am_at (am_m 585) 206 = some (.iconst (-1), 0) := (congrArg (fun m => am_at m 206) (am_mg_11 35 (by decide))).trans (by decide +kernel)
theorem at_585_207 : am_at (am_m 585) 207 = some (.iconst (-1), 0) := (congrArg (fun m => am_at m 207) (am_mg_11 35 (by decide))).trans (by decide +kernel)
theorem at_585_208 : am_at (am_m 585) 208 = some (.lconst 0, 0) := (congrArg (fun m => am_at m 208) (am_mg_11 35 (by decide))).trans (by decide +kernel)
theorem at_585_209 : am_at (am_m 585) 209 = some (.invokevirtual 543, 356) := (congrArg (fun m => am_at m 209) (am_mg_11 35 (by decide))).trans (by decide +kernel)
theorem at_585_212 : am_at (am_m 585) 212 = some (.ireturn, 0) := (congrArg (fun m => am_at m 212) (am_mg_11 35 (by decide))).trans (by decide +kernel)
theorem at_586_0 : am_at (am_m 586) 0 = some (.aload_n 0, 0) := (congrArg (fun m => am_at m 0) (am_mg_11 36 (by decide))).trans (by decide +kernel)
theorem at_586_1 : am_at (am_m 586) 1 = some (.iload_n 1, 0) := (congrArg (fun m => am_at m 1) (am_mg_11 36 (by decide))).trans (by decide +kernel)
theorem at_586_2 : am_at (am_m 586) 2 = some (.invokevirtual 568, 358) := (congrArg (fun m => am_at m 2) (am_mg_11 36 (by decide))).trans (by decide +kernel)
theorem at_586_5 : am_at (am_m 586) 5 = some (.ifCond .ne 7, 12) := (congrArg (fun m => am_at m 5) (am_mg_11 36 (by decide))).trans (by decide +kernel)
theorem at_586_8 : am_at (am_m 586) 8 = some (.iconst 1, 0) := (congrArg (fun m => am_at m 8) (am_mg_11 36 (by decide))).trans (by decide +kernel)
theorem at_586_9 : am_at (am_m 586) 9 = some (.goto 30, 39) := (congrArg (fun m => am_at m 9) (am_mg_11 36 (by decide))).trans (by decide +kernel)
theorem at_586_12 : am_at (am_m 586) 12 = some (.aload_n 0, 0) := (congrArg (fun m => am_at m 12) (am_mg_11 36 (by decide))).trans (by decide +kernel)
theorem at_586_13 : am_at (am_m 586) 13 = some (.getfield 7, 3074) := (congrArg (fun m => am_at m 13) (am_mg_11 36 (by decide))).trans (by decide +kernel)
theorem at_586_16 : am_at (am_m 586) 16 = some (.aload_n 0, 0) := (congrArg (fun m => am_at m 16) (am_mg_11 36 (by decide))).trans (by decide +kernel)
theorem at_586_17 : am_at (am_m 586) 17 = some (.iload_n 1, 0) := (congrArg (fun m => am_at m 17) (am_mg_11 36 (by decide))).trans (by decide +kernel)
theorem at_586_18 : am_at (am_m 586) 18 = some (.invokevirtual 568, 358) := (congrArg (fun m => am_at m 18) (am_mg_11 36 (by decide))).trans (by decide +kernel)
theorem at_586_21 : am_at (am_m 586) 21 = some (.ifCond .eq 7, 28) := (congrArg (fun m => am_at m 21) (am_mg_11 36 (by decide))).trans (by decide +kernel)
theorem at_586_24 : am_at (am_m 586) 24 = some (.iload_n 1, 0) := (congrArg (fun m => am_at m 24) (am_mg_11 36 (by decide))).trans (by decide +kernel)
theorem at_586_25 : am_at (am_m 586) 25 = some (.goto 4, 29) := (congrArg (fun m => am_at m 25) (am_mg_11 36 (by decide))).trans (by decide +kernel)
theorem at_586_28 : am_at (am_m 586) 28 = some (.iconst 0, 0) := (congrArg (fun m => am_at m 28) (am_mg_11 36 (by decide))).trans (by decide +kernel)
theorem at_586_29 : am_at (am_m 586) 29 = some (.iaload, 0) := (congrArg (fun m => am_at m 29) (am_mg_11 36 (by decide))).trans (by decide +kernel)
theorem at_586_30 : am_at (am_m 586) 30 = some (.iconst 3, 0) := (congrArg (fun m => am_at m 30) (am_mg_11 36 (by decide))).trans (by decide +kernel)
theorem at_586_31 : am_at (am_m 586) 31 = some (.if_icmp .eq 7, 38) := (congrArg (fun m => am_at m 31) (am_mg_11 36 (by decide))).trans (by decide +kernel)
theorem at_586_34 : am_at (am_m 586) 34 = some (.iconst 2, 0) := (congrArg (fun m => am_at m 34) (am_mg_11 36 (by decide))).trans (by decide +kernel)
theorem at_586_35 : am_at (am_m 586) 35 = some (.goto 4, 39) := (congrArg (fun m => am_at m 35) (am_mg_11 36 (by decide))).trans (by decide +kernel)
theorem at_586_38 : am_at (am_m 586) 38 = some (.iconst 0, 0) := (congrArg (fun m => am_at m 38) (am_mg_11 36 (by decide))).trans (by decide +kernel)
theorem at_586_39 : am_at (am_m 586) 39 = some (.ireturn, 0) := (congrArg (fun m => am_at m 39) (am_mg_11 36 (by decide))).trans (by decide +kernel)
theorem at_587_0 : am_at (am_m 587) 0 = some (.aload_n 0, 0) := (congrArg (fun m => am_at m 0) (am_mg_11 37 (by decide))).trans (by decide +kernel)
theorem at_587_1 : am_at (am_m 587) 1 = some (.aload_n 0, 0) := (congrArg (fun m => am_at m 1) (am_mg_11 37 (by decide))).trans (by decide +kernel)
theorem at_587_2 : am_at (am_m 587) 2 = some (.iload_n 1, 0) := (congrArg (fun m => am_at m 2) (am_mg_11 37 (by decide))).trans (by decide +kernel)
theorem at_587_3 : am_at (am_m 587) 3 = some (.invokevirtual 1123, 586) := (congrArg (fun m => am_at m 3) (am_mg_11 37 (by decide))).trans (by decide +kernel)
theorem at_587_6 : am_at (am_m 587) 6 = some (.putfield 292, 3072) := (congrArg (fun m => am_at m 6) (am_mg_11 37 (by decide))).trans (by decide +kernel)
theorem at_587_9 : am_at (am_m 587) 9 = some (.aload_n 0, 0) := (congrArg (fun m => am_at m 9) (am_mg_11 37 (by decide))).trans (by decide +kernel)
theorem at_587_10 : am_at (am_m 587) 10 = some (.getfield 292, 3072) := (congrArg (fun m => am_at m 10) (am_mg_11 37 (by decide))).trans (by decide +kernel)
theorem at_587_13 : am_at (am_m 587) 13 = some (.ifCond .le 5, 18) := (congrArg (fun m => am_at m 13) (am_mg_11 37 (by decide))).trans (by decide +kernel)
theorem at_587_16 : am_at (am_m 587) 16 = some (.iconst 0, 0) := (congrArg (fun m => am_at m 16) (am_mg_11 37 (by decide))).trans (by decide +kernel)
theorem at_587_17 : am_at (am_m 587) 17 = some (.ireturn, 0) := (congrArg (fun m => am_at m 17) (am_mg_11 37 (by decide))).trans (by decide +kernel)
theorem at_587_18 : am_at (am_m 587) 18 = some (.aload_n 0, 0) := (congrArg (fun m => am_at m 18) (am_mg_11 37 (by decide))).trans (by decide +kernel)
theorem at_587_19 : am_at (am_m 587) 19 = some (.iload_n 1, 0) := (congrArg (fun m => am_at m 19) (am_mg_11 37 (by decide))).trans (by decide +kernel)
theorem at_587_20 : am_at (am_m 587) 20 = some (.invokevirtual 571, 359) := (congrArg (fun m => am_at m 20) (am_mg_11 37 (by decide))).trans (by decide +kernel)
theorem at_587_23 : am_at (am_m 587) 23 = some (.iconst 0, 0) := (congrArg (fun m => am_at m 23) (am_mg_11 37 (by decide))).trans (by decide +kernel)
theorem at_587_24 : am_at (am_m 587) 24 = some (.istore_n 2, 0) := (congrArg (fun m => am_at m 24) (am_mg_11 37 (by decide))).trans (by decide +kernel)
theorem at_587_25 : am_at (am_m 587) 25 = some (.iload_n 2, 0) := (congrArg (fun m => am_at m 25) (am_mg_11 37 (by decide))).trans (by decide +kernel)
theorem at_587_26 : am_at (am_m 587) 26 = some (.iconst 1, 0) := (congrArg (fun m => am_at m 26) (am_mg_11 37 (by decide))).trans (by decide +kernel)
theorem at_587_27 : am_at (am_m 587) 27 = some (.aload_n 0, 0) := (congrArg (fun m => am_at m 27) (am_mg_11 37 (by decide))).trans (by decide +kernel)
theorem at_587_28 : am_at (am_m 587) 28 = some (.getfield 309, 3087) := (congrArg (fun m => am_at m 28) (am_mg_11 37 (by decide))).trans (by decide +kernel)
theorem at_587_31 : am_at (am_m 587) 31 = some (.ishl, 0) := (congrArg (fun m => am_at m 31) (am_mg_11 37 (by decide))).trans (by decide +kernel)
theorem at_587_32 : am_at (am_m 587) 32 = some (.if_icmp .ge 72, 104) := (congrArg (fun m => am_at m 32) (am_mg_11 37 (by decide))).trans (by decide +kernel)
theorem at_587_35 : am_at (am_m 587) 35 = some (.aload_n 0, 0) := (congrArg (fun m => am_at m 35) (am_mg_11 37 (by decide))).trans (by decide +kernel)
theorem at_587_36 : am_at (am_m 587) 36 = some (.iload_n 2, 0) := (congrArg (fun m => am_at m 36) (am_mg_11 37 (by decide))).trans (by decide +kernel)
theorem at_587_37 : am_at (am_m 587) 37 = some (.invokevirtual 1083, 571) := (congrArg (fun m => am_at m 37) (am_mg_11 37 (by decide))).trans (by decide +kernel)
theorem at_587_40 : am_at (am_m 587) 40 = some (.istore_n 3, 0) := (congrArg (fun m => am_at m 40) (am_mg_11 37 (by decide))).trans (by decide +kernel)
theorem at_587_41 : am_at (am_m 587) 41 = some (.iconst 1, 0) := (congrArg (fun m => am_at m 41) (am_mg_11 37 (by decide))).trans (by decide +kernel)
theorem at_587_42 : am_at (am_m 587) 42 = some (.istore 4, 0) := (congrArg (fun m => am_at m 42) (am_mg_11 37 (by decide))).trans (by decide +kernel)
theorem at_587_44 : am_at (am_m 587) 44 = some (.iconst 1, 0) := (congrArg (fun m => am_at m 44) (am_mg_11 37 (by decide))).trans (by decide +kernel)
theorem at_587_45 : am_at (am_m 587) 45 = some (.istore 5, 0) := (congrArg (fun m => am_at m 45) (am_mg_11 37 (by decide))).trans (by decide +kernel)
theorem at_587_47 : am_at (am_m 587) 47 = some (.iload 5, 0) := (congrArg (fun m => am_at m 47) (am_mg_11 37 (by decide))).trans (by decide +kernel)
theorem at_587_49 : am_at (am_m 587) 49 = some (.aload_n 0, 0) := (congrArg (fun m => am_at m 49) (am_mg_11 37 (by decide))).trans (by decide +kernel)
theorem at_587_50 : am_at (am_m 587) 50 = some (.getfield 309, 3087) := (congrArg (fun m => am_at m 50) (am_mg_11 37 (by decide))).trans (by decide +kernel)
theorem at_587_53 : am_at (am_m 587) 53 = some (.if_icmp .ge 38, 91) := (congrArg (fun m => am_at m 53) (am_mg_11 37 (by decide))).trans (by decide +kernel)
theorem at_587_56 : am_at (am_m 587) 56 = some (.iload 4, 0) := (congrArg (fun m => am_at m 56) (am_mg_11 37 (by decide))).trans (by decide +kernel)
theorem at_587_58 : am_at (am_m 587) 58 = some (.ifCond .eq 24, 82) := (congrArg (fun m => am_at m 58) (am_mg_11 37 (by decide))).trans (by decide +kernel)
theorem at_587_61 : am_at (am_m 587) 61 = some (.iload_n 3, 0) := (congrArg (fun m => am_at m 61) (am_mg_11 37 (by decide))).trans (by decide +kernel)
theorem at_587_62 : am_at (am_m 587) 62 = some (.iload 5, 0) := (congrArg (fun m => am_at m 62) (am_mg_11 37 (by decide))).trans (by decide +kernel)
theorem at_587_64 : am_at (am_m 587) 64 = some (.iconst 1, 0) := (congrArg (fun m => am_at m 64) (am_mg_11 37 (by decide))).trans (by decide +kernel)
theorem at_587_65 : am_at (am_m 587) 65 = some (.isub, 0) := (congrArg (fun m => am_at m 65) (am_mg_11 37 (by decide))).trans (by decide +kernel)
theorem at_587_66 : am_at (am_m 587) 66 = some (.ishr, 0) := (congrArg (fun m => am_at m 66) (am_mg_11 37 (by decide))).trans (by decide +kernel)
theorem at_587_67 : am_at (am_m 587) 67 = some (.iconst 1, 0) := (congrArg (fun m => am_at m 67) (am_mg_11 37 (by decide))).trans (by decide +kernel)
theorem at_587_68 : am_at (am_m 587) 68 = some (.iand, 0) := (congrArg (fun m => am_at m 68) (am_mg_11 37 (by decide))).trans (by decide +kernel)
theorem at_587_69 : am_at (am_m 587) 69 = some (.iload_n 3, 0) := (congrArg (fun m => am_at m 69) (am_mg_11 37 (by decide))).trans (by decide +kernel)
theorem at_587_70 : am_at (am_m 587) 70 = some (.iload 5, 0) := (congrArg (fun m => am_at m 70) (am_mg_11 37 (by decide))).trans (by decide +kernel)
theorem at_587_72 : am_at (am_m 587) 72 = some (.ishr, 0) := (congrArg (fun m => am_at m 72) (am_mg_11 37 (by decide))).trans (by decide +kernel)
theorem at_587_73 : am_at (am_m 587) 73 = some (.iconst 1, 0) := (congrArg (fun m => am_at m 73) (am_mg_11 37 (by decide))).trans (by decide +kernel)
theorem at_587_74 : am_at (am_m 587) 74 = some (.iand, 0) := (congrArg (fun m => am_at m 74) (am_mg_11 37 (by decide))).trans (by decide +kernel)
theorem at_587_75 : am_at (am_m 587) 75 = some (.if_icmp .gt 7, 82) := (congrArg (fun m => am_at m 75) (am_mg_11 37 (by decide))).trans (by decide +kernel)
theorem at_587_78 : am_at (am_m 587) 78 = some (.iconst 1, 0) := (congrArg (fun m => am_at m 78) (am_mg_11 37 (by decide))).trans (by decide +kernel)
theorem at_587_79 : am_at (am_m 587) 79 = some (.goto 4, 83) := (congrArg (fun m => am_at m 79) (am_mg_11 37 (by decide))).trans (by decide +kernel)
theorem at_587_82 : am_at (am_m 587) 82 = some (.iconst 0, 0) := (congrArg (fun m => am_at m 82) (am_mg_11 37 (by decide))).trans (by decide +kernel)
theorem at_587_83 : am_at (am_m 587) 83 = some (.istore 4, 0) := (congrArg (fun m => am_at m 83) (am_mg_11 37 (by decide))).trans (by decide +kernel)
theorem at_587_85 : am_at (am_m 587) 85 = some (.iinc 5 1, 0) := (congrArg (fun m => am_at m 85) (am_mg_11 37 (by decide))).trans (by decide +kernel)
theorem at_587_88 : am_at (am_m 587) 88 = some (.goto (-41), 47) := (congrArg (fun m => am_at m 88) (am_mg_11 37 (by decide))).trans (by decide +kernel)
theorem at_587_91 : am_at (am_m 587) 91 = some (.iload 4, 0) := (congrArg (fun m => am_at m 91) (am_mg_11 37 (by decide))).trans (by decide +kernel)
theorem at_587_93 : am_at (am_m 587) 93 = some (.ifCond .ne 5, 98) := (congrArg (fun m => am_at m 93) (am_mg_11 37 (by decide))).trans (by decide +kernel)
theorem at_587_96 : am_at (am_m 587) 96 = some (.iload_n 2, 0) := (congrArg (fun m => am_at m 96) (am_mg_11 37 (by decide))).trans (by decide +kernel)
theorem at_587_97 : am_at (am_m 587) 97 = some (.ireturn, 0) := (congrArg (fun m => am_at m 97) (am_mg_11 37 (by decide))).trans (by decide +kernel)
theorem at_587_98 : am_at (am_m 587) 98 = some (.iinc 2 1, 0) := (congrArg (fun m => am_at m 98) (am_mg_11 37 (by decide))).trans (by decide +kernel)
theorem at_587_101 : am_at (am_m 587) 101 = some (.goto (-76), 25) := (congrArg (fun m => am_at m 101) (am_mg_11 37 (by decide))).trans (by decide +kernel)
theorem at_587_104 : am_at (am_m 587) 104 = some (.iconst (-1), 0) := (congrArg (fun m => am_at m 104) (am_mg_11 37 (by decide))).trans (by decide +kernel)
theorem at_587_105 : am_at (am_m 587) 105 = some (.ireturn, 0) := (congrArg (fun m => am_at m 105) (am_mg_11 37 (by decide))).trans (by decide +kernel)
theorem at_588_0 : am_at (am_m 588) 0 = some (.aload_n 0, 0) := (congrArg (fun m => am_at m 0) (am_mg_11 38 (by decide))).trans (by decide +kernel)
theorem at_588_1 : am_at (am_m 588) 1 = some (.aload_n 0, 0) := (congrArg (fun m => am_at m 1) (am_mg_11 38 (by decide))).trans (by decide +kernel)
theorem at_588_2 : am_at (am_m 588) 2 = some (.iload_n 1, 0) := (congrArg (fun m => am_at m 2) (am_mg_11 38 (by decide))).trans (by decide +kernel)
theorem at_588_3 : am_at (am_m 588) 3 = some (.invokevirtual 1123, 586) := (congrArg (fun m => am_at m 3) (am_mg_11 38 (by decide))).trans (by decide +kernel)
theorem at_588_6 : am_at (am_m 588) 6 = some (.putfield 292, 3072) := (congrArg (fun m => am_at m 6) (am_mg_11 38 (by decide))).trans (by decide +kernel)
theorem at_588_9 : am_at (am_m 588) 9 = some (.aload_n 0, 0) := (congrArg (fun m => am_at m 9) (am_mg_11 38 (by decide))).trans (by decide +kernel)
theorem at_588_10 : am_at (am_m 588) 10 = some (.getfield 292, 3072) := (congrArg (fun m => am_at m 10) (am_mg_11 38 (by decide))).trans (by decide +kernel)
theorem at_588_13 : am_at (am_m 588) 13 = some (.ifCond .le 5, 18) := (congrArg (fun m => am_at m 13) (am_mg_11 38 (by decide))).trans (by decide +kernel)
theorem at_588_16 : am_at (am_m 588) 16 = some (.iconst 0, 0) := (congrArg (fun m => am_at m 16) (am_mg_11 38 (by decide))).trans (by decide +kernel)
theorem at_588_17 : am_at (am_m 588) 17 = some (.ireturn, 0) := (congrArg (fun m => am_at m 17) (am_mg_11 38 (by decide))).trans (by decide +kernel)
theorem at_588_18 : am_at (am_m 588) 18 = some (.aload_n 0, 0) := (congrArg (fun m => am_at m 18) (am_mg_11 38 (by decide))).trans (by decide +kernel)
theorem at_588_19 : am_at (am_m 588) 19 = some (.iload_n 1, 0) := (congrArg (fun m => am_at m 19) (am_mg_11 38 (by decide))).trans (by decide +kernel)
theorem at_588_20 : am_at (am_m 588) 20 = some (.invokevirtual 571, 359) := (congrArg (fun m => am_at m 20) (am_mg_11 38 (by decide))).trans (by decide +kernel)
theorem at_588_23 : am_at (am_m 588) 23 = some (.iconst 0, 0) := (congrArg (fun m => am_at m 23) (am_mg_11 38 (by decide))).trans (by decide +kernel)
theorem at_588_24 : am_at (am_m 588) 24 = some (.istore_n 2, 0) := (congrArg (fun m => am_at m 24) (am_mg_11 38 (by decide))).trans (by decide +kernel)
theorem at_588_25 : am_at (am_m 588) 25 = some (.iload_n 2, 0) := (congrArg (fun m => am_at m 25) (am_mg_11 38 (by decide))).trans (by decide +kernel)
theorem at_588_26 : am_at (am_m 588) 26 = some (.bipush 8, 0) := (congrArg (fun m => am_at m 26) (am_mg_11 38 (by decide))).trans (by decide +kernel)
theorem at_588_28 : am_at (am_m 588) 28 = some (.if_icmp .ge 16, 44) := (congrArg (fun m => am_at m 28) (am_mg_11 38 (by decide))).trans (by decide +kernel)
theorem at_588_31 : am_at (am_m 588) 31 = some (.aload_n 0, 0) := (congrArg (fun m => am_at m 31) (am_mg_11 38 (by decide))).trans (by decide +kernel)
theorem at_588_32 : am_at (am_m 588) 32 = some (.getfield 289, 3209) := (congrArg (fun m => am_at m 32) (am_mg_11 38 (by decide))).trans (by decide +kernel)
theorem at_588_35 : am_at (am_m 588) 35 = some (.iload_n 2, 0) := (congrArg (fun m => am_at m 35) (am_mg_11 38 (by decide))).trans (by decide +kernel)
theorem at_588_36 : am_at (am_m 588) 36 = some (.iconst 0, 0) := (congrArg (fun m => am_at m 36) (am_mg_11 38 (by decide))).trans (by decide +kernel)
theorem at_588_37 : am_at (am_m 588) 37 = some (.iastore, 0) := (congrArg (fun m => am_at m 37) (am_mg_11 38 (by decide))).trans (by decide +kernel)
theorem at_588_38 : am_at (am_m 588) 38 = some (.iinc 2 1, 0) := (congrArg (fun m => am_at m 38) (am_mg_11 38 (by decide))).trans (by decide +kernel)
theorem at_588_41 : am_at (am_m 588) 41 = some (.goto (-16), 25) := (congrArg (fun m => am_at m 41) (am_mg_11 38 (by decide))).trans (by decide +kernel)
theorem at_588_44 : am_at (am_m 588) 44 = some (.iconst 0, 0) := (congrArg (fun m => am_at m 44) (am_mg_11 38 (by decide))).trans (by decide +kernel)
theorem at_588_45 : am_at (am_m 588) 45 = some (.istore_n 2, 0) := (congrArg (fun m => am_at m 45) (am_mg_11 38 (by decide))).trans (by decide +kernel)
theorem at_588_46 : am_at (am_m 588) 46 = some (.iconst 0, 0) := (congrArg (fun m => am_at m 46) (am_mg_11 38 (by decide))).trans (by decide +kernel)
theorem at_588_47 : am_at (am_m 588) 47 = some (.istore_n 3, 0) := (congrArg (fun m => am_at m 47) (am_mg_11 38 (by decide))).trans (by decide +kernel)
theorem at_588_48 : am_at (am_m 588) 48 = some (.iload_n 3, 0) := (congrArg (fun m => am_at m 48) (am_mg_11 38 (by decide))).trans (by decide +kernel)
theorem at_588_49 : am_at (am_m 588) 49 = some (.aload_n 0, 0) := (congrArg (fun m => am_at m 49) (am_mg_11 38 (by decide))).trans (by decide +kernel)
theorem at_588_50 : am_at (am_m 588) 50 = some (.getfield 306, 3086) := (congrArg (fun m => am_at m 50) (am_mg_11 38 (by decide))).trans (by decide +kernel)
theorem at_588_53 : am_at (am_m 588) 53 = some (.if_icmp .ge 108, 161) := (congrArg (fun m => am_at m 53) (am_mg_11 38 (by decide))).trans (by decide +kernel)
theorem at_588_56 : am_at (am_m 588) 56 = some (.aload_n 0, 0) := (congrArg (fun m => am_at m 56) (am_mg_11 38 (by decide))).trans (by decide +kernel)
theorem at_588_57 : am_at (am_m 588) 57 = some (.getfield 289, 3209) := (congrArg (fun m => am_at m 57) (am_mg_11 38 (by decide))).trans (by decide +kernel)
theorem at_588_60 : am_at (am_m 588) 60 = some (.aload_n 0, 0) := (congrArg (fun m => am_at m 60) (am_mg_11 38 (by decide))).trans (by decide +kernel)
theorem at_588_61 : am_at (am_m 588) 61 = some (.getfield 45, 3088) := (congrArg (fun m => am_at m 61) (am_mg_11 38 (by decide))).trans (by decide +kernel)
theorem at_588_64 : am_at (am_m 588) 64 = some (.iload_n 3, 0) := (congrArg (fun m => am_at m 64) (am_mg_11 38 (by decide))).trans (by decide +kernel)
theorem at_588_65 : am_at (am_m 588) 65 = some (.iaload, 0) := (congrArg (fun m => am_at m 65) (am_mg_11 38 (by decide))).trans (by decide +kernel)
theorem at_588_66 : am_at (am_m 588) 66 = some (.iaload, 0) := (congrArg (fun m => am_at m 66) (am_mg_11 38 (by decide))).trans (by decide +kernel)
theorem at_588_67 : am_at (am_m 588) 67 = some (.aload_n 0, 0) := (congrArg (fun m => am_at m 67) (am_mg_11 38 (by decide))).trans (by decide +kernel)
theorem at_588_68 : am_at (am_m 588) 68 = some (.getfield 289, 3209) := (congrArg (fun m => am_at m 68) (am_mg_11 38 (by decide))).trans (by decide +kernel)
theorem at_588_71 : am_at (am_m 588) 71 = some (.aload_n 0, 0) := (congrArg (fun m => am_at m 71) (am_mg_11 38 (by decide))).trans (by decide +kernel)
theorem at_588_72 : am_at (am_m 588) 72 = some (.getfield 48, 3089) := (congrArg (fun m => am_at m 72) (am_mg_11 38 (by decide))).trans (by decide +kernel)
theorem at_588_75 : am_at (am_m 588) 75 = some (.iload_n 3, 0) := (congrArg (fun m => am_at m 75) (am_mg_11 38 (by decide))).trans (by decide +kernel)
theorem at_588_76 : am_at (am_m 588) 76 = some (.iaload, 0) := (congrArg (fun m => am_at m 76) (am_mg_11 38 (by decide))).trans (by decide +kernel)
theorem at_588_77 : am_at (am_m 588) 77 = some (.iaload, 0) := (congrArg (fun m => am_at m 77) (am_mg_11 38 (by decide))).trans (by decide +kernel)
theorem at_588_78 : am_at (am_m 588) 78 = some (.if_icmp .le 17, 95) := (congrArg (fun m => am_at m 78) (am_mg_11 38 (by decide))).trans (by decide +kernel)
theorem at_588_81 : am_at (am_m 588) 81 = some (.aload_n 0, 0) := (congrArg (fun m => am_at m 81) (am_mg_11 38 (by decide))).trans (by decide +kernel)
theorem at_588_82 : am_at (am_m 588) 82 = some (.getfield 289, 3209) := (congrArg (fun m => am_at m 82) (am_mg_11 38 (by decide))).trans (by decide +kernel)
theorem at_588_85 : am_at (am_m 588) 85 = some (.aload_n 0, 0) := (congrArg (fun m => am_at m 85) (am_mg_11 38 (by decide))).trans (by decide +kernel)
theorem at_588_86 : am_at (am_m 588) 86 = some (.getfield 45, 3088) := (congrArg (fun m => am_at m 86) (am_mg_11 38 (by decide))).trans (by decide +kernel)
theorem at_588_89 : am_at (am_m 588) 89 = some (.iload_n 3, 0) := (congrArg (fun m => am_at m 89) (am_mg_11 38 (by decide))).trans (by decide +kernel)
theorem at_588_90 : am_at (am_m 588) 90 = some (.iaload, 0) := (congrArg (fun m => am_at m 90) (am_mg_11 38 (by decide))).trans (by decide +kernel)
theorem at_588_91 : am_at (am_m 588) 91 = some (.iaload, 0) := (congrArg (fun m => am_at m 91) (am_mg_11 38 (by decide))).trans (by decide +kernel)
theorem at_588_92 : am_at (am_m 588) 92 = some (.goto 14, 106) := (congrArg (fun m => am_at m 92) (am_mg_11 38 (by decide))).trans (by decide +kernel)
theorem at_588_95 : am_at (am_m 588) 95 = some (.aload_n 0, 0) := (congrArg (fun m => am_at m 95) (am_mg_11 38 (by decide))).trans (by decide +kernel)
theorem at_588_96 : am_at (am_m 588) 96 = some (.getfield 289, 3209) := (congrArg (fun m => am_at m 96) (am_mg_11 38 (by decide))).trans (by decide +kernel)
theorem at_588_99 : am_at (am_m 588) 99 = some (.aload_n 0, 0) := (congrArg (fun m => am_at m 99) (am_mg_11 38 (by decide))).trans (by decide +kernel)
theorem at_588_100 : am_at (am_m 588) 100 = some (.getfield 48, 3089) := (congrArg (fun m => am_at m 100) (am_mg_11 38 (by decide))).trans (by decide +kernel)
theorem at_588_103 : am_at (am_m 588) 103 = some (.iload_n 3, 0) := (congrArg (fun m => am_at m 103) (am_mg_11 38 (by decide))).trans (by decide +kernel)
theorem at_588_104 : am_at (am_m 588) 104 = some (.iaload, 0) := (congrArg (fun m => am_at m 104) (am_mg_11 38 (by decide))).trans (by decide +kernel)
theorem at_588_105 : am_at (am_m 588) 105 = some (.iaload, 0) := (congrArg (fun m => am_at m 105) (am_mg_11 38 (by decide))).trans (by decide +kernel)
theorem at_588_106 : am_at (am_m 588) 106 = some (.istore 4, 0) := (congrArg (fun m => am_at m 106) (am_mg_11 38 (by decide))).trans (by decide +kernel)
theorem at_588_108 : am_at (am_m 588) 108 = some (.aload_n 0, 0) := (congrArg (fun m => am_at m 108) (am_mg_11 38 (by decide))).trans (by decide +kernel)
theorem at_588_109 : am_at (am_m 588) 109 = some (.getfield 289, 3209) := (congrArg (fun m => am_at m 109) (am_mg_11 38 (by decide))).trans (by decide +kernel)
theorem at_588_112 : am_at (am_m 588) 112 = some (.aload_n 0, 0) := (congrArg (fun m => am_at m 112) (am_mg_11 38 (by decide))).trans (by decide +kernel)
theorem at_588_113 : am_at (am_m 588) 113 = some (.getfield 45, 3088) := (congrArg (fun m => am_at m 113) (am_mg_11 38 (by decide))).trans (by decide +kernel)
theorem at_588_116 : am_at (am_m 588) 116 = some (.iload_n 3, 0) := (congrArg (fun m => am_at m 116) (am_mg_11 38 (by decide))).trans (by decide +kernel)
theorem at_588_117 : am_at (am_m 588) 117 = some (.iaload, 0) := (congrArg (fun m => am_at m 117) (am_mg_11 38 (by decide))).trans (by decide +kernel)
theorem at_588_118 : am_at (am_m 588) 118 = some (.iload 4, 0) := (congrArg (fun m => am_at m 118) (am_mg_11 38 (by decide))).trans (by decide +kernel)
theorem at_588_120 : am_at (am_m 588) 120 = some (.iconst 1, 0) := (congrArg (fun m => am_at m 120) (am_mg_11 38 (by decide))).trans (by decide +kernel)
theorem at_588_121 : am_at (am_m 588) 121 = some (.iadd, 0) := (congrArg (fun m => am_at m 121) (am_mg_11 38 (by decide))).trans (by decide +kernel)
theorem at_588_122 : am_at (am_m 588) 122 = some (.iastore, 0) := (congrArg (fun m => am_at m 122) (am_mg_11 38 (by decide))).trans (by decide +kernel)
theorem at_588_123 : am_at (am_m 588) 123 = some (.aload_n 0, 0) := (congrArg (fun m => am_at m 123) (am_mg_11 38 (by decide))).trans (by decide +kernel)
theorem at_588_124 : am_at (am_m 588) 124 = some (.getfield 289, 3209) := (congrArg (fun m => am_at m 124) (am_mg_11 38 (by decide))).trans (by decide +kernel)
theorem at_588_127 : am_at (am_m 588) 127 = some (.aload_n 0, 0) := (congrArg (fun m => am_at m 127) (am_mg_11 38 (by decide))).trans (by decide +kernel)
theorem at_588_128 : am_at (am_m 588) 128 = some (.getfield 48, 3089) := (congrArg (fun m => am_at m 128) (am_mg_11 38 (by decide))).trans (by decide +kernel)
theorem at_588_131 : am_at (am_m 588) 131 = some (.iload_n 3, 0) := (congrArg (fun m => am_at m 131) (am_mg_11 38 (by decide))).trans (by decide +kernel)
theorem at_588_132 : am_at (am_m 588) 132 = some (.iaload, 0) := (congrArg (fun m => am_at m 132) (am_mg_11 38 (by decide))).trans (by decide +kernel)
theorem at_588_133 : am_at (am_m 588) 133 = some (.iload 4, 0) := (congrArg (fun m => am_at m 133) (am_mg_11 38 (by decide))).trans (by decide +kernel)
theorem at_588_135 : am_at (am_m 588) 135 = some (.iconst 1, 0) := (congrArg (fun m => am_at m 135) (am_mg_11 38 (by decide))).trans (by decide +kernel)
theorem at_588_136 : am_at (am_m 588) 136 = some (.iadd, 0) := (congrArg (fun m => am_at m 136) (am_mg_11 38 (by decide))).trans (by decide +kernel)
theorem at_588_137 : am_at (am_m 588) 137 = some (.iastore, 0) := (congrArg (fun m => am_at m 137) (am_mg_11 38 (by decide))).trans (by decide +kernel)
theorem at_588_138 : am_at (am_m 588) 138 = some (.iload 4, 0) := (congrArg (fun m => am_at m 138) (am_mg_11 38 (by decide))).trans (by decide +kernel)
theorem at_588_140 : am_at (am_m 588) 140 = some (.iconst 1, 0) := (congrArg (fun m => am_at m 140) (am_mg_11 38 (by decide))).trans (by decide +kernel)
theorem at_588_141 : am_at (am_m 588) 141 = some (.iadd, 0) := (congrArg (fun m => am_at m 141) (am_mg_11 38 (by decide))).trans (by decide +kernel)
theorem at_588_142 : am_at (am_m 588) 142 = some (.iload_n 2, 0) := (congrArg (fun m => am_at m 142) (am_mg_11 38 (by decide))).trans (by decide +kernel)
theorem at_588_143 : am_at (am_m 588) 143 = some (.if_icmp .le 10, 153) := (congrArg (fun m => am_at m 143) (am_mg_11 38 (by decide))).trans (by decide +kernel)
theorem at_588_146 : am_at (am_m 588) 146 = some (.iload 4, 0) := (congrArg (fun m => am_at m 146) (am_mg_11 38 (by decide))).trans (by decide +kernel)
theorem at_588_148 : am_at (am_m 588) 148 = some (.iconst 1, 0) := (congrArg (fun m => am_at m 148) (am_mg_11 38 (by decide))).trans (by decide +kernel)
theorem at_588_149 : am_at (am_m 588) 149 = some (.iadd, 0) := (congrArg (fun m => am_at m 149) (am_mg_11 38 (by decide))).trans (by decide +kernel)
theorem at_588_150 : am_at (am_m 588) 150 = some (.goto 4, 154) := (congrArg (fun m => am_at m 150) (am_mg_11 38 (by decide))).trans (by decide +kernel)
theorem at_588_153 : am_at (am_m 588) 153 = some (.iload_n 2, 0) := (congrArg (fun m => am_at m 153) (am_mg_11 38 (by decide))).trans (by decide +kernel)
theorem at_588_154 : am_at (am_m 588) 154 = some (.istore_n 2, 0) := (congrArg (fun m => am_at m 154) (am_mg_11 38 (by decide))).trans (by decide +kernel)
theorem at_588_155 : am_at (am_m 588) 155 = some (.iinc 3 1, 0) := (congrArg (fun m => am_at m 155) (am_mg_11 38 (by decide))).trans (by decide +kernel)
theorem at_588_158 : am_at (am_m 588) 158 = some (.goto (-110), 48) := (congrArg (fun m => am_at m 158) (am_mg_11 38 (by decide))).trans (by decide +kernel)
theorem at_588_161 : am_at (am_m 588) 161 = some (.iload_n 2, 0) := (congrArg (fun m => am_at m 161) (am_mg_11 38 (by decide))).trans (by decide +kernel)
theorem at_588_162 : am_at (am_m 588) 162 = some (.ireturn, 0) := (congrArg (fun m => am_at m 162) (am_mg_11 38 (by decide))).trans (by decide +kernel)
theorem mi_1 : am_mi 1 = (1, 2, 11, 1) := by decide +kernel
theorem mi_2 : am_mi 2 = (1, 2, 9, 1) := by decide +kernel
theorem mi_3 : am_mi 3 = (1, 2, 7, 1) := by decide +kernel
theorem mi_4 : am_mi 4 = (1, 2, 2, 1) := by decide +kernel
theorem mi_5 : am_mi 5 = (1, 2, 6, 1) := by decide +kernel
theorem mi_6 : am_mi 6 = (1, 2, 1, 1) := by decide +kernel
theorem mi_7 : am_mi 7 = (1, 2, 8, 1) := by decide +kernel
theorem mi_8 : am_mi 8 = (1, 2, 4, 5) := by decide +kernel
theorem mi_9 : am_mi 9 = (4, 1, 4, 9) := by decide +kernel
theorem mi_10 : am_mi 10 = (2, 0, 4, 3) := by decide +kernel
theorem mi_11 : am_mi 11 = (1, 0, 11, 1) := by decide +kernel
theorem mi_12 : am_mi 12 = (3, 0, 4, 4) := by decide +kernel
theorem mi_13 : am_mi 13 = (2, 0, 11, 2) := by decide +kernel
theorem mi_14 : am_mi 14 = (1, 0, 11, 1) := by decide +kernel
theorem mi_15 : am_mi 15 = (3, 1, 4, 3) := by decide +kernel
theorem mi_16 : am_mi 16 = (4, 1, 4, 7) := by decide +kernel
theorem mi_17 : am_mi 17 = (1, 2, 0, 1) := by decide +kernel
theorem mi_18 : am_mi 18 = (2, 2, 3, 2) := by decide +kernel
theorem mi_19 : am_mi 19 = (1, 2, 5, 1) := by decide +kernel
theorem mi_20 : am_mi 20 = (1, 2, 10, 2) := by decide +kernel
theorem mi_21 : am_mi 21 = (2, 1, 11, 3) := by decide +kernel
theorem mi_22 : am_mi 22 = (2, 1, 9, 5) := by decide +kernel
theorem mi_23 : am_mi 23 = (1, 1, 11, 1) := by decide +kernel
theorem mi_24 : am_mi 24 = (2, 1, 11, 3) := by decide +kernel
theorem mi_25 : am_mi 25 = (1, 1, 11, 1) := by decide +kernel
theorem mi_26 : am_mi 26 = (1, 1, 11, 1) := by decide +kernel
theorem mi_27 : am_mi 27 = (1, 1, 11, 1) := by decide +kernel
theorem mi_28 : am_mi 28 = (1, 1, 11, 1) := by decide +kernel
theorem mi_29 : am_mi 29 = (3, 1, 11, 3) := by decide +kernel
theorem mi_30 : am_mi 30 = (3, 0, 13, 4) := by decide +kernel
theorem mi_31 : am_mi 31 = (2, 1, 11, 3) := by decide +kernel
theorem mi_32 : am_mi 32 = (2, 1, 11, 2) := by decide +kernel
theorem mi_33 : am_mi 33 = (3, 1, 9, 4) := by decide +kernel
theorem mi_34 : am_mi 34 = (3, 1, 3, 3) := by decide +kernel
theorem mi_35 : am_mi 35 = (4, 1, 9, 6) := by decide +kernel
theorem mi_36 : am_mi 36 = (1, 1, 9, 1) := by decide +kernel
theorem mi_37 : am_mi 37 = (2, 0, 14, 2) := by decide +kernel
theorem mi_38 : am_mi 38 = (2, 0, 14, 2) := by decide +kernel
theorem mi_39 : am_mi 39 = (1, 1, 9, 1) := by decide +kernel
theorem mi_40 : am_mi 40 = (4, 1, 9, 7) := by decide +kernel
theorem mi_41 : am_mi 41 = (3, 1, 3, 5) := by decide +kernel
theorem mi_42 : am_mi 42 = (2, 1, 9, 2) := by decide +kernel
theorem mi_43 : am_mi 43 = (1, 1, 9, 3) := by decide +kernel
theorem mi_44 : am_mi 44 = (1, 1, 9, 3) := by decide +kernel
theorem mi_45 : am_mi 45 = (1, 0, 9, 1) := by decide +kernel
theorem mi_46 : am_mi 46 = (1, 1, 9, 4) := by decide +kernel
theorem mi_47 : am_mi 47 = (3, 1, 9, 4) := by decide +kernel
theorem mi_48 : am_mi 48 = (2, 1, 9, 4) := by decide +kernel
theorem mi_49 : am_mi 49 = (1, 1, 9, 4) := by decide +kernel
theorem mi_50 : am_mi 50 = (2, 1, 9, 3) := by decide +kernel
theorem mi_51 : am_mi 51 = (4, 1, 3, 4) := by decide +kernel
theorem mi_52 : am_mi 52 = (2, 1, 7, 5) := by decide +kernel
theorem mi_53 : am_mi 53 = (2, 0, 17, 4) := by decide +kernel
theorem mi_54 : am_mi 54 = (3, 1, 3, 3) := by decide +kernel
theorem mi_55 : am_mi 55 = (1, 0, 7, 1) := by decide +kernel
theorem mi_56 : am_mi 56 = (1, 0, 7, 1) := by decide +kernel
theorem mi_57 : am_mi 57 = (3, 1, 7, 3) := by decide +kernel
theorem mi_58 : am_mi 58 = (1, 1, 9, 2) := by decide +kernel
theorem mi_59 : am_mi 59 = (8, 1, 11, 11) := by decide +kernel
theorem mi_60 : am_mi 60 = (2, 1, 3, 2) := by decide +kernel
theorem mi_61 : am_mi 61 = (3, 0, 13, 4) := by decide +kernel
theorem mi_62 : am_mi 62 = (2, 1, 11, 2) := by decide +kernel
theorem mi_63 : am_mi 63 = (2, 1, 11, 2) := by decide +kernel
theorem mi_64 : am_mi 64 = (2, 1, 9, 3) := by decide +kernel
theorem mi_65 : am_mi 65 = (3, 1, 9, 6) := by decide +kernel
theorem mi_66 : am_mi 66 = (2, 1, 9, 3) := by decide +kernel
theorem mi_67 : am_mi 67 = (1, 0, 14, 1) := by decide +kernel
theorem mi_68 : am_mi 68 = (2, 1, 9, 2) := by decide +kernel
theorem mi_69 : am_mi 69 = (3, 1, 9, 6) := by decide +kernel
theorem mi_70 : am_mi 70 = (4, 0, 13, 5) := by decide +kernel
theorem mi_71 : am_mi 71 = (3, 1, 11, 4) := by decide +kernel
theorem mi_72 : am_mi 72 = (2, 1, 9, 2) := by decide +kernel
theorem mi_73 : am_mi 73 = (4, 0, 13, 5) := by decide +kernel
theorem mi_74 : am_mi 74 = (3, 1, 11, 4) := by decide +kernel
theorem mi_75 : am_mi 75 = (2, 1, 10, 2) := by decide +kernel
theorem mi_76 : am_mi 76 = (2, 1, 7, 3) := by decide +kernel
theorem mi_77 : am_mi 77 = (2, 1, 7, 5) := by decide +kernel
theorem mi_78 : am_mi 78 = (3, 1, 7, 5) := by decide +kernel
theorem mi_79 : am_mi 79 = (3, 1, 7, 5) := by decide +kernel
theorem mi_80 : am_mi 80 = (3, 0, 13, 4) := by decide +kernel
theorem mi_81 : am_mi 81 = (2, 1, 11, 2) := by decide +kernel
theorem mi_82 : am_mi 82 = (5, 0, 13, 6) := by decide +kernel
theorem mi_83 : am_mi 83 = (4, 1, 11, 5) := by decide +kernel
theorem mi_84 : am_mi 84 = (4, 0, 13, 5) := by decide +kernel
theorem mi_85 : am_mi 85 = (3, 1, 11, 4) := by decide +kernel
theorem mi_86 : am_mi 86 = (2, 1, 3, 3) := by decide +kernel
theorem mi_87 : am_mi 87 = (3, 0, 13, 4) := by decide +kernel
theorem mi_88 : am_mi 88 = (2, 1, 11, 2) := by decide +kernel
theorem mi_89 : am_mi 89 = (4, 0, 13, 6) := by decide +kernel
theorem mi_90 : am_mi 90 = (3, 1, 11, 4) := by decide +kernel
theorem mi_91 : am_mi 91 = (5, 1, 4, 6) := by decide +kernel
theorem mi_92 : am_mi 92 = (5, 1, 4, 10) := by decide +kernel
theorem mi_93 : am_mi 93 = (4, 1, 4, 4) := by decide +kernel
theorem mi_94 : am_mi 94 = (6, 1, 4, 14) := by decide +kernel
theorem mi_95 : am_mi 95 = (6, 1, 4, 17) := by decide +kernel
theorem mi_96 : am_mi 96 = (3, 0, 13, 4) := by decide +kernel
theorem mi_97 : am_mi 97 = (2, 1, 11, 3) := by decide +kernel
theorem mi_98 : am_mi 98 = (2, 1, 4, 3) := by decide +kernel
theorem mi_99 : am_mi 99 = (4, 1, 4, 20) := by decide +kernel
theorem mi_100 : am_mi 100 = (2, 1, 7, 2) := by decide +kernel
theorem mi_101 : am_mi 101 = (5, 1, 4, 8) := by decide +kernel
theorem mi_102 : am_mi 102 = (6, 1, 4, 9) := by decide +kernel
theorem mi_103 : am_mi 103 = (8, 0, 13, 9) := by decide +kernel
theorem mi_104 : am_mi 104 = (7, 1, 11, 8) := by decide +kernel
theorem mi_105 : am_mi 105 = (2, 1, 2, 2) := by decide +kernel
theorem mi_106 : am_mi 106 = (3, 0, 13, 4) := by decide +kernel
theorem mi_107 : am_mi 107 = (2, 1, 11, 2) := by decide +kernel
theorem mi_108 : am_mi 108 = (2, 1, 11, 2) := by decide +kernel
theorem mi_109 : am_mi 109 = (2, 1, 2, 2) := by decide +kernel
theorem mi_110 : am_mi 110 = (4, 0, 13, 5) := by decide +kernel
theorem mi_111 : am_mi 111 = (3, 1, 11, 3) := by decide +kernel
theorem mi_112 : am_mi 112 = (3, 1, 2, 4) := by decide +kernel
theorem mi_113 : am_mi 113 = (4, 0, 13, 5) := by decide +kernel
theorem mi_114 : am_mi 114 = (3, 1, 11, 4) := by decide +kernel
theorem mi_115 : am_mi 115 = (2, 1, 6, 2) := by decide +kernel
theorem mi_116 : am_mi 116 = (3, 1, 6, 4) := by decide +kernel
theorem mi_117 : am_mi 117 = (3, 1, 6, 7) := by decide +kernel
theorem mi_118 : am_mi 118 = (1, 1, 6, 1) := by decide +kernel
theorem mi_119 : am_mi 119 = (3, 1, 6, 3) := by decide +kernel
theorem mi_120 : am_mi 120 = (3, 1, 6, 3) := by decide +kernel
theorem mi_121 : am_mi 121 = (4, 1, 6, 6) := by decide +kernel
theorem mi_122 : am_mi 122 = (4, 1, 6, 4) := by decide +kernel
theorem mi_123 : am_mi 123 = (1, 1, 6, 6) := by decide +kernel
theorem mi_124 : am_mi 124 = (1, 1, 6, 3) := by decide +kernel
theorem mi_125 : am_mi 125 = (2, 0, 14, 3) := by decide +kernel
theorem mi_126 : am_mi 126 = (1, 1, 6, 2) := by decide +kernel
theorem mi_127 : am_mi 127 = (3, 1, 6, 4) := by decide +kernel
theorem mi_128 : am_mi 128 = (1, 1, 11, 1) := by decide +kernel
theorem mi_129 : am_mi 129 = (6, 0, 13, 7) := by decide +kernel
theorem mi_130 : am_mi 130 = (5, 1, 11, 5) := by decide +kernel
theorem mi_131 : am_mi 131 = (4, 0, 13, 5) := by decide +kernel
theorem mi_132 : am_mi 132 = (3, 1, 11, 4) := by decide +kernel
theorem mi_133 : am_mi 133 = (2, 1, 2, 2) := by decide +kernel
theorem mi_134 : am_mi 134 = (2, 0, 2, 2) := by decide +kernel
theorem mi_135 : am_mi 135 = (1, 0, 14, 2) := by decide +kernel
theorem mi_136 : am_mi 136 = (2, 0, 14, 4) := by decide +kernel
theorem mi_137 : am_mi 137 = (5, 0, 13, 6) := by decide +kernel
theorem mi_138 : am_mi 138 = (4, 1, 11, 5) := by decide +kernel
theorem mi_139 : am_mi 139 = (2, 1, 11, 2) := by decide +kernel
theorem mi_140 : am_mi 140 = (3, 1, 2, 6) := by decide +kernel
theorem mi_141 : am_mi 141 = (3, 1, 2, 3) := by decide +kernel
theorem mi_142 : am_mi 142 = (2, 1, 2, 5) := by decide +kernel
theorem mi_143 : am_mi 143 = (3, 1, 2, 12) := by decide +kernel
theorem mi_144 : am_mi 144 = (2, 1, 2, 2) := by decide +kernel
theorem mi_145 : am_mi 145 = (4, 0, 13, 5) := by decide +kernel
theorem mi_146 : am_mi 146 = (3, 1, 11, 8) := by decide +kernel
theorem mi_147 : am_mi 147 = (4, 0, 13, 5) := by decide +kernel
theorem mi_148 : am_mi 148 = (3, 1, 11, 5) := by decide +kernel
theorem mi_149 : am_mi 149 = (4, 0, 13, 5) := by decide +kernel
theorem mi_150 : am_mi 150 = (3, 1, 11, 6) := by decide +kernel
theorem mi_151 : am_mi 151 = (2, 0, 16, 4) := by decide +kernel
theorem mi_152 : am_mi 152 = (2, 0, 15, 2) := by decide +kernel
theorem mi_153 : am_mi 153 = (4, 0, 13, 5) := by decide +kernel
theorem mi_154 : am_mi 154 = (3, 1, 11, 4) := by decide +kernel
theorem mi_155 : am_mi 155 = (2, 1, 2, 2) := by decide +kernel
theorem mi_156 : am_mi 156 = (4, 0, 13, 5) := by decide +kernel
theorem mi_157 : am_mi 157 = (3, 1, 11, 4) := by decide +kernel
theorem mi_158 : am_mi 158 = (2, 1, 11, 2) := by decide +kernel
theorem mi_159 : am_mi 159 = (4, 1, 0, 4) := by decide +kernel
theorem mi_160 : am_mi 160 = (2, 1, 0, 3) := by decide +kernel
theorem mi_161 : am_mi 161 = (1, 1, 0, 1) := by decide +kernel
theorem mi_162 : am_mi 162 = (1, 1, 0, 3) := by decide +kernel
theorem mi_163 : am_mi 163 = (2, 1, 0, 2) := by decide +kernel
theorem mi_164 : am_mi 164 = (4, 1, 0, 6) := by decide +kernel
theorem mi_165 : am_mi 165 = (3, 1, 0, 5) := by decide +kernel
theorem mi_166 : am_mi 166 = (3, 1, 7, 5) := by decide +kernel
theorem mi_167 : am_mi 167 = (3, 1, 0, 6) := by decide +kernel
theorem mi_168 : am_mi 168 = (4, 1, 0, 4) := by decide +kernel
theorem mi_169 : am_mi 169 = (2, 1, 0, 2) := by decide +kernel
theorem mi_170 : am_mi 170 = (4, 1, 3, 5) := by decide +kernel
theorem mi_171 : am_mi 171 = (3, 1, 0, 5) := by decide +kernel
theorem mi_172 : am_mi 172 = (3, 1, 0, 3) := by decide +kernel
theorem mi_173 : am_mi 173 = (3, 1, 0, 4) := by decide +kernel
theorem mi_174 : am_mi 174 = (1, 0, 0, 1) := by decide +kernel
theorem mi_175 : am_mi 175 = (3, 1, 0, 5) := by decide +kernel
theorem mi_176 : am_mi 176 = (3, 1, 0, 4) := by decide +kernel
theorem mi_177 : am_mi 177 = (3, 1, 0, 3) := by decide +kernel
theorem mi_178 : am_mi 178 = (3, 1, 0, 5) := by decide +kernel
theorem mi_179 : am_mi 179 = (2, 1, 0, 3) := by decide +kernel
theorem mi_180 : am_mi 180 = (2, 1, 0, 4) := by decide +kernel
theorem mi_181 : am_mi 181 = (2, 1, 0, 3) := by decide +kernel
theorem mi_182 : am_mi 182 = (4, 1, 0, 7) := by decide +kernel
theorem mi_183 : am_mi 183 = (2, 1, 0, 2) := by decide +kernel
theorem mi_184 : am_mi 184 = (2, 1, 0, 2) := by decide +kernel
theorem mi_185 : am_mi 185 = (5, 0, 13, 6) := by decide +kernel
theorem mi_186 : am_mi 186 = (4, 1, 11, 5) := by decide +kernel
theorem mi_187 : am_mi 187 = (2, 1, 0, 4) := by decide +kernel
theorem mi_188 : am_mi 188 = (5, 0, 13, 7) := by decide +kernel
theorem mi_189 : am_mi 189 = (4, 1, 11, 6) := by decide +kernel
theorem mi_190 : am_mi 190 = (5, 1, 11, 9) := by decide +kernel
theorem mi_191 : am_mi 191 = (4, 1, 0, 7) := by decide +kernel
theorem mi_192 : am_mi 192 = (2, 1, 8, 4) := by decide +kernel
theorem mi_193 : am_mi 193 = (1, 1, 8, 1) := by decide +kernel
theorem mi_194 : am_mi 194 = (2, 1, 8, 7) := by decide +kernel
theorem mi_195 : am_mi 195 = (4, 0, 13, 5) := by decide +kernel
theorem mi_196 : am_mi 196 = (3, 1, 11, 4) := by decide +kernel
theorem mi_197 : am_mi 197 = (5, 0, 13, 7) := by decide +kernel
theorem mi_198 : am_mi 198 = (4, 1, 11, 6) := by decide +kernel
theorem mi_199 : am_mi 199 = (7, 0, 13, 9) := by decide +kernel
theorem mi_200 : am_mi 200 = (6, 1, 11, 12) := by decide +kernel
theorem mi_201 : am_mi 201 = (2, 1, 11, 2) := by decide +kernel
theorem mi_202 : am_mi 202 = (4, 1, 11, 5) := by decide +kernel
theorem mi_203 : am_mi 203 = (3, 1, 11, 5) := by decide +kernel
theorem mi_204 : am_mi 204 = (3, 1, 11, 5) := by decide +kernel
theorem mi_205 : am_mi 205 = (3, 1, 10, 3) := by decide +kernel
theorem mi_206 : am_mi 206 = (3, 1, 10, 5) := by decide +kernel
theorem mi_207 : am_mi 207 = (3, 1, 10, 4) := by decide +kernel
theorem mi_208 : am_mi 208 = (3, 1, 10, 4) := by decide +kernel
theorem mi_209 : am_mi 209 = (3, 1, 10, 5) := by decide +kernel
theorem mi_210 : am_mi 210 = (3, 0, 13, 4) := by decide +kernel
theorem mi_211 : am_mi 211 = (2, 1, 11, 2) := by decide +kernel
theorem mi_212 : am_mi 212 = (4, 0, 13, 5) := by decide +kernel
theorem mi_213 : am_mi 213 = (3, 1, 11, 3) := by decide +kernel
theorem mi_214 : am_mi 214 = (3, 1, 11, 3) := by decide +kernel
theorem mi_215 : am_mi 215 = (4, 0, 13, 5) := by decide +kernel
theorem mi_216 : am_mi 216 = (3, 1, 11, 6) := by decide +kernel
theorem mi_217 : am_mi 217 = (3, 1, 11, 7) := by decide +kernel
theorem mi_218 : am_mi 218 = (3, 1, 1, 8) := by decide +kernel
theorem mi_219 : am_mi 219 = (2, 1, 2, 4) := by decide +kernel
theorem mi_220 : am_mi 220 = (1, 1, 1, 4) := by decide +kernel
theorem mi_221 : am_mi 221 = (3, 1, 1, 3) := by decide +kernel
theorem mi_222 : am_mi 222 = (3, 1, 1, 4) := by decide +kernel
theorem mi_223 : am_mi 223 = (2, 1, 1, 5) := by decide +kernel
theorem mi_224 : am_mi 224 = (1, 1, 1, 4) := by decide +kernel
theorem mi_225 : am_mi 225 = (3, 1, 1, 7) := by decide +kernel
theorem mi_226 : am_mi 226 = (2, 1, 1, 3) := by decide +kernel
theorem mi_227 : am_mi 227 = (1, 1, 1, 3) := by decide +kernel
theorem mi_228 : am_mi 228 = (2, 1, 1, 3) := by decide +kernel
theorem mi_229 : am_mi 229 = (2, 1, 1, 4) := by decide +kernel
theorem mi_230 : am_mi 230 = (1, 1, 1, 3) := by decide +kernel
theorem mi_231 : am_mi 231 = (4, 0, 13, 5) := by decide +kernel
theorem mi_232 : am_mi 232 = (3, 1, 11, 5) := by decide +kernel
theorem mi_233 : am_mi 233 = (1, 1, 1, 3) := by decide +kernel
theorem mi_234 : am_mi 234 = (3, 0, 13, 4) := by decide +kernel
theorem mi_235 : am_mi 235 = (2, 1, 11, 3) := by decide +kernel
theorem mi_236 : am_mi 236 = (4, 0, 13, 5) := by decide +kernel
theorem mi_237 : am_mi 237 = (3, 1, 11, 5) := by decide +kernel
theorem mi_238 : am_mi 238 = (5, 0, 13, 6) := by decide +kernel
theorem mi_239 : am_mi 239 = (4, 1, 11, 5) := by decide +kernel
theorem mi_240 : am_mi 240 = (2, 1, 1, 2) := by decide +kernel
theorem mi_241 : am_mi 241 = (4, 1, 1, 6) := by decide +kernel
theorem mi_242 : am_mi 242 = (1, 0, 15, 1) := by decide +kernel
theorem mi_243 : am_mi 243 = (1, 0, 1, 3) := by decide +kernel
theorem mi_244 : am_mi 244 = (4, 0, 13, 5) := by decide +kernel
theorem mi_245 : am_mi 245 = (3, 1, 11, 4) := by decide +kernel
theorem mi_246 : am_mi 246 = (3, 1, 2, 6) := by decide +kernel
theorem mi_247 : am_mi 247 = (4, 0, 13, 5) := by decide +kernel
theorem mi_248 : am_mi 248 = (3, 1, 11, 14) := by decide +kernel
theorem mi_249 : am_mi 249 = (2, 0, 14, 4) := by decide +kernel
theorem mi_250 : am_mi 250 = (3, 0, 13, 4) := by decide +kernel
theorem mi_251 : am_mi 251 = (2, 1, 11, 4) := by decide +kernel
theorem mi_252 : am_mi 252 = (3, 1, 11, 5) := by decide +kernel
theorem mi_253 : am_mi 253 = (3, 1, 11, 3) := by decide +kernel
theorem mi_254 : am_mi 254 = (4, 0, 13, 5) := by decide +kernel
theorem mi_255 : am_mi 255 = (3, 1, 11, 4) := by decide +kernel
theorem mi_256 : am_mi 256 = (4, 0, 13, 5) := by decide +kernel
theorem mi_257 : am_mi 257 = (3, 1, 11, 6) := by decide +kernel
theorem mi_258 : am_mi 258 = (3, 0, 13, 4) := by decide +kernel
theorem mi_259 : am_mi 259 = (2, 1, 11, 4) := by decide +kernel
theorem mi_260 : am_mi 260 = (3, 0, 13, 4) := by decide +kernel
theorem mi_261 : am_mi 261 = (2, 1, 11, 3) := by decide +kernel
theorem mi_262 : am_mi 262 = (3, 1, 4, 5) := by decide +kernel
theorem mi_263 : am_mi 263 = (2, 1, 4, 3) := by decide +kernel
theorem mi_264 : am_mi 264 = (6, 1, 4, 10) := by decide +kernel
theorem mi_265 : am_mi 265 = (5, 1, 4, 11) := by decide +kernel
theorem mi_266 : am_mi 266 = (3, 1, 4, 13) := by decide +kernel
theorem mi_267 : am_mi 267 = (3, 0, 13, 4) := by decide +kernel
theorem mi_268 : am_mi 268 = (2, 1, 11, 3) := by decide +kernel
theorem mi_269 : am_mi 269 = (3, 1, 5, 5) := by decide +kernel
theorem mi_270 : am_mi 270 = (3, 1, 5, 6) := by decide +kernel
theorem mi_271 : am_mi 271 = (3, 1, 5, 6) := by decide +kernel
theorem mi_272 : am_mi 272 = (4, 1, 5, 6) := by decide +kernel
theorem mi_273 : am_mi 273 = (2, 1, 5, 2) := by decide +kernel
theorem mi_274 : am_mi 274 = (2, 1, 5, 2) := by decide +kernel
theorem mi_275 : am_mi 275 = (4, 1, 5, 5) := by decide +kernel
theorem mi_276 : am_mi 276 = (3, 1, 5, 3) := by decide +kernel
theorem mi_277 : am_mi 277 = (4, 1, 5, 7) := by decide +kernel
theorem mi_278 : am_mi 278 = (2, 1, 5, 2) := by decide +kernel
theorem mi_279 : am_mi 279 = (3, 1, 3, 5) := by decide +kernel
theorem mi_280 : am_mi 280 = (3, 1, 5, 5) := by decide +kernel
theorem mi_281 : am_mi 281 = (4, 1, 5, 5) := by decide +kernel
theorem mi_282 : am_mi 282 = (3, 1, 5, 6) := by decide +kernel
theorem mi_283 : am_mi 283 = (4, 0, 13, 5) := by decide +kernel
theorem mi_284 : am_mi 284 = (3, 1, 11, 5) := by decide +kernel
theorem mi_285 : am_mi 285 = (2, 1, 5, 4) := by decide +kernel
theorem mi_286 : am_mi 286 = (4, 0, 13, 5) := by decide +kernel
theorem mi_287 : am_mi 287 = (3, 1, 11, 5) := by decide +kernel
theorem mi_288 : am_mi 288 = (4, 1, 10, 10) := by decide +kernel
theorem mi_289 : am_mi 289 = (3, 1, 10, 6) := by decide +kernel
theorem mi_290 : am_mi 290 = (4, 1, 10, 7) := by decide +kernel
theorem mi_291 : am_mi 291 = (2, 0, 10, 4) := by decide +kernel
theorem mi_292 : am_mi 292 = (3, 0, 10, 3) := by decide +kernel
theorem mi_293 : am_mi 293 = (3, 1, 10, 4) := by decide +kernel
theorem mi_294 : am_mi 294 = (3, 1, 10, 4) := by decide +kernel
theorem mi_295 : am_mi 295 = (2, 0, 10, 2) := by decide +kernel
theorem mi_296 : am_mi 296 = (3, 1, 11, 5) := by decide +kernel
theorem mi_297 : am_mi 297 = (3, 1, 2, 3) := by decide +kernel
theorem mi_298 : am_mi 298 = (3, 1, 11, 3) := by decide +kernel
theorem mi_299 : am_mi 299 = (3, 0, 13, 4) := by decide +kernel
theorem mi_300 : am_mi 300 = (2, 1, 11, 2) := by decide +kernel
theorem mi_301 : am_mi 301 = (3, 0, 13, 4) := by decide +kernel
theorem mi_302 : am_mi 302 = (2, 1, 11, 6) := by decide +kernel
theorem mi_303 : am_mi 303 = (2, 1, 11, 6) := by decide +kernel
theorem mi_304 : am_mi 304 = (5, 0, 13, 6) := by decide +kernel
theorem mi_305 : am_mi 305 = (4, 1, 11, 10) := by decide +kernel
theorem mi_306 : am_mi 306 = (4, 0, 13, 5) := by decide +kernel
theorem mi_307 : am_mi 307 = (3, 1, 11, 5) := by decide +kernel
theorem mi_308 : am_mi 308 = (3, 0, 13, 4) := by decide +kernel
theorem mi_309 : am_mi 309 = (2, 1, 11, 3) := by decide +kernel
theorem mi_310 : am_mi 310 = (3, 1, 10, 7) := by decide +kernel
theorem mi_311 : am_mi 311 = (2, 1, 10, 9) := by decide +kernel
theorem mi_312 : am_mi 312 = (3, 1, 10, 4) := by decide +kernel
theorem mi_313 : am_mi 313 = (3, 0, 13, 4) := by decide +kernel
theorem mi_314 : am_mi 314 = (2, 1, 11, 3) := by decide +kernel
theorem mi_315 : am_mi 315 = (2, 1, 11, 3) := by decide +kernel
theorem mi_316 : am_mi 316 = (3, 1, 10, 9) := by decide +kernel
theorem mi_317 : am_mi 317 = (3, 0, 13, 4) := by decide +kernel
theorem mi_318 : am_mi 318 = (2, 1, 11, 2) := by decide +kernel
theorem mi_319 : am_mi 319 = (2, 1, 10, 5) := by decide +kernel
theorem mi_320 : am_mi 320 = (3, 0, 13, 4) := by decide +kernel
theorem mi_321 : am_mi 321 = (2, 1, 11, 2) := by decide +kernel
theorem mi_322 : am_mi 322 = (2, 1, 10, 7) := by decide +kernel
theorem mi_323 : am_mi 323 = (1, 2, 12, 1) := by decide +kernel
theorem mi_324 : am_mi 324 = (1, 1, 12, 1) := by decide +kernel
theorem mi_325 : am_mi 325 = (2, 1, 12, 5) := by decide +kernel
theorem mi_326 : am_mi 326 = (2, 1, 12, 2) := by decide +kernel
theorem mi_327 : am_mi 327 = (3, 0, 12, 6) := by decide +kernel
theorem mi_328 : am_mi 328 = (1, 1, 12, 2) := by decide +kernel
theorem mi_329 : am_mi 329 = (1, 1, 12, 4) := by decide +kernel
theorem mi_330 : am_mi 330 = (2, 0, 12, 2) := by decide +kernel
theorem mi_331 : am_mi 331 = (2, 1, 12, 2) := by decide +kernel
theorem mi_332 : am_mi 332 = (2, 1, 12, 2) := by decide +kernel
theorem mi_333 : am_mi 333 = (1, 0, 12, 1) := by decide +kernel
theorem mi_334 : am_mi 334 = (1, 0, 12, 1) := by decide +kernel
theorem mi_335 : am_mi 335 = (3, 1, 12, 3) := by decide +kernel
theorem mi_336 : am_mi 336 = (2, 1, 12, 2) := by decide +kernel
theorem mi_337 : am_mi 337 = (1, 1, 12, 1) := by decide +kernel
theorem mi_338 : am_mi 338 = (1, 0, 12, 1) := by decide +kernel
theorem mi_339 : am_mi 339 = (2, 1, 12, 2) := by decide +kernel
theorem mi_340 : am_mi 340 = (1, 1, 12, 2) := by decide +kernel
theorem mi_341 : am_mi 341 = (1, 1, 12, 1) := by decide +kernel
theorem mi_342 : am_mi 342 = (1, 1, 12, 1) := by decide +kernel
theorem mi_343 : am_mi 343 = (1, 0, 12, 1) := by decide +kernel
theorem mi_344 : am_mi 344 = (1, 1, 12, 3) := by decide +kernel
theorem mi_345 : am_mi 345 = (1, 1, 12, 3) := by decide +kernel
theorem mi_346 : am_mi 346 = (1, 0, 12, 1) := by decide +kernel
theorem mi_347 : am_mi 347 = (1, 1, 12, 3) := by decide +kernel
theorem mi_348 : am_mi 348 = (1, 0, 12, 1) := by decide +kernel
theorem mi_349 : am_mi 349 = (1, 0, 12, 1) := by decide +kernel
theorem mi_350 : am_mi 350 = (3, 1, 12, 3) := by decide +kernel
theorem mi_351 : am_mi 351 = (1, 1, 12, 3) := by decide +kernel
theorem mi_352 : am_mi 352 = (1, 1, 12, 4) := by decide +kernel
theorem mi_353 : am_mi 353 = (3, 0, 12, 3) := by decide +kernel
theorem mi_354 : am_mi 354 = (1, 1, 12, 2) := by decide +kernel
theorem mi_355 : am_mi 355 = (1, 1, 12, 2) := by decide +kernel
theorem mi_356 : am_mi 356 = (7, 1, 12, 10) := by decide +kernel
theorem mi_357 : am_mi 357 = (2, 1, 12, 2) := by decide +kernel
theorem mi_358 : am_mi 358 = (2, 1, 12, 2) := by decide +kernel
theorem mi_359 : am_mi 359 = (2, 1, 12, 3) := by decide +kernel
theorem mi_360 : am_mi 360 = (1, 1, 12, 3) := by decide +kernel
theorem mi_361 : am_mi 361 = (1, 1, 12, 3) := by decide +kernel
theorem mi_362 : am_mi 362 = (2, 1, 12, 2) := by decide +kernel
theorem mi_363 : am_mi 363 = (2, 1, 12, 3) := by decide +kernel
theorem mi_364 : am_mi 364 = (1, 0, 12, 1) := by decide +kernel
theorem mi_365 : am_mi 365 = (1, 1, 12, 2) := by decide +kernel
theorem mi_366 : am_mi 366 = (1, 0, 12, 1) := by decide +kernel
theorem mi_367 : am_mi 367 = (2, 0, 12, 2) := by decide +kernel
theorem mi_368 : am_mi 368 = (3, 1, 12, 3) := by decide +kernel
theorem mi_369 : am_mi 369 = (1, 1, 12, 1) := by decide +kernel
theorem mi_370 : am_mi 370 = (3, 1, 12, 3) := by decide +kernel
theorem mi_371 : am_mi 371 = (2, 1, 12, 7) := by decide +kernel
theorem mi_372 : am_mi 372 = (2, 1, 12, 2) := by decide +kernel
theorem mi_373 : am_mi 373 = (4, 1, 12, 6) := by decide +kernel
theorem mi_374 : am_mi 374 = (3, 1, 12, 3) := by decide +kernel
theorem mi_375 : am_mi 375 = (2, 1, 12, 4) := by decide +kernel
theorem mi_376 : am_mi 376 = (2, 1, 12, 2) := by decide +kernel
theorem mi_377 : am_mi 377 = (1, 1, 12, 8) := by decide +kernel
theorem mi_378 : am_mi 378 = (4, 1, 12, 9) := by decide +kernel
theorem mi_379 : am_mi 379 = (2, 0, 12, 2) := by decide +kernel
theorem mi_380 : am_mi 380 = (6, 1, 12, 10) := by decide +kernel
theorem mi_381 : am_mi 381 = (3, 0, 12, 3) := by decide +kernel
theorem mi_382 : am_mi 382 = (2, 0, 12, 2) := by decide +kernel
theorem mi_383 : am_mi 383 = (4, 1, 12, 4) := by decide +kernel
theorem mi_384 : am_mi 384 = (4, 1, 12, 4) := by decide +kernel
theorem mi_385 : am_mi 385 = (3, 1, 12, 4) := by decide +kernel
theorem mi_386 : am_mi 386 = (5, 1, 12, 6) := by decide +kernel
theorem mi_387 : am_mi 387 = (5, 1, 12, 6) := by decide +kernel
theorem mi_388 : am_mi 388 = (5, 1, 12, 15) := by decide +kernel
theorem mi_389 : am_mi 389 = (7, 1, 12, 14) := by decide +kernel
theorem mi_390 : am_mi 390 = (2, 1, 12, 4) := by decide +kernel
theorem mi_391 : am_mi 391 = (2, 1, 12, 3) := by decide +kernel
theorem mi_392 : am_mi 392 = (1, 1, 12, 4) := by decide +kernel
theorem mi_393 : am_mi 393 = (3, 1, 12, 5) := by decide +kernel
theorem mi_394 : am_mi 394 = (2, 1, 12, 14) := by decide +kernel
theorem mi_395 : am_mi 395 = (2, 1, 12, 2) := by decide +kernel
theorem mi_396 : am_mi 396 = (7, 1, 12, 8) := by decide +kernel
theorem mi_397 : am_mi 397 = (2, 1, 12, 4) := by decide +kernel
theorem mi_398 : am_mi 398 = (2, 1, 12, 2) := by decide +kernel
theorem mi_399 : am_mi 399 = (1, 1, 12, 1) := by decide +kernel
theorem mi_400 : am_mi 400 = (3, 1, 12, 3) := by decide +kernel
theorem mi_401 : am_mi 401 = (3, 1, 12, 3) := by decide +kernel
theorem mi_402 : am_mi 402 = (2, 1, 12, 3) := by decide +kernel
theorem mi_403 : am_mi 403 = (1, 1, 12, 1) := by decide +kernel
theorem mi_404 : am_mi 404 = (1, 1, 12, 4) := by decide +kernel
theorem mi_405 : am_mi 405 = (1, 1, 12, 4) := by decide +kernel
theorem mi_406 : am_mi 406 = (2, 1, 12, 2) := by decide +kernel
theorem mi_407 : am_mi 407 = (1, 1, 12, 1) := by decide +kernel
theorem mi_408 : am_mi 408 = (3, 1, 12, 3) := by decide +kernel
theorem mi_409 : am_mi 409 = (2, 1, 12, 2) := by decide +kernel
theorem mi_410 : am_mi 410 = (4, 1, 12, 6) := by decide +kernel
theorem mi_411 : am_mi 411 = (2, 1, 12, 2) := by decide +kernel
theorem mi_412 : am_mi 412 = (2, 1, 12, 2) := by decide +kernel
theorem mi_413 : am_mi 413 = (4, 1, 12, 4) := by decide +kernel
theorem mi_414 : am_mi 414 = (4, 1, 12, 4) := by decide +kernel
theorem mi_415 : am_mi 415 = (1, 1, 12, 6) := by decide +kernel
theorem mi_416 : am_mi 416 = (1, 1, 12, 4) := by decide +kernel
theorem mi_417 : am_mi 417 = (1, 1, 12, 3) := by decide +kernel
theorem mi_418 : am_mi 418 = (2, 1, 12, 4) := by decide +kernel
theorem mi_419 : am_mi 419 = (1, 1, 12, 1) := by decide +kernel
theorem mi_420 : am_mi 420 = (5, 1, 12, 5) := by decide +kernel
theorem mi_421 : am_mi 421 = (4, 1, 12, 5) := by decide +kernel
theorem mi_422 : am_mi 422 = (1, 1, 12, 1) := by decide +kernel
theorem mi_423 : am_mi 423 = (1, 1, 12, 1) := by decide +kernel
theorem mi_424 : am_mi 424 = (3, 1, 12, 3) := by decide +kernel
theorem mi_425 : am_mi 425 = (2, 1, 12, 2) := by decide +kernel
theorem mi_426 : am_mi 426 = (2, 0, 12, 4) := by decide +kernel
theorem mi_427 : am_mi 427 = (4, 1, 12, 4) := by decide +kernel
theorem mi_428 : am_mi 428 = (2, 1, 12, 3) := by decide +kernel
theorem mi_429 : am_mi 429 = (1, 1, 12, 3) := by decide +kernel
theorem mi_430 : am_mi 430 = (2, 0, 12, 10) := by decide +kernel
theorem mi_431 : am_mi 431 = (3, 1, 12, 7) := by decide +kernel
theorem mi_432 : am_mi 432 = (6, 1, 12, 10) := by decide +kernel
theorem mi_433 : am_mi 433 = (3, 1, 12, 5) := by decide +kernel
theorem mi_434 : am_mi 434 = (3, 1, 12, 3) := by decide +kernel
theorem mi_435 : am_mi 435 = (3, 1, 12, 9) := by decide +kernel
theorem mi_436 : am_mi 436 = (3, 1, 12, 4) := by decide +kernel
theorem mi_437 : am_mi 437 = (2, 0, 12, 2) := by decide +kernel
theorem mi_438 : am_mi 438 = (3, 1, 12, 3) := by decide +kernel
theorem mi_439 : am_mi 439 = (3, 1, 12, 3) := by decide +kernel
theorem mi_440 : am_mi 440 = (1, 1, 12, 3) := by decide +kernel
theorem mi_441 : am_mi 441 = (3, 1, 12, 3) := by decide +kernel
theorem mi_442 : am_mi 442 = (1, 1, 12, 1) := by decide +kernel
theorem mi_443 : am_mi 443 = (3, 1, 12, 4) := by decide +kernel
theorem mi_444 : am_mi 444 = (1, 1, 12, 1) := by decide +kernel
theorem mi_445 : am_mi 445 = (1, 1, 12, 1) := by decide +kernel
theorem mi_446 : am_mi 446 = (3, 1, 12, 10) := by decide +kernel
theorem mi_447 : am_mi 447 = (1, 1, 12, 3) := by decide +kernel
theorem mi_448 : am_mi 448 = (2, 0, 12, 4) := by decide +kernel
theorem mi_449 : am_mi 449 = (1, 1, 12, 2) := by decide +kernel
theorem mi_450 : am_mi 450 = (4, 1, 12, 4) := by decide +kernel
theorem mi_451 : am_mi 451 = (1, 1, 12, 1) := by decide +kernel
theorem mi_452 : am_mi 452 = (1, 1, 12, 4) := by decide +kernel
theorem mi_453 : am_mi 453 = (1, 1, 12, 3) := by decide +kernel
theorem mi_454 : am_mi 454 = (1, 0, 12, 1) := by decide +kernel
theorem mi_455 : am_mi 455 = (1, 1, 12, 3) := by decide +kernel
theorem mi_456 : am_mi 456 = (3, 1, 12, 6) := by decide +kernel
theorem mi_457 : am_mi 457 = (1, 1, 12, 3) := by decide +kernel
theorem mi_458 : am_mi 458 = (3, 1, 12, 6) := by decide +kernel
theorem mi_459 : am_mi 459 = (2, 1, 12, 2) := by decide +kernel
theorem mi_460 : am_mi 460 = (1, 1, 12, 3) := by decide +kernel
theorem mi_461 : am_mi 461 = (3, 1, 12, 3) := by decide +kernel
theorem mi_462 : am_mi 462 = (1, 1, 12, 4) := by decide +kernel
theorem mi_463 : am_mi 463 = (1, 1, 12, 4) := by decide +kernel
theorem mi_464 : am_mi 464 = (1, 1, 12, 6) := by decide +kernel
theorem mi_465 : am_mi 465 = (1, 1, 12, 4) := by decide +kernel
theorem mi_466 : am_mi 466 = (1, 1, 12, 2) := by decide +kernel
theorem mi_467 : am_mi 467 = (1, 1, 12, 4) := by decide +kernel
theorem mi_468 : am_mi 468 = (1, 1, 12, 2) := by decide +kernel
theorem mi_469 : am_mi 469 = (4, 1, 12, 5) := by decide +kernel
theorem mi_470 : am_mi 470 = (4, 1, 12, 5) := by decide +kernel
theorem mi_471 : am_mi 471 = (3, 1, 12, 3) := by decide +kernel
theorem mi_472 : am_mi 472 = (3, 1, 12, 5) := by decide +kernel
theorem mi_473 : am_mi 473 = (1, 1, 12, 8) := by decide +kernel
theorem mi_474 : am_mi 474 = (2, 1, 12, 2) := by decide +kernel
theorem mi_475 : am_mi 475 = (1, 1, 12, 1) := by decide +kernel
theorem mi_476 : am_mi 476 = (2, 1, 12, 5) := by decide +kernel
theorem mi_477 : am_mi 477 = (2, 1, 12, 7) := by decide +kernel
theorem mi_478 : am_mi 478 = (3, 1, 12, 3) := by decide +kernel
theorem mi_479 : am_mi 479 = (3, 1, 12, 3) := by decide +kernel
theorem mi_480 : am_mi 480 = (2, 1, 12, 5) := by decide +kernel
theorem mi_481 : am_mi 481 = (2, 1, 12, 2) := by decide +kernel
theorem mi_482 : am_mi 482 = (1, 1, 12, 3) := by decide +kernel
theorem mi_483 : am_mi 483 = (3, 1, 12, 4) := by decide +kernel
theorem mi_484 : am_mi 484 = (1, 1, 12, 3) := by decide +kernel
theorem mi_485 : am_mi 485 = (1, 1, 12, 3) := by decide +kernel
theorem mi_486 : am_mi 486 = (4, 1, 12, 5) := by decide +kernel
theorem mi_487 : am_mi 487 = (4, 1, 12, 6) := by decide +kernel
theorem mi_488 : am_mi 488 = (6, 1, 12, 8) := by decide +kernel
theorem mi_489 : am_mi 489 = (2, 1, 12, 2) := by decide +kernel
theorem mi_490 : am_mi 490 = (2, 0, 12, 2) := by decide +kernel
theorem mi_491 : am_mi 491 = (3, 1, 12, 5) := by decide +kernel
theorem mi_492 : am_mi 492 = (2, 1, 12, 6) := by decide +kernel
theorem mi_493 : am_mi 493 = (2, 1, 12, 5) := by decide +kernel
theorem mi_494 : am_mi 494 = (1, 1, 12, 2) := by decide +kernel
theorem mi_495 : am_mi 495 = (1, 1, 12, 2) := by decide +kernel
theorem mi_496 : am_mi 496 = (2, 1, 12, 5) := by decide +kernel
theorem mi_497 : am_mi 497 = (3, 1, 12, 8) := by decide +kernel
theorem mi_498 : am_mi 498 = (4, 1, 12, 4) := by decide +kernel
theorem mi_499 : am_mi 499 = (2, 1, 12, 2) := by decide +kernel
theorem mi_500 : am_mi 500 = (3, 1, 12, 3) := by decide +kernel
theorem mi_501 : am_mi 501 = (3, 1, 12, 3) := by decide +kernel
theorem mi_502 : am_mi 502 = (3, 1, 12, 6) := by decide +kernel
theorem mi_503 : am_mi 503 = (2, 1, 12, 2) := by decide +kernel
theorem mi_504 : am_mi 504 = (2, 1, 12, 4) := by decide +kernel
theorem mi_505 : am_mi 505 = (2, 1, 12, 3) := by decide +kernel
theorem mi_506 : am_mi 506 = (1, 1, 12, 3) := by decide +kernel
theorem mi_507 : am_mi 507 = (1, 1, 12, 3) := by decide +kernel
theorem mi_508 : am_mi 508 = (3, 1, 12, 5) := by decide +kernel
theorem mi_509 : am_mi 509 = (3, 1, 12, 3) := by decide +kernel
theorem mi_510 : am_mi 510 = (1, 1, 12, 7) := by decide +kernel
theorem mi_511 : am_mi 511 = (1, 1, 12, 4) := by decide +kernel
theorem mi_512 : am_mi 512 = (1, 1, 12, 4) := by decide +kernel
theorem mi_513 : am_mi 513 = (1, 1, 12, 3) := by decide +kernel
theorem mi_514 : am_mi 514 = (2, 1, 12, 5) := by decide +kernel
theorem mi_515 : am_mi 515 = (2, 1, 12, 4) := by decide +kernel
theorem mi_516 : am_mi 516 = (1, 1, 12, 8) := by decide +kernel
theorem mi_517 : am_mi 517 = (1, 1, 12, 3) := by decide +kernel
theorem mi_518 : am_mi 518 = (3, 1, 12, 6) := by decide +kernel
theorem mi_519 : am_mi 519 = (2, 1, 12, 2) := by decide +kernel
theorem mi_520 : am_mi 520 = (3, 1, 12, 4) := by decide +kernel
theorem mi_521 : am_mi 521 = (4, 1, 12, 9) := by decide +kernel
theorem mi_522 : am_mi 522 = (1, 1, 12, 3) := by decide +kernel
theorem mi_523 : am_mi 523 = (1, 1, 12, 6) := by decide +kernel
theorem mi_524 : am_mi 524 = (3, 1, 12, 3) := by decide +kernel
theorem mi_525 : am_mi 525 = (3, 1, 12, 8) := by decide +kernel
theorem mi_526 : am_mi 526 = (3, 1, 12, 10) := by decide +kernel
theorem mi_527 : am_mi 527 = (2, 1, 12, 4) := by decide +kernel
theorem mi_528 : am_mi 528 = (3, 1, 12, 4) := by decide +kernel
theorem mi_529 : am_mi 529 = (3, 1, 12, 3) := by decide +kernel
theorem mi_530 : am_mi 530 = (3, 1, 12, 5) := by decide +kernel
theorem mi_531 : am_mi 531 = (3, 1, 12, 7) := by decide +kernel
theorem mi_532 : am_mi 532 = (2, 1, 12, 3) := by decide +kernel
theorem mi_533 : am_mi 533 = (2, 1, 12, 5) := by decide +kernel
theorem mi_534 : am_mi 534 = (1, 1, 12, 3) := by decide +kernel
theorem mi_535 : am_mi 535 = (2, 1, 12, 2) := by decide +kernel
theorem mi_536 : am_mi 536 = (2, 1, 12, 2) := by decide +kernel
theorem mi_537 : am_mi 537 = (2, 1, 12, 4) := by decide +kernel
theorem mi_538 : am_mi 538 = (3, 1, 12, 3) := by decide +kernel
theorem mi_539 : am_mi 539 = (2, 1, 12, 6) := by decide +kernel
theorem mi_540 : am_mi 540 = (3, 1, 12, 3) := by decide +kernel
theorem mi_541 : am_mi 541 = (2, 1, 12, 5) := by decide +kernel
theorem mi_542 : am_mi 542 = (3, 1, 12, 3) := by decide +kernel
theorem mi_543 : am_mi 543 = (3, 1, 12, 3) := by decide +kernel
theorem mi_544 : am_mi 544 = (2, 1, 12, 3) := by decide +kernel
theorem mi_545 : am_mi 545 = (2, 1, 12, 6) := by decide +kernel
theorem mi_546 : am_mi 546 = (2, 1, 12, 2) := by decide +kernel
theorem mi_547 : am_mi 547 = (2, 1, 12, 4) := by decide +kernel
theorem mi_548 : am_mi 548 = (3, 1, 12, 5) := by decide +kernel
theorem mi_549 : am_mi 549 = (2, 1, 12, 3) := by decide +kernel
theorem mi_550 : am_mi 550 = (2, 1, 12, 5) := by decide +kernel
theorem mi_551 : am_mi 551 = (2, 1, 12, 4) := by decide +kernel
theorem mi_552 : am_mi 552 = (2, 1, 12, 2) := by decide +kernel
theorem mi_553 : am_mi 553 = (1, 1, 12, 1) := by decide +kernel
theorem mi_554 : am_mi 554 = (3, 1, 12, 3) := by decide +kernel
theorem mi_555 : am_mi 555 = (3, 1, 12, 5) := by decide +kernel
theorem mi_556 : am_mi 556 = (3, 1, 12, 5) := by decide +kernel
theorem mi_557 : am_mi 557 = (1, 1, 12, 3) := by decide +kernel
theorem mi_558 : am_mi 558 = (3, 1, 12, 3) := by decide +kernel
theorem mi_559 : am_mi 559 = (4, 1, 12, 4) := by decide +kernel
theorem mi_560 : am_mi 560 = (2, 1, 12, 5) := by decide +kernel
theorem mi_561 : am_mi 561 = (2, 1, 12, 3) := by decide +kernel
theorem mi_562 : am_mi 562 = (2, 1, 12, 2) := by decide +kernel
theorem mi_563 : am_mi 563 = (2, 1, 12, 3) := by decide +kernel
theorem mi_564 : am_mi 564 = (3, 1, 12, 4) := by decide +kernel
theorem mi_565 : am_mi 565 = (2, 1, 12, 5) := by decide +kernel
theorem mi_566 : am_mi 566 = (3, 1, 12, 3) := by decide +kernel
theorem mi_567 : am_mi 567 = (1, 1, 12, 6) := by decide +kernel
theorem mi_568 : am_mi 568 = (2, 1, 12, 4) := by decide +kernel
theorem mi_569 : am_mi 569 = (1, 1, 12, 2) := by decide +kernel
theorem mi_570 : am_mi 570 = (3, 1, 12, 7) := by decide +kernel
theorem mi_571 : am_mi 571 = (2, 1, 12, 4) := by decide +kernel
theorem mi_572 : am_mi 572 = (3, 1, 12, 5) := by decide +kernel
theorem mi_573 : am_mi 573 = (3, 1, 12, 5) := by decide +kernel
theorem mi_574 : am_mi 574 = (3, 1, 12, 5) := by decide +kernel
theorem mi_575 : am_mi 575 = (1, 1, 12, 2) := by decide +kernel
theorem mi_576 : am_mi 576 = (2, 1, 12, 2) := by decide +kernel
theorem mi_577 : am_mi 577 = (2, 1, 12, 3) := by decide +kernel
theorem mi_578 : am_mi 578 = (3, 1, 12, 7) := by decide +kernel
theorem mi_579 : am_mi 579 = (1, 0, 12, 1) := by decide +kernel
theorem mi_580 : am_mi 580 = (3, 1, 12, 5) := by decide +kernel
theorem mi_581 : am_mi 581 = (4, 1, 12, 13) := by decide +kernel
theorem mi_582 : am_mi 582 = (2, 1, 12, 7) := by decide +kernel
theorem mi_583 : am_mi 583 = (1, 1, 12, 4) := by decide +kernel
theorem mi_584 : am_mi 584 = (3, 1, 12, 5) := by decide +kernel
theorem mi_585 : am_mi 585 = (2, 1, 12, 4) := by decide +kernel
theorem mi_586 : am_mi 586 = (2, 1, 12, 2) := by decide +kernel
theorem mi_587 : am_mi 587 = (2, 1, 12, 6) := by decide +kernel
theorem mi_588 : am_mi 588 = (2, 1, 12, 5) := by decide +kernel
theorem mn_1 : am_na (am_m 1) = 1 := by decide +kernel
theorem mk_1 : am_kd (am_m 1) = 2 := by decide +kernel
theorem mn_2 : am_na (am_m 2) = 1 := by decide +kernel
theorem mk_2 : am_kd (am_m 2) = 2 := by decide +kernel
theorem mn_3 : am_na (am_m 3) = 1 := by decide +kernel
theorem mk_3 : am_kd (am_m 3) = 2 := by decide +kernel
theorem mn_4 : am_na (am_m 4) = 1 := by decide +kernel
theorem mk_4 : am_kd (am_m 4) = 2 := by decide +kernel
theorem mn_5 : am_na (am_m 5) = 1 := by decide +kernel
theorem mk_5 : am_kd (am_m 5) = 2 := by decide +kernel
theorem mn_6 : am_na (am_m 6) = 1 := by decide +kernel
theorem mk_6 : am_kd (am_m 6) = 2 := by decide +kernel
theorem mn_7 : am_na (am_m 7) = 1 := by decide +kernel
theorem mk_7 : am_kd (am_m 7) = 2 := by decide +kernel
theorem mn_8 : am_na (am_m 8) = 1 := by decide +kernel
theorem mk_8 : am_kd (am_m 8) = 2 := by decide +kernel
theorem mn_9 : am_na (am_m 9) = 4 := by decide +kernel
theorem mk_9 : am_kd (am_m 9) = 1 := by decide +kernel
theorem mn_10 : am_na (am_m 10) = 2 := by decide +kernel
theorem mk_10 : am_kd (am_m 10) = 0 := by decide +kernel
theorem mn_11 : am_na (am_m 11) = 1 := by decide +kernel
theorem mk_11 : am_kd (am_m 11) = 0 := by decide +kernel
theorem mn_12 : am_na (am_m 12) = 3 := by decide +kernel
theorem mk_12 : am_kd (am_m 12) = 0 := by decide +kernel
theorem mn_13 : am_na (am_m 13) = 2 := by decide +kernel
theorem mk_13 : am_kd (am_m 13) = 0 := by decide +kernel
theorem mn_14 : am_na (am_m 14) = 1 := by decide +kernel
theorem mk_14 : am_kd (am_m 14) = 0 := by decide +kernel
theorem mn_15 : am_na (am_m 15) = 3 := by decide +kernel
theorem mk_15 : am_kd (am_m 15) = 1 := by decide +kernel
theorem mn_16 : am_na (am_m 16) = 4 := by decide +kernel
theorem mk_16 : am_kd (am_m 16) = 1 := by decide +kernel
theorem mn_17 : am_na (am_m 17) = 1 := by decide +kernel
theorem mk_17 : am_kd (am_m 17) = 2 := by decide +kernel
theorem mn_18 : am_na (am_m 18) = 2 := by decide +kernel
theorem mk_18 : am_kd (am_m 18) = 2 := by decide +kernel
theorem mn_19 : am_na (am_m 19) = 1 := by decide +kernel
theorem mk_19 : am_kd (am_m 19) = 2 := by decide +kernel
theorem mn_20 : am_na (am_m 20) = 1 := by decide +kernel
theorem mk_20 : am_kd (am_m 20) = 2 := by decide +kernel
theorem mn_21 : am_na (am_m 21) = 2 := by decide +kernel
theorem mk_21 : am_kd (am_m 21) = 1 := by decide +kernel
theorem mn_22 : am_na (am_m 22) = 2 := by decide +kernel
theorem mk_22 : am_kd (am_m 22) = 1 := by decide +kernel
theorem mn_23 : am_na (am_m 23) = 1 := by decide +kernel
theorem mk_23 : am_kd (am_m 23) = 1 := by decide +kernel
theorem mn_24 : am_na (am_m 24) = 2 := by decide +kernel
theorem mk_24 : am_kd (am_m 24) = 1 := by decide +kernel
theorem mn_25 : am_na (am_m 25) = 1 := by decide +kernel
theorem mk_25 : am_kd (am_m 25) = 1 := by decide +kernel
theorem mn_26 : am_na (am_m 26) = 1 := by decide +kernel
theorem mk_26 : am_kd (am_m 26) = 1 := by decide +kernel
theorem mn_27 : am_na (am_m 27) = 1 := by decide +kernel
theorem mk_27 : am_kd (am_m 27) = 1 := by decide +kernel
theorem mn_28 : am_na (am_m 28) = 1 := by decide +kernel
theorem mk_28 : am_kd (am_m 28) = 1 := by decide +kernel
theorem mn_29 : am_na (am_m 29) = 3 := by decide +kernel
theorem mk_29 : am_kd (am_m 29) = 1 := by decide +kernel
theorem mn_30 : am_na (am_m 30) = 3 := by decide +kernel
theorem mk_30 : am_kd (am_m 30) = 0 := by decide +kernel
theorem mn_31 : am_na (am_m 31) = 2 := by decide +kernel
theorem mk_31 : am_kd (am_m 31) = 1 := by decide +kernel
theorem mn_32 : am_na (am_m 32) = 2 := by decide +kernel
theorem mk_32 : am_kd (am_m 32) = 1 := by decide +kernel
theorem mn_33 : am_na (am_m 33) = 3 := by decide +kernel
theorem mk_33 : am_kd (am_m 33) = 1 := by decide +kernel
theorem mn_34 : am_na (am_m 34) = 3 := by decide +kernel
theorem mk_34 : am_kd (am_m 34) = 1 := by decide +kernel
theorem mn_35 : am_na (am_m 35) = 4 := by decide +kernel
theorem mk_35 : am_kd (am_m 35) = 1 := by decide +kernel
theorem mn_36 : am_na (am_m 36) = 1 := by decide +kernel
theorem mk_36 : am_kd (am_m 36) = 1 := by decide +kernel
theorem mn_37 : am_na (am_m 37) = 2 := by decide +kernel
theorem mk_37 : am_kd (am_m 37) = 0 := by decide +kernel
theorem mn_38 : am_na (am_m 38) = 2 := by decide +kernel
theorem mk_38 : am_kd (am_m 38) = 0 := by decide +kernel
theorem mn_39 : am_na (am_m 39) = 1 := by decide +kernel
theorem mk_39 : am_kd (am_m 39) = 1 := by decide +kernel
theorem mn_40 : am_na (am_m 40) = 4 := by decide +kernel
theorem mk_40 : am_kd (am_m 40) = 1 := by decide +kernel
theorem mn_41 : am_na (am_m 41) = 3 := by decide +kernel
theorem mk_41 : am_kd (am_m 41) = 1 := by decide +kernel
theorem mn_42 : am_na (am_m 42) = 2 := by decide +kernel
theorem mk_42 : am_kd (am_m 42) = 1 := by decide +kernel
theorem mn_43 : am_na (am_m 43) = 1 := by decide +kernel
theorem mk_43 : am_kd (am_m 43) = 1 := by decide +kernel
theorem mn_44 : am_na (am_m 44) = 1 := by decide +kernel
theorem mk_44 : am_kd (am_m 44) = 1 := by decide +kernel
theorem mn_45 : am_na (am_m 45) = 1 := by decide +kernel
theorem mk_45 : am_kd (am_m 45) = 0 := by decide +kernel
theorem mn_46 : am_na (am_m 46) = 1 := by decide +kernel
theorem mk_46 : am_kd (am_m 46) = 1 := by decide +kernel
theorem mn_47 : am_na (am_m 47) = 3 := by decide +kernel
theorem mk_47 : am_kd (am_m 47) = 1 := by decide +kernel
theorem mn_48 : am_na (am_m 48) = 2 := by decide +kernel
theorem mk_48 : am_kd (am_m 48) = 1 := by decide +kernel
theorem mn_49 : am_na (am_m 49) = 1 := by decide +kernel
theorem mk_49 : am_kd (am_m 49) = 1 := by decide +kernel
theorem mn_50 : am_na (am_m 50) = 2 := by decide +kernel
theorem mk_50 : am_kd (am_m 50) = 1 := by decide +kernel
theorem mn_51 : am_na (am_m 51) = 4 := by decide +kernel
theorem mk_51 : am_kd (am_m 51) = 1 := by decide +kernel
theorem mn_52 : am_na (am_m 52) = 2 := by decide +kernel
theorem mk_52 : am_kd (am_m 52) = 1 := by decide +kernel
theorem mn_53 : am_na (am_m 53) = 2 := by decide +kernel
theorem mk_53 : am_kd (am_m 53) = 0 := by decide +kernel
theorem mn_54 : am_na (am_m 54) = 3 := by decide +kernel
theorem mk_54 : am_kd (am_m 54) = 1 := by decide +kernel
theorem mn_55 : am_na (am_m 55) = 1 := by decide +kernel
theorem mk_55 : am_kd (am_m 55) = 0 := by decide +kernel
theorem mn_56 : am_na (am_m 56) = 1 := by decide +kernel
theorem mk_56 : am_kd (am_m 56) = 0 := by decide +kernel
theorem mn_57 : am_na (am_m 57) = 3 := by decide +kernel
theorem mk_57 : am_kd (am_m 57) = 1 := by decide +kernel
theorem mn_58 : am_na (am_m 58) = 1 := by decide +kernel
theorem mk_58 : am_kd (am_m 58) = 1 := by decide +kernel
theorem mn_59 : am_na (am_m 59) = 8 := by decide +kernel
theorem mk_59 : am_kd (am_m 59) = 1 := by decide +kernel
theorem mn_60 : am_na (am_m 60) = 2 := by decide +kernel
theorem mk_60 : am_kd (am_m 60) = 1 := by decide +kernel
theorem mn_61 : am_na (am_m 61) = 3 := by decide +kernel
theorem mk_61 : am_kd (am_m 61) = 0 := by decide +kernel
theorem mn_62 : am_na (am_m 62) = 2 := by decide +kernel
theorem mk_62 : am_kd (am_m 62) = 1 := by decide +kernel
theorem mn_63 : am_na (am_m 63) = 2 := by decide +kernel
theorem mk_63 : am_kd (am_m 63) = 1 := by decide +kernel
theorem mn_64 : am_na (am_m 64) = 2 := by decide +kernel
theorem mk_64 : am_kd (am_m 64) = 1 := by decide +kernel
theorem mn_65 : am_na (am_m 65) = 3 := by decide +kernel
theorem mk_65 : am_kd (am_m 65) = 1 := by decide +kernel
theorem mn_66 : am_na (am_m 66) = 2 := by decide +kernel
theorem mk_66 : am_kd (am_m 66) = 1 := by decide +kernel
theorem mn_67 : am_na (am_m 67) = 1 := by decide +kernel
theorem mk_67 : am_kd (am_m 67) = 0 := by decide +kernel
theorem mn_68 : am_na (am_m 68) = 2 := by decide +kernel
theorem mk_68 : am_kd (am_m 68) = 1 := by decide +kernel
theorem mn_69 : am_na (am_m 69) = 3 := by decide +kernel
theorem mk_69 : am_kd (am_m 69) = 1 := by decide +kernel
theorem mn_70 : am_na (am_m 70) = 4 := by decide +kernel
theorem mk_70 : am_kd (am_m 70) = 0 := by decide +kernel
theorem mn_71 : am_na (am_m 71) = 3 := by decide +kernel
theorem mk_71 : am_kd (am_m 71) = 1 := by decide +kernel
theorem mn_72 : am_na (am_m 72) = 2 := by decide +kernel
theorem mk_72 : am_kd (am_m 72) = 1 := by decide +kernel
theorem mn_73 : am_na (am_m 73) = 4 := by decide +kernel
theorem mk_73 : am_kd (am_m 73) = 0 := by decide +kernel
theorem mn_74 : am_na (am_m 74) = 3 := by decide +kernel
theorem mk_74 : am_kd (am_m 74) = 1 := by decide +kernel
theorem mn_75 : am_na (am_m 75) = 2 := by decide +kernel
theorem mk_75 : am_kd (am_m 75) = 1 := by decide +kernel
theorem mn_76 : am_na (am_m 76) = 2 := by decide +kernel
theorem mk_76 : am_kd (am_m 76) = 1 := by decide +kernel
theorem mn_77 : am_na (am_m 77) = 2 := by decide +kernel
theorem mk_77 : am_kd (am_m 77) = 1 := by decide +kernel
theorem mn_78 : am_na (am_m 78) = 3 := by decide +kernel
theorem mk_78 : am_kd (am_m 78) = 1 := by decide +kernel
theorem mn_79 : am_na (am_m 79) = 3 := by decide +kernel
theorem mk_79 : am_kd (am_m 79) = 1 := by decide +kernel
theorem mn_80 : am_na (am_m 80) = 3 := by decide +kernel
theorem mk_80 : am_kd (am_m 80) = 0 := by decide +kernel
theorem mn_81 : am_na (am_m 81) = 2 := by decide +kernel
theorem mk_81 : am_kd (am_m 81) = 1 := by decide +kernel
theorem mn_82 : am_na (am_m 82) = 5 := by decide +kernel
theorem mk_82 : am_kd (am_m 82) = 0 := by decide +kernel
theorem mn_83 : am_na (am_m 83) = 4 := by decide +kernel
theorem mk_83 : am_kd (am_m 83) = 1 := by decide +kernel
theorem mn_84 : am_na (am_m 84) = 4 := by decide +kernel
theorem mk_84 : am_kd (am_m 84) = 0 := by decide +kernel
theorem mn_85 : am_na (am_m 85) = 3 := by decide +kernel
theorem mk_85 : am_kd (am_m 85) = 1 := by decide +kernel
theorem mn_86 : am_na (am_m 86) = 2 := by decide +kernel
theorem mk_86 : am_kd (am_m 86) = 1 := by decide +kernel
theorem mn_87 : am_na (am_m 87) = 3 := by decide +kernel
theorem mk_87 : am_kd (am_m 87) = 0 := by decide +kernel
theorem mn_88 : am_na (am_m 88) = 2 := by decide +kernel
theorem mk_88 : am_kd (am_m 88) = 1 := by decide +kernel
theorem mn_89 : am_na (am_m 89) = 4 := by decide +kernel
theorem mk_89 : am_kd (am_m 89) = 0 := by decide +kernel
theorem mn_90 : am_na (am_m 90) = 3 := by decide +kernel
theorem mk_90 : am_kd (am_m 90) = 1 := by decide +kernel
theorem mn_91 : am_na (am_m 91) = 5 := by decide +kernel
theorem mk_91 : am_kd (am_m 91) = 1 := by decide +kernel
theorem mn_92 : am_na (am_m 92) = 5 := by decide +kernel
theorem mk_92 : am_kd (am_m 92) = 1 := by decide +kernel
theorem mn_93 : am_na (am_m 93) = 4 := by decide +kernel
theorem mk_93 : am_kd (am_m 93) = 1 := by decide +kernel
theorem mn_94 : am_na (am_m 94) = 6 := by decide +kernel
theorem mk_94 : am_kd (am_m 94) = 1 := by decide +kernel
theorem mn_95 : am_na (am_m 95) = 6 := by decide +kernel
theorem mk_95 : am_kd (am_m 95) = 1 := by decide +kernel
theorem mn_96 : am_na (am_m 96) = 3 := by decide +kernel
theorem mk_96 : am_kd (am_m 96) = 0 := by decide +kernel
theorem mn_97 : am_na (am_m 97) = 2 := by decide +kernel
theorem mk_97 : am_kd (am_m 97) = 1 := by decide +kernel
theorem mn_98 : am_na (am_m 98) = 2 := by decide +kernel
theorem mk_98 : am_kd (am_m 98) = 1 := by decide +kernel
theorem mn_99 : am_na (am_m 99) = 4 := by decide +kernel
theorem mk_99 : am_kd (am_m 99) = 1 := by decide +kernel
theorem mn_100 : am_na (am_m 100) = 2 := by decide +kernel
theorem mk_100 : am_kd (am_m 100) = 1 := by decide +kernel
theorem mn_101 : am_na (am_m 101) = 5 := by decide +kernel
theorem mk_101 : am_kd (am_m 101) = 1 := by decide +kernel
theorem mn_102 : am_na (am_m 102) = 6 := by decide +kernel
theorem mk_102 : am_kd (am_m 102) = 1 := by decide +kernel
theorem mn_103 : am_na (am_m 103) = 8 := by decide +kernel
theorem mk_103 : am_kd (am_m 103) = 0 := by decide +kernel
theorem mn_104 : am_na (am_m 104) = 7 := by decide +kernel
theorem mk_104 : am_kd (am_m 104) = 1 := by decide +kernel
theorem mn_105 : am_na (am_m 105) = 2 := by decide +kernel
theorem mk_105 : am_kd (am_m 105) = 1 := by decide +kernel
theorem mn_106 : am_na (am_m 106) = 3 := by decide +kernel
theorem mk_106 : am_kd (am_m 106) = 0 := by decide +kernel
theorem mn_107 : am_na (am_m 107) = 2 := by decide +kernel
theorem mk_107 : am_kd (am_m 107) = 1 := by decide +kernel
theorem mn_108 : am_na (am_m 108) = 2 := by decide +kernel
theorem mk_108 : am_kd (am_m 108) = 1 := by decide +kernel
theorem mn_109 : am_na (am_m 109) = 2 := by decide +kernel
theorem mk_109 : am_kd (am_m 109) = 1 := by decide +kernel
theorem mn_110 : am_na (am_m 110) = 4 := by decide +kernel
theorem mk_110 : am_kd (am_m 110) = 0 := by decide +kernel
theorem mn_111 : am_na (am_m 111) = 3 := by decide +kernel
theorem mk_111 : am_kd (am_m 111) = 1 := by decide +kernel
theorem mn_112 : am_na (am_m 112) = 3 := by decide +kernel
theorem mk_112 : am_kd (am_m 112) = 1 := by decide +kernel
theorem mn_113 : am_na (am_m 113) = 4 := by decide +kernel
theorem mk_113 : am_kd (am_m 113) = 0 := by decide +kernel
theorem mn_114 : am_na (am_m 114) = 3 := by decide +kernel
theorem mk_114 : am_kd (am_m 114) = 1 := by decide +kernel
theorem mn_115 : am_na (am_m 115) = 2 := by decide +kernel
theorem mk_115 : am_kd (am_m 115) = 1 := by decide +kernel
theorem mn_116 : am_na (am_m 116) = 3 := by decide +kernel
theorem mk_116 : am_kd (am_m 116) = 1 := by decide +kernel
theorem mn_117 : am_na (am_m 117) = 3 := by decide +kernel
theorem mk_117 : am_kd (am_m 117) = 1 := by decide +kernel
theorem mn_118 : am_na (am_m 118) = 1 := by decide +kernel
theorem mk_118 : am_kd (am_m 118) = 1 := by decide +kernel
theorem mn_119 : am_na (am_m 119) = 3 := by decide +kernel
theorem mk_119 : am_kd (am_m 119) = 1 := by decide +kernel
theorem mn_120 : am_na (am_m 120) = 3 := by decide +kernel
theorem mk_120 : am_kd (am_m 120) = 1 := by decide +kernel
theorem mn_121 : am_na (am_m 121) = 4 := by decide +kernel
theorem mk_121 : am_kd (am_m 121) = 1 := by decide +kernel
theorem mn_122 : am_na (am_m 122) = 4 := by decide +kernel
theorem mk_122 : am_kd (am_m 122) = 1 := by decide +kernel
theorem mn_123 : am_na (am_m 123) = 1 := by decide +kernel
theorem mk_123 : am_kd (am_m 123) = 1 := by decide +kernel
theorem mn_124 : am_na (am_m 124) = 1 := by decide +kernel
theorem mk_124 : am_kd (am_m 124) = 1 := by decide +kernel
theorem mn_125 : am_na (am_m 125) = 2 := by decide +kernel
theorem mk_125 : am_kd (am_m 125) = 0 := by decide +kernel
theorem mn_126 : am_na (am_m 126) = 1 := by decide +kernel
theorem mk_126 : am_kd (am_m 126) = 1 := by decide +kernel
theorem mn_127 : am_na (am_m 127) = 3 := by decide +kernel
theorem mk_127 : am_kd (am_m 127) = 1 := by decide +kernel
theorem mn_128 : am_na (am_m 128) = 1 := by decide +kernel
theorem mk_128 : am_kd (am_m 128) = 1 := by decide +kernel
theorem mn_129 : am_na (am_m 129) = 6 := by decide +kernel
theorem mk_129 : am_kd (am_m 129) = 0 := by decide +kernel
theorem mn_130 : am_na (am_m 130) = 5 := by decide +kernel
theorem mk_130 : am_kd (am_m 130) = 1 := by decide +kernel
theorem mn_131 : am_na (am_m 131) = 4 := by decide +kernel
theorem mk_131 : am_kd (am_m 131) = 0 := by decide +kernel
theorem mn_132 : am_na (am_m 132) = 3 := by decide +kernel
theorem mk_132 : am_kd (am_m 132) = 1 := by decide +kernel
theorem mn_133 : am_na (am_m 133) = 2 := by decide +kernel
theorem mk_133 : am_kd (am_m 133) = 1 := by decide +kernel
theorem mn_134 : am_na (am_m 134) = 2 := by decide +kernel
theorem mk_134 : am_kd (am_m 134) = 0 := by decide +kernel
theorem mn_135 : am_na (am_m 135) = 1 := by decide +kernel
theorem mk_135 : am_kd (am_m 135) = 0 := by decide +kernel
theorem mn_136 : am_na (am_m 136) = 2 := by decide +kernel
theorem mk_136 : am_kd (am_m 136) = 0 := by decide +kernel
theorem mn_137 : am_na (am_m 137) = 5 := by decide +kernel
theorem mk_137 : am_kd (am_m 137) = 0 := by decide +kernel
theorem mn_138 : am_na (am_m 138) = 4 := by decide +kernel
theorem mk_138 : am_kd (am_m 138) = 1 := by decide +kernel
theorem mn_139 : am_na (am_m 139) = 2 := by decide +kernel
theorem mk_139 : am_kd (am_m 139) = 1 := by decide +kernel
theorem mn_140 : am_na (am_m 140) = 3 := by decide +kernel
theorem mk_140 : am_kd (am_m 140) = 1 := by decide +kernel
theorem mn_141 : am_na (am_m 141) = 3 := by decide +kernel
theorem mk_141 : am_kd (am_m 141) = 1 := by decide +kernel
theorem mn_142 : am_na (am_m 142) = 2 := by decide +kernel
theorem mk_142 : am_kd (am_m 142) = 1 := by decide +kernel
theorem mn_143 : am_na (am_m 143) = 3 := by decide +kernel
theorem mk_143 : am_kd (am_m 143) = 1 := by decide +kernel
theorem mn_144 : am_na (am_m 144) = 2 := by decide +kernel
theorem mk_144 : am_kd (am_m 144) = 1 := by decide +kernel
theorem mn_145 : am_na (am_m 145) = 4 := by decide +kernel
theorem mk_145 : am_kd (am_m 145) = 0 := by decide +kernel
theorem mn_146 : am_na (am_m 146) = 3 := by decide +kernel
theorem mk_146 : am_kd (am_m 146) = 1 := by decide +kernel
theorem mn_147 : am_na (am_m 147) = 4 := by decide +kernel
theorem mk_147 : am_kd (am_m 147) = 0 := by decide +kernel
theorem mn_148 : am_na (am_m 148) = 3 := by decide +kernel
theorem mk_148 : am_kd (am_m 148) = 1 := by decide +kernel
theorem mn_149 : am_na (am_m 149) = 4 := by decide +kernel
theorem mk_149 : am_kd (am_m 149) = 0 := by decide +kernel
theorem mn_150 : am_na (am_m 150) = 3 := by decide +kernel
theorem mk_150 : am_kd (am_m 150) = 1 := by decide +kernel
theorem mn_151 : am_na (am_m 151) = 2 := by decide +kernel
theorem mk_151 : am_kd (am_m 151) = 0 := by decide +kernel
theorem mn_152 : am_na (am_m 152) = 2 := by decide +kernel
theorem mk_152 : am_kd (am_m 152) = 0 := by decide +kernel
theorem mn_153 : am_na (am_m 153) = 4 := by decide +kernel
theorem mk_153 : am_kd (am_m 153) = 0 := by decide +kernel
theorem mn_154 : am_na (am_m 154) = 3 := by decide +kernel
theorem mk_154 : am_kd (am_m 154) = 1 := by decide +kernel
theorem mn_155 : am_na (am_m 155) = 2 := by decide +kernel
theorem mk_155 : am_kd (am_m 155) = 1 := by decide +kernel
theorem mn_156 : am_na (am_m 156) = 4 := by decide +kernel
theorem mk_156 : am_kd (am_m 156) = 0 := by decide +kernel
theorem mn_157 : am_na (am_m 157) = 3 := by decide +kernel
theorem mk_157 : am_kd (am_m 157) = 1 := by decide +kernel
theorem mn_158 : am_na (am_m 158) = 2 := by decide +kernel
theorem mk_158 : am_kd (am_m 158) = 1 := by decide +kernel
theorem mn_159 : am_na (am_m 159) = 4 := by decide +kernel
theorem mk_159 : am_kd (am_m 159) = 1 := by decide +kernel
theorem mn_160 : am_na (am_m 160) = 2 := by decide +kernel
theorem mk_160 : am_kd (am_m 160) = 1 := by decide +kernel
theorem mn_161 : am_na (am_m 161) = 1 := by decide +kernel
theorem mk_161 : am_kd (am_m 161) = 1 := by decide +kernel
theorem mn_162 : am_na (am_m 162) = 1 := by decide +kernel
theorem mk_162 : am_kd (am_m 162) = 1 := by decide +kernel
theorem mn_163 : am_na (am_m 163) = 2 := by decide +kernel
theorem mk_163 : am_kd (am_m 163) = 1 := by decide +kernel
theorem mn_164 : am_na (am_m 164) = 4 := by decide +kernel
theorem mk_164 : am_kd (am_m 164) = 1 := by decide +kernel
theorem mn_165 : am_na (am_m 165) = 3 := by decide +kernel
theorem mk_165 : am_kd (am_m 165) = 1 := by decide +kernel
theorem mn_166 : am_na (am_m 166) = 3 := by decide +kernel
theorem mk_166 : am_kd (am_m 166) = 1 := by decide +kernel
theorem mn_167 : am_na (am_m 167) = 3 := by decide +kernel
theorem mk_167 : am_kd (am_m 167) = 1 := by decide +kernel
theorem mn_168 : am_na (am_m 168) = 4 := by decide +kernel
theorem mk_168 : am_kd (am_m 168) = 1 := by decide +kernel
theorem mn_169 : am_na (am_m 169) = 2 := by decide +kernel
theorem mk_169 : am_kd (am_m 169) = 1 := by decide +kernel
theorem mn_170 : am_na (am_m 170) = 4 := by decide +kernel
theorem mk_170 : am_kd (am_m 170) = 1 := by decide +kernel
theorem mn_171 : am_na (am_m 171) = 3 := by decide +kernel
theorem mk_171 : am_kd (am_m 171) = 1 := by decide +kernel
theorem mn_172 : am_na (am_m 172) = 3 := by decide +kernel
theorem mk_172 : am_kd (am_m 172) = 1 := by decide +kernel
theorem mn_173 : am_na (am_m 173) = 3 := by decide +kernel
theorem mk_173 : am_kd (am_m 173) = 1 := by decide +kernel
theorem mn_174 : am_na (am_m 174) = 1 := by decide +kernel
theorem mk_174 : am_kd (am_m 174) = 0 := by decide +kernel
theorem mn_175 : am_na (am_m 175) = 3 := by decide +kernel
theorem mk_175 : am_kd (am_m 175) = 1 := by decide +kernel
theorem mn_176 : am_na (am_m 176) = 3 := by decide +kernel
theorem mk_176 : am_kd (am_m 176) = 1 := by decide +kernel
theorem mn_177 : am_na (am_m 177) = 3 := by decide +kernel
theorem mk_177 : am_kd (am_m 177) = 1 := by decide +kernel
theorem mn_178 : am_na (am_m 178) = 3 := by decide +kernel
theorem mk_178 : am_kd (am_m 178) = 1 := by decide +kernel
theorem mn_179 : am_na (am_m 179) = 2 := by decide +kernel
theorem mk_179 : am_kd (am_m 179) = 1 := by decide +kernel
theorem mn_180 : am_na (am_m 180) = 2 := by decide +kernel
theorem mk_180 : am_kd (am_m 180) = 1 := by decide +kernel
theorem mn_181 : am_na (am_m 181) = 2 := by decide +kernel
theorem mk_181 : am_kd (am_m 181) = 1 := by decide +kernel
theorem mn_182 : am_na (am_m 182) = 4 := by decide +kernel
theorem mk_182 : am_kd (am_m 182) = 1 := by decide +kernel
theorem mn_183 : am_na (am_m 183) = 2 := by decide +kernel
theorem mk_183 : am_kd (am_m 183) = 1 := by decide +kernel
theorem mn_184 : am_na (am_m 184) = 2 := by decide +kernel
theorem mk_184 : am_kd (am_m 184) = 1 := by decide +kernel
theorem mn_185 : am_na (am_m 185) = 5 := by decide +kernel
theorem mk_185 : am_kd (am_m 185) = 0 := by decide +kernel
theorem mn_186 : am_na (am_m 186) = 4 := by decide +kernel
theorem mk_186 : am_kd (am_m 186) = 1 := by decide +kernel
theorem mn_187 : am_na (am_m 187) = 2 := by decide +kernel
theorem mk_187 : am_kd (am_m 187) = 1 := by decide +kernel
theorem mn_188 : am_na (am_m 188) = 5 := by decide +kernel
theorem mk_188 : am_kd (am_m 188) = 0 := by decide +kernel
theorem mn_189 : am_na (am_m 189) = 4 := by decide +kernel
theorem mk_189 : am_kd (am_m 189) = 1 := by decide +kernel
theorem mn_190 : am_na (am_m 190) = 5 := by decide +kernel
theorem mk_190 : am_kd (am_m 190) = 1 := by decide +kernel
theorem mn_191 : am_na (am_m 191) = 4 := by decide +kernel
theorem mk_191 : am_kd (am_m 191) = 1 := by decide +kernel
theorem mn_192 : am_na (am_m 192) = 2 := by decide +kernel
theorem mk_192 : am_kd (am_m 192) = 1 := by decide +kernel
theorem mn_193 : am_na (am_m 193) = 1 := by decide +kernel
theorem mk_193 : am_kd (am_m 193) = 1 := by decide +kernel
theorem mn_194 : am_na (am_m 194) = 2 := by decide +kernel
theorem mk_194 : am_kd (am_m 194) = 1 := by decide +kernel
theorem mn_195 : am_na (am_m 195) = 4 := by decide +kernel
theorem mk_195 : am_kd (am_m 195) = 0 := by decide +kernel
theorem mn_196 : am_na (am_m 196) = 3 := by decide +kernel
theorem mk_196 : am_kd (am_m 196) = 1 := by decide +kernel
theorem mn_197 : am_na (am_m 197) = 5 := by decide +kernel
theorem mk_197 : am_kd (am_m 197) = 0 := by decide +kernel
theorem mn_198 : am_na (am_m 198) = 4 := by decide +kernel
theorem mk_198 : am_kd (am_m 198) = 1 := by decide +kernel
theorem mn_199 : am_na (am_m 199) = 7 := by decide +kernel
theorem mk_199 : am_kd (am_m 199) = 0 := by decide +kernel
theorem mn_200 : am_na (am_m 200) = 6 := by decide +kernel
theorem mk_200 : am_kd (am_m 200) = 1 := by decide +kernel
theorem mn_201 : am_na (am_m 201) = 2 := by decide +kernel
theorem mk_201 : am_kd (am_m 201) = 1 := by decide +kernel
theorem mn_202 : am_na (am_m 202) = 4 := by decide +kernel
theorem mk_202 : am_kd (am_m 202) = 1 := by decide +kernel
theorem mn_203 : am_na (am_m 203) = 3 := by decide +kernel
theorem mk_203 : am_kd (am_m 203) = 1 := by decide +kernel
theorem mn_204 : am_na (am_m 204) = 3 := by decide +kernel
theorem mk_204 : am_kd (am_m 204) = 1 := by decide +kernel
theorem mn_205 : am_na (am_m 205) = 3 := by decide +kernel
theorem mk_205 : am_kd (am_m 205) = 1 := by decide +kernel
theorem mn_206 : am_na (am_m 206) = 3 := by decide +kernel
theorem mk_206 : am_kd (am_m 206) = 1 := by decide +kernel
theorem mn_207 : am_na (am_m 207) = 3 := by decide +kernel
theorem mk_207 : am_kd (am_m 207) = 1 := by decide +kernel
theorem mn_208 : am_na (am_m 208) = 3 := by decide +kernel
theorem mk_208 : am_kd (am_m 208) = 1 := by decide +kernel
theorem mn_209 : am_na (am_m 209) = 3 := by decide +kernel
theorem mk_209 : am_kd (am_m 209) = 1 := by decide +kernel
theorem mn_210 : am_na (am_m 210) = 3 := by decide +kernel
theorem mk_210 : am_kd (am_m 210) = 0 := by decide +kernel
theorem mn_211 : am_na (am_m 211) = 2 := by decide +kernel
theorem mk_211 : am_kd (am_m 211) = 1 := by decide +kernel
theorem mn_212 : am_na (am_m 212) = 4 := by decide +kernel
theorem mk_212 : am_kd (am_m 212) = 0 := by decide +kernel
theorem mn_213 : am_na (am_m 213) = 3 := by decide +kernel
theorem mk_213 : am_kd (am_m 213) = 1 := by decide +kernel
theorem mn_214 : am_na (am_m 214) = 3 := by decide +kernel
theorem mk_214 : am_kd (am_m 214) = 1 := by decide +kernel
theorem mn_215 : am_na (am_m 215) = 4 := by decide +kernel
theorem mk_215 : am_kd (am_m 215) = 0 := by decide +kernel
theorem mn_216 : am_na (am_m 216) = 3 := by decide +kernel
theorem mk_216 : am_kd (am_m 216) = 1 := by decide +kernel
theorem mn_217 : am_na (am_m 217) = 3 := by decide +kernel
theorem mk_217 : am_kd (am_m 217) = 1 := by decide +kernel
theorem mn_218 : am_na (am_m 218) = 3 := by decide +kernel
theorem mk_218 : am_kd (am_m 218) = 1 := by decide +kernel
theorem mn_219 : am_na (am_m 219) = 2 := by decide +kernel
theorem mk_219 : am_kd (am_m 219) = 1 := by decide +kernel
theorem mn_220 : am_na (am_m 220) = 1 := by decide +kernel
theorem mk_220 : am_kd (am_m 220) = 1 := by decide +kernel
theorem mn_221 : am_na (am_m 221) = 3 := by decide +kernel
theorem mk_221 : am_kd (am_m 221) = 1 := by decide +kernel
theorem mn_222 : am_na (am_m 222) = 3 := by decide +kernel
theorem mk_222 : am_kd (am_m 222) = 1 := by decide +kernel
theorem mn_223 : am_na (am_m 223) = 2 := by decide +kernel
theorem mk_223 : am_kd (am_m 223) = 1 := by decide +kernel
theorem mn_224 : am_na (am_m 224) = 1 := by decide +kernel
theorem mk_224 : am_kd (am_m 224) = 1 := by decide +kernel
theorem mn_225 : am_na (am_m 225) = 3 := by decide +kernel
theorem mk_225 : am_kd (am_m 225) = 1 := by decide +kernel
theorem mn_226 : am_na (am_m 226) = 2 := by decide +kernel
theorem mk_226 : am_kd (am_m 226) = 1 := by decide +kernel
theorem mn_227 : am_na (am_m 227) = 1 := by decide +kernel
theorem mk_227 : am_kd (am_m 227) = 1 := by decide +kernel
theorem mn_228 : am_na (am_m 228) = 2 := by decide +kernel
theorem mk_228 : am_kd (am_m 228) = 1 := by decide +kernel
theorem mn_229 : am_na (am_m 229) = 2 := by decide +kernel
theorem mk_229 : am_kd (am_m 229) = 1 := by decide +kernel
theorem mn_230 : am_na (am_m 230) = 1 := by decide +kernel
theorem mk_230 : am_kd (am_m 230) = 1 := by decide +kernel
theorem mn_231 : am_na (am_m 231) = 4 := by decide +kernel
theorem mk_231 : am_kd (am_m 231) = 0 := by decide +kernel
theorem mn_232 : am_na (am_m 232) = 3 := by decide +kernel
theorem mk_232 : am_kd (am_m 232) = 1 := by decide +kernel
theorem mn_233 : am_na (am_m 233) = 1 := by decide +kernel
theorem mk_233 : am_kd (am_m 233) = 1 := by decide +kernel
theorem mn_234 : am_na (am_m 234) = 3 := by decide +kernel
theorem mk_234 : am_kd (am_m 234) = 0 := by decide +kernel
theorem mn_235 : am_na (am_m 235) = 2 := by decide +kernel
theorem mk_235 : am_kd (am_m 235) = 1 := by decide +kernel
theorem mn_236 : am_na (am_m 236) = 4 := by decide +kernel
theorem mk_236 : am_kd (am_m 236) = 0 := by decide +kernel
theorem mn_237 : am_na (am_m 237) = 3 := by decide +kernel
theorem mk_237 : am_kd (am_m 237) = 1 := by decide +kernel
theorem mn_238 : am_na (am_m 238) = 5 := by decide +kernel
theorem mk_238 : am_kd (am_m 238) = 0 := by decide +kernel
theorem mn_239 : am_na (am_m 239) = 4 := by decide +kernel
theorem mk_239 : am_kd (am_m 239) = 1 := by decide +kernel
theorem mn_240 : am_na (am_m 240) = 2 := by decide +kernel
theorem mk_240 : am_kd (am_m 240) = 1 := by decide +kernel
theorem mn_241 : am_na (am_m 241) = 4 := by decide +kernel
theorem mk_241 : am_kd (am_m 241) = 1 := by decide +kernel
theorem mn_242 : am_na (am_m 242) = 1 := by decide +kernel
theorem mk_242 : am_kd (am_m 242) = 0 := by decide +kernel
theorem mn_243 : am_na (am_m 243) = 1 := by decide +kernel
theorem mk_243 : am_kd (am_m 243) = 0 := by decide +kernel
theorem mn_244 : am_na (am_m 244) = 4 := by decide +kernel
theorem mk_244 : am_kd (am_m 244) = 0 := by decide +kernel
theorem mn_245 : am_na (am_m 245) = 3 := by decide +kernel
theorem mk_245 : am_kd (am_m 245) = 1 := by decide +kernel
theorem mn_246 : am_na (am_m 246) = 3 := by decide +kernel
theorem mk_246 : am_kd (am_m 246) = 1 := by decide +kernel
theorem mn_247 : am_na (am_m 247) = 4 := by decide +kernel
theorem mk_247 : am_kd (am_m 247) = 0 := by decide +kernel
theorem mn_248 : am_na (am_m 248) = 3 := by decide +kernel
theorem mk_248 : am_kd (am_m 248) = 1 := by decide +kernel
theorem mn_249 : am_na (am_m 249) = 2 := by decide +kernel
theorem mk_249 : am_kd (am_m 249) = 0 := by decide +kernel
theorem mn_250 : am_na (am_m 250) = 3 := by decide +kernel
theorem mk_250 : am_kd (am_m 250) = 0 := by decide +kernel
theorem mn_251 : am_na (am_m 251) = 2 := by decide +kernel
theorem mk_251 : am_kd (am_m 251) = 1 := by decide +kernel
theorem mn_252 : am_na (am_m 252) = 3 := by decide +kernel
theorem mk_252 : am_kd (am_m 252) = 1 := by decide +kernel
theorem mn_253 : am_na (am_m 253) = 3 := by decide +kernel
theorem mk_253 : am_kd (am_m 253) = 1 := by decide +kernel
theorem mn_254 : am_na (am_m 254) = 4 := by decide +kernel
theorem mk_254 : am_kd (am_m 254) = 0 := by decide +kernel
theorem mn_255 : am_na (am_m 255) = 3 := by decide +kernel
theorem mk_255 : am_kd (am_m 255) = 1 := by decide +kernel
theorem mn_256 : am_na (am_m 256) = 4 := by decide +kernel
theorem mk_256 : am_kd (am_m 256) = 0 := by decide +kernel
theorem mn_257 : am_na (am_m 257) = 3 := by decide +kernel
theorem mk_257 : am_kd (am_m 257) = 1 := by decide +kernel
theorem mn_258 : am_na (am_m 258) = 3 := by decide +kernel
theorem mk_258 : am_kd (am_m 258) = 0 := by decide +kernel
theorem mn_259 : am_na (am_m 259) = 2 := by decide +kernel
theorem mk_259 : am_kd (am_m 259) = 1 := by decide +kernel
theorem mn_260 : am_na (am_m 260) = 3 := by decide +kernel
theorem mk_260 : am_kd (am_m 260) = 0 := by decide +kernel
theorem mn_261 : am_na (am_m 261) = 2 := by decide +kernel
theorem mk_261 : am_kd (am_m 261) = 1 := by decide +kernel
theorem mn_262 : am_na (am_m 262) = 3 := by decide +kernel
theorem mk_262 : am_kd (am_m 262) = 1 := by decide +kernel
theorem mn_263 : am_na (am_m 263) = 2 := by decide +kernel
theorem mk_263 : am_kd (am_m 263) = 1 := by decide +kernel
theorem mn_264 : am_na (am_m 264) = 6 := by decide +kernel
theorem mk_264 : am_kd (am_m 264) = 1 := by decide +kernel
theorem mn_265 : am_na (am_m 265) = 5 := by decide +kernel
theorem mk_265 : am_kd (am_m 265) = 1 := by decide +kernel
theorem mn_266 : am_na (am_m 266) = 3 := by decide +kernel
theorem mk_266 : am_kd (am_m 266) = 1 := by decide +kernel
theorem mn_267 : am_na (am_m 267) = 3 := by decide +kernel
theorem mk_267 : am_kd (am_m 267) = 0 := by decide +kernel
theorem mn_268 : am_na (am_m 268) = 2 := by decide +kernel
theorem mk_268 : am_kd (am_m 268) = 1 := by decide +kernel
theorem mn_269 : am_na (am_m 269) = 3 := by decide +kernel
theorem mk_269 : am_kd (am_m 269) = 1 := by decide +kernel
theorem mn_270 : am_na (am_m 270) = 3 := by decide +kernel
theorem mk_270 : am_kd (am_m 270) = 1 := by decide +kernel
theorem mn_271 : am_na (am_m 271) = 3 := by decide +kernel
theorem mk_271 : am_kd (am_m 271) = 1 := by decide +kernel
theorem mn_272 : am_na (am_m 272) = 4 := by decide +kernel
theorem mk_272 : am_kd (am_m 272) = 1 := by decide +kernel
theorem mn_273 : am_na (am_m 273) = 2 := by decide +kernel
theorem mk_273 : am_kd (am_m 273) = 1 := by decide +kernel
theorem mn_274 : am_na (am_m 274) = 2 := by decide +kernel
theorem mk_274 : am_kd (am_m 274) = 1 := by decide +kernel
theorem mn_275 : am_na (am_m 275) = 4 := by decide +kernel
theorem mk_275 : am_kd (am_m 275) = 1 := by decide +kernel
theorem mn_276 : am_na (am_m 276) = 3 := by decide +kernel
theorem mk_276 : am_kd (am_m 276) = 1 := by decide +kernel
theorem mn_277 : am_na (am_m 277) = 4 := by decide +kernel
theorem mk_277 : am_kd (am_m 277) = 1 := by decide +kernel
theorem mn_278 : am_na (am_m 278) = 2 := by decide +kernel
theorem mk_278 : am_kd (am_m 278) = 1 := by decide +kernel
theorem mn_279 : am_na (am_m 279) = 3 := by decide +kernel
theorem mk_279 : am_kd (am_m 279) = 1 := by decide +kernel
theorem mn_280 : am_na (am_m 280) = 3 := by decide +kernel
theorem mk_280 : am_kd (am_m 280) = 1 := by decide +kernel
theorem mn_281 : am_na (am_m 281) = 4 := by decide +kernel
theorem mk_281 : am_kd (am_m 281) = 1 := by decide +kernel
theorem mn_282 : am_na (am_m 282) = 3 := by decide +kernel
theorem mk_282 : am_kd (am_m 282) = 1 := by decide +kernel
theorem mn_283 : am_na (am_m 283) = 4 := by decide +kernel
theorem mk_283 : am_kd (am_m 283) = 0 := by decide +kernel
theorem mn_284 : am_na (am_m 284) = 3 := by decide +kernel
theorem mk_284 : am_kd (am_m 284) = 1 := by decide +kernel
theorem mn_285 : am_na (am_m 285) = 2 := by decide +kernel
theorem mk_285 : am_kd (am_m 285) = 1 := by decide +kernel
theorem mn_286 : am_na (am_m 286) = 4 := by decide +kernel
theorem mk_286 : am_kd (am_m 286) = 0 := by decide +kernel
theorem mn_287 : am_na (am_m 287) = 3 := by decide +kernel
theorem mk_287 : am_kd (am_m 287) = 1 := by decide +kernel
theorem mn_288 : am_na (am_m 288) = 4 := by decide +kernel
theorem mk_288 : am_kd (am_m 288) = 1 := by decide +kernel
theorem mn_289 : am_na (am_m 289) = 3 := by decide +kernel
theorem mk_289 : am_kd (am_m 289) = 1 := by decide +kernel
theorem mn_290 : am_na (am_m 290) = 4 := by decide +kernel
theorem mk_290 : am_kd (am_m 290) = 1 := by decide +kernel
theorem mn_291 : am_na (am_m 291) = 2 := by decide +kernel
theorem mk_291 : am_kd (am_m 291) = 0 := by decide +kernel
theorem mn_292 : am_na (am_m 292) = 3 := by decide +kernel
theorem mk_292 : am_kd (am_m 292) = 0 := by decide +kernel
theorem mn_293 : am_na (am_m 293) = 3 := by decide +kernel
theorem mk_293 : am_kd (am_m 293) = 1 := by decide +kernel
theorem mn_294 : am_na (am_m 294) = 3 := by decide +kernel
theorem mk_294 : am_kd (am_m 294) = 1 := by decide +kernel
theorem mn_295 : am_na (am_m 295) = 2 := by decide +kernel
theorem mk_295 : am_kd (am_m 295) = 0 := by decide +kernel
theorem mn_296 : am_na (am_m 296) = 3 := by decide +kernel
theorem mk_296 : am_kd (am_m 296) = 1 := by decide +kernel
theorem mn_297 : am_na (am_m 297) = 3 := by decide +kernel
theorem mk_297 : am_kd (am_m 297) = 1 := by decide +kernel
theorem mn_298 : am_na (am_m 298) = 3 := by decide +kernel
theorem mk_298 : am_kd (am_m 298) = 1 := by decide +kernel
theorem mn_299 : am_na (am_m 299) = 3 := by decide +kernel
theorem mk_299 : am_kd (am_m 299) = 0 := by decide +kernel
theorem mn_300 : am_na (am_m 300) = 2 := by decide +kernel
theorem mk_300 : am_kd (am_m 300) = 1 := by decide +kernel
theorem mn_301 : am_na (am_m 301) = 3 := by decide +kernel
theorem mk_301 : am_kd (am_m 301) = 0 := by decide +kernel
theorem mn_302 : am_na (am_m 302) = 2 := by decide +kernel
theorem mk_302 : am_kd (am_m 302) = 1 := by decide +kernel
theorem mn_303 : am_na (am_m 303) = 2 := by decide +kernel
theorem mk_303 : am_kd (am_m 303) = 1 := by decide +kernel
theorem mn_304 : am_na (am_m 304) = 5 := by decide +kernel
theorem mk_304 : am_kd (am_m 304) = 0 := by decide +kernel
theorem mn_305 : am_na (am_m 305) = 4 := by decide +kernel
theorem mk_305 : am_kd (am_m 305) = 1 := by decide +kernel
theorem mn_306 : am_na (am_m 306) = 4 := by decide +kernel
theorem mk_306 : am_kd (am_m 306) = 0 := by decide +kernel
theorem mn_307 : am_na (am_m 307) = 3 := by decide +kernel
theorem mk_307 : am_kd (am_m 307) = 1 := by decide +kernel
theorem mn_308 : am_na (am_m 308) = 3 := by decide +kernel
theorem mk_308 : am_kd (am_m 308) = 0 := by decide +kernel
theorem mn_309 : am_na (am_m 309) = 2 := by decide +kernel
theorem mk_309 : am_kd (am_m 309) = 1 := by decide +kernel
theorem mn_310 : am_na (am_m 310) = 3 := by decide +kernel
theorem mk_310 : am_kd (am_m 310) = 1 := by decide +kernel
theorem mn_311 : am_na (am_m 311) = 2 := by decide +kernel
theorem mk_311 : am_kd (am_m 311) = 1 := by decide +kernel
theorem mn_312 : am_na (am_m 312) = 3 := by decide +kernel
theorem mk_312 : am_kd (am_m 312) = 1 := by decide +kernel
theorem mn_313 : am_na (am_m 313) = 3 := by decide +kernel
theorem mk_313 : am_kd (am_m 313) = 0 := by decide +kernel
theorem mn_314 : am_na (am_m 314) = 2 := by decide +kernel
theorem mk_314 : am_kd (am_m 314) = 1 := by decide +kernel
theorem mn_315 : am_na (am_m 315) = 2 := by decide +kernel
theorem mk_315 : am_kd (am_m 315) = 1 := by decide +kernel
theorem mn_316 : am_na (am_m 316) = 3 := by decide +kernel
theorem mk_316 : am_kd (am_m 316) = 1 := by decide +kernel
theorem mn_317 : am_na (am_m 317) = 3 := by decide +kernel
theorem mk_317 : am_kd (am_m 317) = 0 := by decide +kernel
theorem mn_318 : am_na (am_m 318) = 2 := by decide +kernel
theorem mk_318 : am_kd (am_m 318) = 1 := by decide +kernel
theorem mn_319 : am_na (am_m 319) = 2 := by decide +kernel
theorem mk_319 : am_kd (am_m 319) = 1 := by decide +kernel
theorem mn_320 : am_na (am_m 320) = 3 := by decide +kernel
theorem mk_320 : am_kd (am_m 320) = 0 := by decide +kernel
theorem mn_321 : am_na (am_m 321) = 2 := by decide +kernel
theorem mk_321 : am_kd (am_m 321) = 1 := by decide +kernel
theorem mn_322 : am_na (am_m 322) = 2 := by decide +kernel
theorem mk_322 : am_kd (am_m 322) = 1 := by decide +kernel
theorem mn_323 : am_na (am_m 323) = 1 := by decide +kernel
theorem mk_323 : am_kd (am_m 323) = 2 := by decide +kernel
theorem mn_324 : am_na (am_m 324) = 1 := by decide +kernel
theorem mk_324 : am_kd (am_m 324) = 1 := by decide +kernel
theorem mn_325 : am_na (am_m 325) = 2 := by decide +kernel
theorem mk_325 : am_kd (am_m 325) = 1 := by decide +kernel
theorem mn_326 : am_na (am_m 326) = 2 := by decide +kernel
theorem mk_326 : am_kd (am_m 326) = 1 := by decide +kernel
theorem mn_327 : am_na (am_m 327) = 3 := by decide +kernel
theorem mk_327 : am_kd (am_m 327) = 0 := by decide +kernel
theorem mn_328 : am_na (am_m 328) = 1 := by decide +kernel
theorem mk_328 : am_kd (am_m 328) = 1 := by decide +kernel
theorem mn_329 : am_na (am_m 329) = 1 := by decide +kernel
theorem mk_329 : am_kd (am_m 329) = 1 := by decide +kernel
theorem mn_330 : am_na (am_m 330) = 2 := by decide +kernel
theorem mk_330 : am_kd (am_m 330) = 0 := by decide +kernel
theorem mn_331 : am_na (am_m 331) = 2 := by decide +kernel
theorem mk_331 : am_kd (am_m 331) = 1 := by decide +kernel
theorem mn_332 : am_na (am_m 332) = 2 := by decide +kernel
theorem mk_332 : am_kd (am_m 332) = 1 := by decide +kernel
theorem mn_333 : am_na (am_m 333) = 1 := by decide +kernel
theorem mk_333 : am_kd (am_m 333) = 0 := by decide +kernel
theorem mn_334 : am_na (am_m 334) = 1 := by decide +kernel
theorem mk_334 : am_kd (am_m 334) = 0 := by decide +kernel
theorem mn_335 : am_na (am_m 335) = 3 := by decide +kernel
theorem mk_335 : am_kd (am_m 335) = 1 := by decide +kernel
theorem mn_336 : am_na (am_m 336) = 2 := by decide +kernel
theorem mk_336 : am_kd (am_m 336) = 1 := by decide +kernel
theorem mn_337 : am_na (am_m 337) = 1 := by decide +kernel
theorem mk_337 : am_kd (am_m 337) = 1 := by decide +kernel
theorem mn_338 : am_na (am_m 338) = 1 := by decide +kernel
theorem mk_338 : am_kd (am_m 338) = 0 := by decide +kernel
theorem mn_339 : am_na (am_m 339) = 2 := by decide +kernel
theorem mk_339 : am_kd (am_m 339) = 1 := by decide +kernel
theorem mn_340 : am_na (am_m 340) = 1 := by decide +kernel
theorem mk_340 : am_kd (am_m 340) = 1 := by decide +kernel
theorem mn_341 : am_na (am_m 341) = 1 := by decide +kernel
theorem mk_341 : am_kd (am_m 341) = 1 := by decide +kernel
theorem mn_342 : am_na (am_m 342) = 1 := by decide +kernel
theorem mk_342 : am_kd (am_m 342) = 1 := by decide +kernel
theorem mn_343 : am_na (am_m 343) = 1 := by decide +kernel
theorem mk_343 : am_kd (am_m 343) = 0 := by decide +kernel
theorem mn_344 : am_na (am_m 344) = 1 := by decide +kernel
theorem mk_344 : am_kd (am_m 344) = 1 := by decide +kernel
theorem mn_345 : am_na (am_m 345) = 1 := by decide +kernel
theorem mk_345 : am_kd (am_m 345) = 1 := by decide +kernel
theorem mn_346 : am_na (am_m 346) = 1 := by decide +kernel
theorem mk_346 : am_kd (am_m 346) = 0 := by decide +kernel
theorem mn_347 : am_na (am_m 347) = 1 := by decide +kernel
theorem mk_347 : am_kd (am_m 347) = 1 := by decide +kernel
theorem mn_348 : am_na (am_m 348) = 1 := by decide +kernel
theorem mk_348 : am_kd (am_m 348) = 0 := by decide +kernel
theorem mn_349 : am_na (am_m 349) = 1 := by decide +kernel
theorem mk_349 : am_kd (am_m 349) = 0 := by decide +kernel
theorem mn_350 : am_na (am_m 350) = 3 := by decide +kernel
theorem mk_350 : am_kd (am_m 350) = 1 := by decide +kernel
theorem mn_351 : am_na (am_m 351) = 1 := by decide +kernel
theorem mk_351 : am_kd (am_m 351) = 1 := by decide +kernel
theorem mn_352 : am_na (am_m 352) = 1 := by decide +kernel
theorem mk_352 : am_kd (am_m 352) = 1 := by decide +kernel
theorem mn_353 : am_na (am_m 353) = 3 := by decide +kernel
theorem mk_353 : am_kd (am_m 353) = 0 := by decide +kernel
theorem mn_354 : am_na (am_m 354) = 1 := by decide +kernel
theorem mk_354 : am_kd (am_m 354) = 1 := by decide +kernel
theorem mn_355 : am_na (am_m 355) = 1 := by decide +kernel
theorem mk_355 : am_kd (am_m 355) = 1 := by decide +kernel
theorem mn_356 : am_na (am_m 356) = 7 := by decide +kernel
theorem mk_356 : am_kd (am_m 356) = 1 := by decide +kernel
theorem mn_357 : am_na (am_m 357) = 2 := by decide +kernel
theorem mk_357 : am_kd (am_m 357) = 1 := by decide +kernel
theorem mn_358 : am_na (am_m 358) = 2 := by decide +kernel
theorem mk_358 : am_kd (am_m 358) = 1 := by decide +kernel
theorem mn_359 : am_na (am_m 359) = 2 := by decide +kernel
theorem mk_359 : am_kd (am_m 359) = 1 := by decide +kernel
theorem mn_360 : am_na (am_m 360) = 1 := by decide +kernel
theorem mk_360 : am_kd (am_m 360) = 1 := by decide +kernel
theorem mn_361 : am_na (am_m 361) = 1 := by decide +kernel
theorem mk_361 : am_kd (am_m 361) = 1 := by decide +kernel
theorem mn_362 : am_na (am_m 362) = 2 := by decide +kernel
theorem mk_362 : am_kd (am_m 362) = 1 := by decide +kernel
theorem mn_363 : am_na (am_m 363) = 2 := by decide +kernel
theorem mk_363 : am_kd (am_m 363) = 1 := by decide +kernel
theorem mn_364 : am_na (am_m 364) = 1 := by decide +kernel
theorem mk_364 : am_kd (am_m 364) = 0 := by decide +kernel
theorem mn_365 : am_na (am_m 365) = 1 := by decide +kernel
theorem mk_365 : am_kd (am_m 365) = 1 := by decide +kernel
theorem mn_366 : am_na (am_m 366) = 1 := by decide +kernel
theorem mk_366 : am_kd (am_m 366) = 0 := by decide +kernel
theorem mn_367 : am_na (am_m 367) = 2 := by decide +kernel
theorem mk_367 : am_kd (am_m 367) = 0 := by decide +kernel
theorem mn_368 : am_na (am_m 368) = 3 := by decide +kernel
theorem mk_368 : am_kd (am_m 368) = 1 := by decide +kernel
theorem mn_369 : am_na (am_m 369) = 1 := by decide +kernel
theorem mk_369 : am_kd (am_m 369) = 1 := by decide +kernel
theorem mn_370 : am_na (am_m 370) = 3 := by decide +kernel
theorem mk_370 : am_kd (am_m 370) = 1 := by decide +kernel
theorem mn_371 : am_na (am_m 371) = 2 := by decide +kernel
theorem mk_371 : am_kd (am_m 371) = 1 := by decide +kernel
theorem mn_372 : am_na (am_m 372) = 2 := by decide +kernel
theorem mk_372 : am_kd (am_m 372) = 1 := by decide +kernel
theorem mn_373 : am_na (am_m 373) = 4 := by decide +kernel
theorem mk_373 : am_kd (am_m 373) = 1 := by decide +kernel
theorem mn_374 : am_na (am_m 374) = 3 := by decide +kernel
theorem mk_374 : am_kd (am_m 374) = 1 := by decide +kernel
theorem mn_375 : am_na (am_m 375) = 2 := by decide +kernel
theorem mk_375 : am_kd (am_m 375) = 1 := by decide +kernel
theorem mn_376 : am_na (am_m 376) = 2 := by decide +kernel
theorem mk_376 : am_kd (am_m 376) = 1 := by decide +kernel
theorem mn_377 : am_na (am_m 377) = 1 := by decide +kernel
theorem mk_377 : am_kd (am_m 377) = 1 := by decide +kernel
theorem mn_378 : am_na (am_m 378) = 4 := by decide +kernel
theorem mk_378 : am_kd (am_m 378) = 1 := by decide +kernel
theorem mn_379 : am_na (am_m 379) = 2 := by decide +kernel
theorem mk_379 : am_kd (am_m 379) = 0 := by decide +kernel
theorem mn_380 : am_na (am_m 380) = 6 := by decide +kernel
theorem mk_380 : am_kd (am_m 380) = 1 := by decide +kernel
theorem mn_381 : am_na (am_m 381) = 3 := by decide +kernel
theorem mk_381 : am_kd (am_m 381) = 0 := by decide +kernel
theorem mn_382 : am_na (am_m 382) = 2 := by decide +kernel
theorem mk_382 : am_kd (am_m 382) = 0 := by decide +kernel
theorem mn_383 : am_na (am_m 383) = 4 := by decide +kernel
theorem mk_383 : am_kd (am_m 383) = 1 := by decide +kernel
theorem mn_384 : am_na (am_m 384) = 4 := by decide +kernel
theorem mk_384 : am_kd (am_m 384) = 1 := by decide +kernel
theorem mn_385 : am_na (am_m 385) = 3 := by decide +kernel
theorem mk_385 : am_kd (am_m 385) = 1 := by decide +kernel
theorem mn_386 : am_na (am_m 386) = 5 := by decide +kernel
theorem mk_386 : am_kd (am_m 386) = 1 := by decide +kernel
theorem mn_387 : am_na (am_m 387) = 5 := by decide +kernel
theorem mk_387 : am_kd (am_m 387) = 1 := by decide +kernel
theorem mn_388 : am_na (am_m 388) = 5 := by decide +kernel
theorem mk_388 : am_kd (am_m 388) = 1 := by decide +kernel
theorem mn_389 : am_na (am_m 389) = 7 := by decide +kernel
theorem mk_389 : am_kd (am_m 389) = 1 := by decide +kernel
theorem mn_390 : am_na (am_m 390) = 2 := by decide +kernel
theorem mk_390 : am_kd (am_m 390) = 1 := by decide +kernel
theorem mn_391 : am_na (am_m 391) = 2 := by decide +kernel
theorem mk_391 : am_kd (am_m 391) = 1 := by decide +kernel
theorem mn_392 : am_na (am_m 392) = 1 := by decide +kernel
theorem mk_392 : am_kd (am_m 392) = 1 := by decide +kernel
theorem mn_393 : am_na (am_m 393) = 3 := by decide +kernel
theorem mk_393 : am_kd (am_m 393) = 1 := by decide +kernel
theorem mn_394 : am_na (am_m 394) = 2 := by decide +kernel
theorem mk_394 : am_kd (am_m 394) = 1 := by decide +kernel
theorem mn_395 : am_na (am_m 395) = 2 := by decide +kernel
theorem mk_395 : am_kd (am_m 395) = 1 := by decide +kernel
theorem mn_396 : am_na (am_m 396) = 7 := by decide +kernel
theorem mk_396 : am_kd (am_m 396) = 1 := by decide +kernel
theorem mn_397 : am_na (am_m 397) = 2 := by decide +kernel
theorem mk_397 : am_kd (am_m 397) = 1 := by decide +kernel
theorem mn_398 : am_na (am_m 398) = 2 := by decide +kernel
theorem mk_398 : am_kd (am_m 398) = 1 := by decide +kernel
theorem mn_399 : am_na (am_m 399) = 1 := by decide +kernel
theorem mk_399 : am_kd (am_m 399) = 1 := by decide +kernel
theorem mn_400 : am_na (am_m 400) = 3 := by decide +kernel
theorem mk_400 : am_kd (am_m 400) = 1 := by decide +kernel
theorem mn_401 : am_na (am_m 401) = 3 := by decide +kernel
theorem mk_401 : am_kd (am_m 401) = 1 := by decide +kernel
theorem mn_402 : am_na (am_m 402) = 2 := by decide +kernel
theorem mk_402 : am_kd (am_m 402) = 1 := by decide +kernel
theorem mn_403 : am_na (am_m 403) = 1 := by decide +kernel
theorem mk_403 : am_kd (am_m 403) = 1 := by decide +kernel
theorem mn_404 : am_na (am_m 404) = 1 := by decide +kernel
theorem mk_404 : am_kd (am_m 404) = 1 := by decide +kernel
theorem mn_405 : am_na (am_m 405) = 1 := by decide +kernel
theorem mk_405 : am_kd (am_m 405) = 1 := by decide +kernel
theorem mn_406 : am_na (am_m 406) = 2 := by decide +kernel
theorem mk_406 : am_kd (am_m 406) = 1 := by decide +kernel
theorem mn_407 : am_na (am_m 407) = 1 := by decide +kernel
theorem mk_407 : am_kd (am_m 407) = 1 := by decide +kernel
theorem mn_408 : am_na (am_m 408) = 3 := by decide +kernel
theorem mk_408 : am_kd (am_m 408) = 1 := by decide +kernel
theorem mn_409 : am_na (am_m 409) = 2 := by decide +kernel
theorem mk_409 : am_kd (am_m 409) = 1 := by decide +kernel
theorem mn_410 : am_na (am_m 410) = 4 := by decide +kernel
theorem mk_410 : am_kd (am_m 410) = 1 := by decide +kernel
theorem mn_411 : am_na (am_m 411) = 2 := by decide +kernel
theorem mk_411 : am_kd (am_m 411) = 1 := by decide +kernel
theorem mn_412 : am_na (am_m 412) = 2 := by decide +kernel
theorem mk_412 : am_kd (am_m 412) = 1 := by decide +kernel
theorem mn_413 : am_na (am_m 413) = 4 := by decide +kernel
theorem mk_413 : am_kd (am_m 413) = 1 := by decide +kernel
theorem mn_414 : am_na (am_m 414) = 4 := by decide +kernel
theorem mk_414 : am_kd (am_m 414) = 1 := by decide +kernel
theorem mn_415 : am_na (am_m 415) = 1 := by decide +kernel
theorem mk_415 : am_kd (am_m 415) = 1 := by decide +kernel
theorem mn_416 : am_na (am_m 416) = 1 := by decide +kernel
theorem mk_416 : am_kd (am_m 416) = 1 := by decide +kernel
theorem mn_417 : am_na (am_m 417) = 1 := by decide +kernel
theorem mk_417 : am_kd (am_m 417) = 1 := by decide +kernel
theorem mn_418 : am_na (am_m 418) = 2 := by decide +kernel
theorem mk_418 : am_kd (am_m 418) = 1 := by decide +kernel
theorem mn_419 : am_na (am_m 419) = 1 := by decide +kernel
theorem mk_419 : am_kd (am_m 419) = 1 := by decide +kernel
theorem mn_420 : am_na (am_m 420) = 5 := by decide +kernel
theorem mk_420 : am_kd (am_m 420) = 1 := by decide +kernel
theorem mn_421 : am_na (am_m 421) = 4 := by decide +kernel
theorem mk_421 : am_kd (am_m 421) = 1 := by decide +kernel
theorem mn_422 : am_na (am_m 422) = 1 := by decide +kernel
theorem mk_422 : am_kd (am_m 422) = 1 := by decide +kernel
theorem mn_423 : am_na (am_m 423) = 1 := by decide +kernel
theorem mk_423 : am_kd (am_m 423) = 1 := by decide +kernel
theorem mn_424 : am_na (am_m 424) = 3 := by decide +kernel
theorem mk_424 : am_kd (am_m 424) = 1 := by decide +kernel
theorem mn_425 : am_na (am_m 425) = 2 := by decide +kernel
theorem mk_425 : am_kd (am_m 425) = 1 := by decide +kernel
theorem mn_426 : am_na (am_m 426) = 2 := by decide +kernel
theorem mk_426 : am_kd (am_m 426) = 0 := by decide +kernel
theorem mn_427 : am_na (am_m 427) = 4 := by decide +kernel
theorem mk_427 : am_kd (am_m 427) = 1 := by decide +kernel
theorem mn_428 : am_na (am_m 428) = 2 := by decide +kernel
theorem mk_428 : am_kd (am_m 428) = 1 := by decide +kernel
theorem mn_429 : am_na (am_m 429) = 1 := by decide +kernel
theorem mk_429 : am_kd (am_m 429) = 1 := by decide +kernel
theorem mn_430 : am_na (am_m 430) = 2 := by decide +kernel
theorem mk_430 : am_kd (am_m 430) = 0 := by decide +kernel
theorem mn_431 : am_na (am_m 431) = 3 := by decide +kernel
theorem mk_431 : am_kd (am_m 431) = 1 := by decide +kernel
theorem mn_432 : am_na (am_m 432) = 6 := by decide +kernel
theorem mk_432 : am_kd (am_m 432) = 1 := by decide +kernel
theorem mn_433 : am_na (am_m 433) = 3 := by decide +kernel
theorem mk_433 : am_kd (am_m 433) = 1 := by decide +kernel
theorem mn_434 : am_na (am_m 434) = 3 := by decide +kernel
theorem mk_434 : am_kd (am_m 434) = 1 := by decide +kernel
theorem mn_435 : am_na (am_m 435) = 3 := by decide +kernel
theorem mk_435 : am_kd (am_m 435) = 1 := by decide +kernel
theorem mn_436 : am_na (am_m 436) = 3 := by decide +kernel
theorem mk_436 : am_kd (am_m 436) = 1 := by decide +kernel
theorem mn_437 : am_na (am_m 437) = 2 := by decide +kernel
theorem mk_437 : am_kd (am_m 437) = 0 := by decide +kernel
theorem mn_438 : am_na (am_m 438) = 3 := by decide +kernel
theorem mk_438 : am_kd (am_m 438) = 1 := by decide +kernel
theorem mn_439 : am_na (am_m 439) = 3 := by decide +kernel
theorem mk_439 : am_kd (am_m 439) = 1 := by decide +kernel
theorem mn_440 : am_na (am_m 440) = 1 := by decide +kernel
theorem mk_440 : am_kd (am_m 440) = 1 := by decide +kernel
theorem mn_441 : am_na (am_m 441) = 3 := by decide +kernel
theorem mk_441 : am_kd (am_m 441) = 1 := by decide +kernel
theorem mn_442 : am_na (am_m 442) = 1 := by decide +kernel
theorem mk_442 : am_kd (am_m 442) = 1 := by decide +kernel
theorem mn_443 : am_na (am_m 443) = 3 := by decide +kernel
theorem mk_443 : am_kd (am_m 443) = 1 := by decide +kernel
theorem mn_444 : am_na (am_m 444) = 1 := by decide +kernel
theorem mk_444 : am_kd (am_m 444) = 1 := by decide +kernel
theorem mn_445 : am_na (am_m 445) = 1 := by decide +kernel
theorem mk_445 : am_kd (am_m 445) = 1 := by decide +kernel
theorem mn_446 : am_na (am_m 446) = 3 := by decide +kernel
theorem mk_446 : am_kd (am_m 446) = 1 := by decide +kernel
theorem mn_447 : am_na (am_m 447) = 1 := by decide +kernel
theorem mk_447 : am_kd (am_m 447) = 1 := by decide +kernel
theorem mn_448 : am_na (am_m 448) = 2 := by decide +kernel
theorem mk_448 : am_kd (am_m 448) = 0 := by decide +kernel
theorem mn_449 : am_na (am_m 449) = 1 := by decide +kernel
theorem mk_449 : am_kd (am_m 449) = 1 := by decide +kernel
theorem mn_450 : am_na (am_m 450) = 4 := by decide +kernel
theorem mk_450 : am_kd (am_m 450) = 1 := by decide +kernel
theorem mn_451 : am_na (am_m 451) = 1 := by decide +kernel
theorem mk_451 : am_kd (am_m 451) = 1 := by decide +kernel
theorem mn_452 : am_na (am_m 452) = 1 := by decide +kernel
theorem mk_452 : am_kd (am_m 452) = 1 := by decide +kernel
theorem mn_453 : am_na (am_m 453) = 1 := by decide +kernel
theorem mk_453 : am_kd (am_m 453) = 1 := by decide +kernel
theorem mn_454 : am_na (am_m 454) = 1 := by decide +kernel
theorem mk_454 : am_kd (am_m 454) = 0 := by decide +kernel
theorem mn_455 : am_na (am_m 455) = 1 := by decide +kernel
theorem mk_455 : am_kd (am_m 455) = 1 := by decide +kernel
theorem mn_456 : am_na (am_m 456) = 3 := by decide +kernel
theorem mk_456 : am_kd (am_m 456) = 1 := by decide +kernel
theorem mn_457 : am_na (am_m 457) = 1 := by decide +kernel
theorem mk_457 : am_kd (am_m 457) = 1 := by decide +kernel
theorem mn_458 : am_na (am_m 458) = 3 := by decide +kernel
theorem mk_458 : am_kd (am_m 458) = 1 := by decide +kernel
theorem mn_459 : am_na (am_m 459) = 2 := by decide +kernel
theorem mk_459 : am_kd (am_m 459) = 1 := by decide +kernel
theorem mn_460 : am_na (am_m 460) = 1 := by decide +kernel
theorem mk_460 : am_kd (am_m 460) = 1 := by decide +kernel
theorem mn_461 : am_na (am_m 461) = 3 := by decide +kernel
theorem mk_461 : am_kd (am_m 461) = 1 := by decide +kernel
theorem mn_462 : am_na (am_m 462) = 1 := by decide +kernel
theorem mk_462 : am_kd (am_m 462) = 1 := by decide +kernel
theorem mn_463 : am_na (am_m 463) = 1 := by decide +kernel
theorem mk_463 : am_kd (am_m 463) = 1 := by decide +kernel
theorem mn_464 : am_na (am_m 464) = 1 := by decide +kernel
theorem mk_464 : am_kd (am_m 464) = 1 := by decide +kernel
theorem mn_465 : am_na (am_m 465) = 1 := by decide +kernel
theorem mk_465 : am_kd (am_m 465) = 1 := by decide +kernel
theorem mn_466 : am_na (am_m 466) = 1 := by decide +kernel
theorem mk_466 : am_kd (am_m 466) = 1 := by decide +kernel
theorem mn_467 : am_na (am_m 467) = 1 := by decide +kernel
theorem mk_467 : am_kd (am_m 467) = 1 := by decide +kernel
theorem mn_468 : am_na (am_m 468) = 1 := by decide +kernel
theorem mk_468 : am_kd (am_m 468) = 1 := by decide +kernel
theorem mn_469 : am_na (am_m 469) = 4 := by decide +kernel
theorem mk_469 : am_kd (am_m 469) = 1 := by decide +kernel
theorem mn_470 : am_na (am_m 470) = 4 := by decide +kernel
theorem mk_470 : am_kd (am_m 470) = 1 := by decide +kernel
theorem mn_471 : am_na (am_m 471) = 3 := by decide +kernel
theorem mk_471 : am_kd (am_m 471) = 1 := by decide +kernel
theorem mn_472 : am_na (am_m 472) = 3 := by decide +kernel
theorem mk_472 : am_kd (am_m 472) = 1 := by decide +kernel
theorem mn_473 : am_na (am_m 473) = 1 := by decide +kernel
theorem mk_473 : am_kd (am_m 473) = 1 := by decide +kernel
theorem mn_474 : am_na (am_m 474) = 2 := by decide +kernel
theorem mk_474 : am_kd (am_m 474) = 1 := by decide +kernel
theorem mn_475 : am_na (am_m 475) = 1 := by decide +kernel
theorem mk_475 : am_kd (am_m 475) = 1 := by decide +kernel
theorem mn_476 : am_na (am_m 476) = 2 := by decide +kernel
theorem mk_476 : am_kd (am_m 476) = 1 := by decide +kernel
theorem mn_477 : am_na (am_m 477) = 2 := by decide +kernel
theorem mk_477 : am_kd (am_m 477) = 1 := by decide +kernel
theorem mn_478 : am_na (am_m 478) = 3 := by decide +kernel
theorem mk_478 : am_kd (am_m 478) = 1 := by decide +kernel
theorem mn_479 : am_na (am_m 479) = 3 := by decide +kernel
theorem mk_479 : am_kd (am_m 479) = 1 := by decide +kernel
theorem mn_480 : am_na (am_m 480) = 2 := by decide +kernel
theorem mk_480 : am_kd (am_m 480) = 1 := by decide +kernel
theorem mn_481 : am_na (am_m 481) = 2 := by decide +kernel
theorem mk_481 : am_kd (am_m 481) = 1 := by decide +kernel
theorem mn_482 : am_na (am_m 482) = 1 := by decide +kernel
theorem mk_482 : am_kd (am_m 482) = 1 := by decide +kernel
theorem mn_483 : am_na (am_m 483) = 3 := by decide +kernel
theorem mk_483 : am_kd (am_m 483) = 1 := by decide +kernel
theorem mn_484 : am_na (am_m 484) = 1 := by decide +kernel
theorem mk_484 : am_kd (am_m 484) = 1 := by decide +kernel
theorem mn_485 : am_na (am_m 485) = 1 := by decide +kernel
theorem mk_485 : am_kd (am_m 485) = 1 := by decide +kernel
theorem mn_486 : am_na (am_m 486) = 4 := by decide +kernel
theorem mk_486 : am_kd (am_m 486) = 1 := by decide +kernel
theorem mn_487 : am_na (am_m 487) = 4 := by decide +kernel
theorem mk_487 : am_kd (am_m 487) = 1 := by decide +kernel
theorem mn_488 : am_na (am_m 488) = 6 := by decide +kernel
theorem mk_488 : am_kd (am_m 488) = 1 := by decide +kernel
theorem mn_489 : am_na (am_m 489) = 2 := by decide +kernel
theorem mk_489 : am_kd (am_m 489) = 1 := by decide +kernel
theorem mn_490 : am_na (am_m 490) = 2 := by decide +kernel
theorem mk_490 : am_kd (am_m 490) = 0 := by decide +kernel
theorem mn_491 : am_na (am_m 491) = 3 := by decide +kernel
theorem mk_491 : am_kd (am_m 491) = 1 := by decide +kernel
theorem mn_492 : am_na (am_m 492) = 2 := by decide +kernel
theorem mk_492 : am_kd (am_m 492) = 1 := by decide +kernel
theorem mn_493 : am_na (am_m 493) = 2 := by decide +kernel
theorem mk_493 : am_kd (am_m 493) = 1 := by decide +kernel
theorem mn_494 : am_na (am_m 494) = 1 := by decide +kernel
theorem mk_494 : am_kd (am_m 494) = 1 := by decide +kernel
theorem mn_495 : am_na (am_m 495) = 1 := by decide +kernel
theorem mk_495 : am_kd (am_m 495) = 1 := by decide +kernel
theorem mn_496 : am_na (am_m 496) = 2 := by decide +kernel
theorem mk_496 : am_kd (am_m 496) = 1 := by decide +kernel
theorem mn_497 : am_na (am_m 497) = 3 := by decide +kernel
theorem mk_497 : am_kd (am_m 497) = 1 := by decide +kernel
theorem mn_498 : am_na (am_m 498) = 4 := by decide +kernel
theorem mk_498 : am_kd (am_m 498) = 1 := by decide +kernel
theorem mn_499 : am_na (am_m 499) = 2 := by decide +kernel
theorem mk_499 : am_kd (am_m 499) = 1 := by decide +kernel
theorem mn_500 : am_na (am_m 500) = 3 := by decide +kernel
theorem mk_500 : am_kd (am_m 500) = 1 := by decide +kernel
theorem mn_501 : am_na (am_m 501) = 3 := by decide +kernel
theorem mk_501 : am_kd (am_m 501) = 1 := by decide +kernel
theorem mn_502 : am_na (am_m 502) = 3 := by decide +kernel
theorem mk_502 : am_kd (am_m 502) = 1 := by decide +kernel
theorem mn_503 : am_na (am_m 503) = 2 := by decide +kernel
theorem mk_503 : am_kd (am_m 503) = 1 := by decide +kernel
theorem mn_504 : am_na (am_m 504) = 2 := by decide +kernel
theorem mk_504 : am_kd (am_m 504) = 1 := by decide +kernel
theorem mn_505 : am_na (am_m 505) = 2 := by decide +kernel
theorem mk_505 : am_kd (am_m 505) = 1 := by decide +kernel
theorem mn_506 : am_na (am_m 506) = 1 := by decide +kernel
theorem mk_506 : am_kd (am_m 506) = 1 := by decide +kernel
theorem mn_507 : am_na (am_m 507) = 1 := by decide +kernel
theorem mk_507 : am_kd (am_m 507) = 1 := by decide +kernel
theorem mn_508 : am_na (am_m 508) = 3 := by decide +kernel
theorem mk_508 : am_kd (am_m 508) = 1 := by decide +kernel
theorem mn_509 : am_na (am_m 509) = 3 := by decide +kernel
theorem mk_509 : am_kd (am_m 509) = 1 := by decide +kernel
theorem mn_510 : am_na (am_m 510) = 1 := by decide +kernel
theorem mk_510 : am_kd (am_m 510) = 1 := by decide +kernel
theorem mn_511 : am_na (am_m 511) = 1 := by decide +kernel
theorem mk_511 : am_kd (am_m 511) = 1 := by decide +kernel
theorem mn_512 : am_na (am_m 512) = 1 := by decide +kernel
theorem mk_512 : am_kd (am_m 512) = 1 := by decide +kernel
theorem mn_513 : am_na (am_m 513) = 1 := by decide +kernel
theorem mk_513 : am_kd (am_m 513) = 1 := by decide +kernel
theorem mn_514 : am_na (am_m 514) = 2 := by decide +kernel
theorem mk_514 : am_kd (am_m 514) = 1 := by decide +kernel
theorem mn_515 : am_na (am_m 515) = 2 := by decide +kernel
theorem mk_515 : am_kd (am_m 515) = 1 := by decide +kernel
theorem mn_516 : am_na (am_m 516) = 1 := by decide +kernel
theorem mk_516 : am_kd (am_m 516) = 1 := by decide +kernel
theorem mn_517 : am_na (am_m 517) = 1 := by decide +kernel
theorem mk_517 : am_kd (am_m 517) = 1 := by decide +kernel
theorem mn_518 : am_na (am_m 518) = 3 := by decide +kernel
theorem mk_518 : am_kd (am_m 518) = 1 := by decide +kernel
theorem mn_519 : am_na (am_m 519) = 2 := by decide +kernel
theorem mk_519 : am_kd (am_m 519) = 1 := by decide +kernel
theorem mn_520 : am_na (am_m 520) = 3 := by decide +kernel
theorem mk_520 : am_kd (am_m 520) = 1 := by decide +kernel
theorem mn_521 : am_na (am_m 521) = 4 := by decide +kernel
theorem mk_521 : am_kd (am_m 521) = 1 := by decide +kernel
theorem mn_522 : am_na (am_m 522) = 1 := by decide +kernel
theorem mk_522 : am_kd (am_m 522) = 1 := by decide +kernel
theorem mn_523 : am_na (am_m 523) = 1 := by decide +kernel
theorem mk_523 : am_kd (am_m 523) = 1 := by decide +kernel
theorem mn_524 : am_na (am_m 524) = 3 := by decide +kernel
theorem mk_524 : am_kd (am_m 524) = 1 := by decide +kernel
theorem mn_525 : am_na (am_m 525) = 3 := by decide +kernel
theorem mk_525 : am_kd (am_m 525) = 1 := by decide +kernel
theorem mn_526 : am_na (am_m 526) = 3 := by decide +kernel
theorem mk_526 : am_kd (am_m 526) = 1 := by decide +kernel
theorem mn_527 : am_na (am_m 527) = 2 := by decide +kernel
theorem mk_527 : am_kd (am_m 527) = 1 := by decide +kernel
theorem mn_528 : am_na (am_m 528) = 3 := by decide +kernel
theorem mk_528 : am_kd (am_m 528) = 1 := by decide +kernel
theorem mn_529 : am_na (am_m 529) = 3 := by decide +kernel
theorem mk_529 : am_kd (am_m 529) = 1 := by decide +kernel
theorem mn_530 : am_na (am_m 530) = 3 := by decide +kernel
theorem mk_530 : am_kd (am_m 530) = 1 := by decide +kernel
theorem mn_531 : am_na (am_m 531) = 3 := by decide +kernel
theorem mk_531 : am_kd (am_m 531) = 1 := by decide +kernel
theorem mn_532 : am_na (am_m 532) = 2 := by decide +kernel
theorem mk_532 : am_kd (am_m 532) = 1 := by decide +kernel
theorem mn_533 : am_na (am_m 533) = 2 := by decide +kernel
theorem mk_533 : am_kd (am_m 533) = 1 := by decide +kernel
theorem mn_534 : am_na (am_m 534) = 1 := by decide +kernel
theorem mk_534 : am_kd (am_m 534) = 1 := by decide +kernel
theorem mn_535 : am_na (am_m 535) = 2 := by decide +kernel
theorem mk_535 : am_kd (am_m 535) = 1 := by decide +kernel
theorem mn_536 : am_na (am_m 536) = 2 := by decide +kernel
theorem mk_536 : am_kd (am_m 536) = 1 := by decide +kernel
theorem mn_537 : am_na (am_m 537) = 2 := by decide +kernel
theorem mk_537 : am_kd (am_m 537) = 1 := by decide +kernel
theorem mn_538 : am_na (am_m 538) = 3 := by decide +kernel
theorem mk_538 : am_kd (am_m 538) = 1 := by decide +kernel
theorem mn_539 : am_na (am_m 539) = 2 := by decide +kernel
theorem mk_539 : am_kd (am_m 539) = 1 := by decide +kernel
theorem mn_540 : am_na (am_m 540) = 3 := by decide +kernel
theorem mk_540 : am_kd (am_m 540) = 1 := by decide +kernel
theorem mn_541 : am_na (am_m 541) = 2 := by decide +kernel
theorem mk_541 : am_kd (am_m 541) = 1 := by decide +kernel
theorem mn_542 : am_na (am_m 542) = 3 := by decide +kernel
theorem mk_542 : am_kd (am_m 542) = 1 := by decide +kernel
theorem mn_543 : am_na (am_m 543) = 3 := by decide +kernel
theorem mk_543 : am_kd (am_m 543) = 1 := by decide +kernel
theorem mn_544 : am_na (am_m 544) = 2 := by decide +kernel
theorem mk_544 : am_kd (am_m 544) = 1 := by decide +kernel
theorem mn_545 : am_na (am_m 545) = 2 := by decide +kernel
theorem mk_545 : am_kd (am_m 545) = 1 := by decide +kernel
theorem mn_546 : am_na (am_m 546) = 2 := by decide +kernel
theorem mk_546 : am_kd (am_m 546) = 1 := by decide +kernel
theorem mn_547 : am_na (am_m 547) = 2 := by decide +kernel
theorem mk_547 : am_kd (am_m 547) = 1 := by decide +kernel
theorem mn_548 : am_na (am_m 548) = 3 := by decide +kernel
theorem mk_548 : am_kd (am_m 548) = 1 := by decide +kernel
theorem mn_549 : am_na (am_m 549) = 2 := by decide +kernel
theorem mk_549 : am_kd (am_m 549) = 1 := by decide +kernel
theorem mn_550 : am_na (am_m 550) = 2 := by decide +kernel
theorem mk_550 : am_kd (am_m 550) = 1 := by decide +kernel
theorem mn_551 : am_na (am_m 551) = 2 := by decide +kernel
theorem mk_551 : am_kd (am_m 551) = 1 := by decide +kernel
theorem mn_552 : am_na (am_m 552) = 2 := by decide +kernel
theorem mk_552 : am_kd (am_m 552) = 1 := by decide +kernel
theorem mn_553 : am_na (am_m 553) = 1 := by decide +kernel
theorem mk_553 : am_kd (am_m 553) = 1 := by decide +kernel
theorem mn_554 : am_na (am_m 554) = 3 := by decide +kernel
theorem mk_554 : am_kd (am_m 554) = 1 := by decide +kernel
theorem mn_555 : am_na (am_m 555) = 3 := by decide +kernel
theorem mk_555 : am_kd (am_m 555) = 1 := by decide +kernel
theorem mn_556 : am_na (am_m 556) = 3 := by decide +kernel
theorem mk_556 : am_kd (am_m 556) = 1 := by decide +kernel
theorem mn_557 : am_na (am_m 557) = 1 := by decide +kernel
theorem mk_557 : am_kd (am_m 557) = 1 := by decide +kernel
theorem mn_558 : am_na (am_m 558) = 3 := by decide +kernel
theorem mk_558 : am_kd (am_m 558) = 1 := by decide +kernel
theorem mn_559 : am_na (am_m 559) = 4 := by decide +kernel
theorem mk_559 : am_kd (am_m 559) = 1 := by decide +kernel
theorem mn_560 : am_na (am_m 560) = 2 := by decide +kernel
theorem mk_560 : am_kd (am_m 560) = 1 := by decide +kernel
theorem mn_561 : am_na (am_m 561) = 2 := by decide +kernel
theorem mk_561 : am_kd (am_m 561) = 1 := by decide +kernel
theorem mn_562 : am_na (am_m 562) = 2 := by decide +kernel
theorem mk_562 : am_kd (am_m 562) = 1 := by decide +kernel
theorem mn_563 : am_na (am_m 563) = 2 := by decide +kernel
theorem mk_563 : am_kd (am_m 563) = 1 := by decide +kernel
theorem mn_564 : am_na (am_m 564) = 3 := by decide +kernel
theorem mk_564 : am_kd (am_m 564) = 1 := by decide +kernel
theorem mn_565 : am_na (am_m 565) = 2 := by decide +kernel
theorem mk_565 : am_kd (am_m 565) = 1 := by decide +kernel
theorem mn_566 : am_na (am_m 566) = 3 := by decide +kernel
theorem mk_566 : am_kd (am_m 566) = 1 := by decide +kernel
theorem mn_567 : am_na (am_m 567) = 1 := by decide +kernel
theorem mk_567 : am_kd (am_m 567) = 1 := by decide +kernel
theorem mn_568 : am_na (am_m 568) = 2 := by decide +kernel
theorem mk_568 : am_kd (am_m 568) = 1 := by decide +kernel
theorem mn_569 : am_na (am_m 569) = 1 := by decide +kernel
theorem mk_569 : am_kd (am_m 569) = 1 := by decide +kernel
theorem mn_570 : am_na (am_m 570) = 3 := by decide +kernel
theorem mk_570 : am_kd (am_m 570) = 1 := by decide +kernel
theorem mn_571 : am_na (am_m 571) = 2 := by decide +kernel
theorem mk_571 : am_kd (am_m 571) = 1 := by decide +kernel
theorem mn_572 : am_na (am_m 572) = 3 := by decide +kernel
theorem mk_572 : am_kd (am_m 572) = 1 := by decide +kernel
theorem mn_573 : am_na (am_m 573) = 3 := by decide +kernel
theorem mk_573 : am_kd (am_m 573) = 1 := by decide +kernel
theorem mn_574 : am_na (am_m 574) = 3 := by decide +kernel
theorem mk_574 : am_kd (am_m 574) = 1 := by decide +kernel
theorem mn_575 : am_na (am_m 575) = 1 := by decide +kernel
theorem mk_575 : am_kd (am_m 575) = 1 := by decide +kernel
theorem mn_576 : am_na (am_m 576) = 2 := by decide +kernel
theorem mk_576 : am_kd (am_m 576) = 1 := by decide +kernel
theorem mn_577 : am_na (am_m 577) = 2 := by decide +kernel
theorem mk_577 : am_kd (am_m 577) = 1 := by decide +kernel
theorem mn_578 : am_na (am_m 578) = 3 := by decide +kernel
theorem mk_578 : am_kd (am_m 578) = 1 := by decide +kernel
theorem mn_579 : am_na (am_m 579) = 1 := by decide +kernel
theorem mk_579 : am_kd (am_m 579) = 0 := by decide +kernel
theorem mn_580 : am_na (am_m 580) = 3 := by decide +kernel
theorem mk_580 : am_kd (am_m 580) = 1 := by decide +kernel
theorem mn_581 : am_na (am_m 581) = 4 := by decide +kernel
theorem mk_581 : am_kd (am_m 581) = 1 := by decide +kernel
theorem mn_582 : am_na (am_m 582) = 2 := by decide +kernel
theorem mk_582 : am_kd (am_m 582) = 1 := by decide +kernel
theorem mn_583 : am_na (am_m 583) = 1 := by decide +kernel
theorem mk_583 : am_kd (am_m 583) = 1 := by decide +kernel
theorem mn_584 : am_na (am_m 584) = 3 := by decide +kernel
theorem mk_584 : am_kd (am_m 584) = 1 := by decide +kernel
theorem mn_585 : am_na (am_m 585) = 2 := by decide +kernel
theorem mk_585 : am_kd (am_m 585) = 1 := by decide +kernel
theorem mn_586 : am_na (am_m 586) = 2 := by decide +kernel
theorem mk_586 : am_kd (am_m 586) = 1 := by decide +kernel
theorem mn_587 : am_na (am_m 587) = 2 := by decide +kernel
theorem mk_587 : am_kd (am_m 587) = 1 := by decide +kernel
theorem mn_588 : am_na (am_m 588) = 2 := by decide +kernel
theorem mk_588 : am_kd (am_m 588) = 1 := by decide +kernel
theorem kb_1 : Nat.ble 10000 1 = false := by decide +kernel
theorem kb_2 : Nat.ble 10000 2 = false := by decide +kernel
theorem kb_3 : Nat.ble 10000 3 = false := by decide +kernel
theorem kb_4 : Nat.ble 10000 4 = false := by decide +kernel
theorem kb_5 : Nat.ble 10000 5 = false := by decide +kernel
theorem kb_6 : Nat.ble 10000 6 = false := by decide +kernel
theorem kb_7 : Nat.ble 10000 7 = false := by decide +kernel
theorem kb_8 : Nat.ble 10000 8 = false := by decide +kernel
theorem kb_9 : Nat.ble 10000 9 = false := by decide +kernel
theorem kb_10 : Nat.ble 10000 10 = false := by decide +kernel
theorem kb_11 : Nat.ble 10000 11 = false := by decide +kernel
theorem kb_12 : Nat.ble 10000 12 = false := by decide +kernel
theorem kb_13 : Nat.ble 10000 13 = false := by decide +kernel
theorem kb_14 : Nat.ble 10000 14 = false := by decide +kernel
theorem kb_15 : Nat.ble 10000 15 = false := by decide +kernel
theorem kb_16 : Nat.ble 10000 16 = false := by decide +kernel
theorem kb_17 : Nat.ble 10000 17 = false := by decide +kernel
theorem kb_18 : Nat.ble 10000 18 = false := by decide +kernel
theorem kb_19 : Nat.ble 10000 19 = false := by decide +kernel
theorem kb_20 : Nat.ble 10000 20 = false := by decide +kernel
theorem kb_21 : Nat.ble 10000 21 = false := by decide +kernel
theorem kb_22 : Nat.ble 10000 22 = false := by decide +kernel
theorem kb_23 : Nat.ble 10000 23 = false := by decide +kernel
theorem kb_24 : Nat.ble 10000 24 = false := by decide +kernel
theorem kb_25 : Nat.ble 10000 25 = false := by decide +kernel
theorem kb_26 : Nat.ble 10000 26 = false := by decide +kernel
theorem kb_27 : Nat.ble 10000 27 = false := by decide +kernel
theorem kb_28 : Nat.ble 10000 28 = false := by decide +kernel
theorem kb_29 : Nat.ble 10000 29 = false := by decide +kernel
theorem kb_30 : Nat.ble 10000 30 = false := by decide +kernel
theorem kb_31 : Nat.ble 10000 31 = false := by decide +kernel
theorem kb_32 : Nat.ble 10000 32 = false := by decide +kernel
theorem kb_33 : Nat.ble 10000 33 = false := by decide +kernel
theorem kb_34 : Nat.ble 10000 34 = false := by decide +kernel
theorem kb_35 : Nat.ble 10000 35 = false := by decide +kernel
theorem kb_36 : Nat.ble 10000 36 = false := by decide +kernel
theorem kb_37 : Nat.ble 10000 37 = false := by decide +kernel
theorem kb_38 : Nat.ble 10000 38 = false := by decide +kernel
theorem kb_39 : Nat.ble 10000 39 = false := by decide +kernel
theorem kb_40 : Nat.ble 10000 40 = false := by decide +kernel
theorem kb_41 : Nat.ble 10000 41 = false := by decide +kernel
theorem kb_42 : Nat.ble 10000 42 = false := by decide +kernel
theorem kb_43 : Nat.ble 10000 43 = false := by decide +kernel
theorem kb_44 : Nat.ble 10000 44 = false := by decide +kernel
theorem kb_45 : Nat.ble 10000 45 = false := by decide +kernel
theorem kb_46 : Nat.ble 10000 46 = false := by decide +kernel
theorem kb_47 : Nat.ble 10000 47 = false := by decide +kernel
theorem kb_48 : Nat.ble 10000 48 = false := by decide +kernel
theorem kb_49 : Nat.ble 10000 49 = false := by decide +kernel
theorem kb_50 : Nat.ble 10000 50 = false := by decide +kernel
theorem kb_51 : Nat.ble 10000 51 = false := by decide +kernel
theorem kb_52 : Nat.ble 10000 52 = false := by decide +kernel
theorem kb_53 : Nat.ble 10000 53 = false := by decide +kernel
theorem kb_54 : Nat.ble 10000 54 = false := by decide +kernel
theorem kb_55 : Nat.ble 10000 55 = false := by decide +kernel
theorem kb_56 : Nat.ble 10000 56 = false := by decide +kernel
theorem kb_57 : Nat.ble 10000 57 = false := by decide +kernel
theorem kb_58 : Nat.ble 10000 58 = false := by decide +kernel
theorem kb_59 : Nat.ble 10000 59 = false := by decide +kernel
theorem kb_60 : Nat.ble 10000 60 = false := by decide +kernel
theorem kb_61 : Nat.ble 10000 61 = false := by decide +kernel
theorem kb_62 : Nat.ble 10000 62 = false := by decide +kernel
theorem kb_63 : Nat.ble 10000 63 = false := by decide +kernel
theorem kb_64 : Nat.ble 10000 64 = false := by decide +kernel
theorem kb_65 : Nat.ble 10000 65 = false := by decide +kernel
theorem kb_66 : Nat.ble 10000 66 = false := by decide +kernel
theorem kb_67 : Nat.ble 10000 67 = false := by decide +kernel
theorem kb_68 : Nat.ble 10000 68 = false := by decide +kernel
theorem kb_69 : Nat.ble 10000 69 = false := by decide +kernel
theorem kb_70 : Nat.ble 10000 70 = false := by decide +kernel
theorem kb_71 : Nat.ble 10000 71 = false := by decide +kernel
theorem kb_72 : Nat.ble 10000 72 = false := by decide +kernel
theorem kb_73 : Nat.ble 10000 73 = false := by decide +kernel
theorem kb_74 : Nat.ble 10000 74 = false := by decide +kernel
theorem kb_75 : Nat.ble 10000 75 = false := by decide +kernel
theorem kb_76 : Nat.ble 10000 76 = false := by decide +kernel
theorem kb_77 : Nat.ble 10000 77 = false := by decide +kernel
theorem kb_78 : Nat.ble 10000 78 = false := by decide +kernel
theorem kb_79 : Nat.ble 10000 79 = false := by decide +kernel
theorem kb_80 : Nat.ble 10000 80 = false := by decide +kernel
theorem kb_81 : Nat.ble 10000 81 = false := by decide +kernel
theorem kb_82 : Nat.ble 10000 82 = false := by decide +kernel
theorem kb_83 : Nat.ble 10000 83 = false := by decide +kernel
theorem kb_84 : Nat.ble 10000 84 = false := by decide +kernel
theorem kb_85 : Nat.ble 10000 85 = false := by decide +kernel
theorem kb_86 : Nat.ble 10000 86 = false := by decide +kernel
theorem kb_87 : Nat.ble 10000 87 = false := by decide +kernel
theorem kb_88 : Nat.ble 10000 88 = false := by decide +kernel
theorem kb_89 : Nat.ble 10000 89 = false := by decide +kernel
theorem kb_90 : Nat.ble 10000 90 = false := by decide +kernel
theorem kb_91 : Nat.ble 10000 91 = false := by decide +kernel
theorem kb_92 : Nat.ble 10000 92 = false := by decide +kernel
theorem kb_93 : Nat.ble 10000 93 = false := by decide +kernel
theorem kb_94 : Nat.ble 10000 94 = false := by decide +kernel
theorem kb_95 : Nat.ble 10000 95 = false := by decide +kernel
theorem kb_96 : Nat.ble 10000 96 = false := by decide +kernel
theorem kb_97 : Nat.ble 10000 97 = false := by decide +kernel
theorem kb_98 : Nat.ble 10000 98 = false := by decide +kernel
theorem kb_99 : Nat.ble 10000 99 = false := by decide +kernel
theorem kb_100 : Nat.ble 10000 100 = false := by decide +kernel
theorem kb_101 : Nat.ble 10000 101 = false := by decide +kernel
theorem kb_102 : Nat.ble 10000 102 = false := by decide +kernel
theorem kb_103 : Nat.ble 10000 103 = false := by decide +kernel
theorem kb_104 : Nat.ble 10000 104 = false := by decide +kernel
theorem kb_105 : Nat.ble 10000 105 = false := by decide +kernel
theorem kb_106 : Nat.ble 10000 106 = false := by decide +kernel
theorem kb_107 : Nat.ble 10000 107 = false := by decide +kernel
theorem kb_108 : Nat.ble 10000 108 = false := by decide +kernel
theorem kb_109 : Nat.ble 10000 109 = false := by decide +kernel
theorem kb_110 : Nat.ble 10000 110 = false := by decide +kernel
theorem kb_111 : Nat.ble 10000 111 = false := by decide +kernel
theorem kb_112 : Nat.ble 10000 112 = false := by decide +kernel
theorem kb_113 : Nat.ble 10000 113 = false := by decide +kernel
theorem kb_114 : Nat.ble 10000 114 = false := by decide +kernel
theorem kb_115 : Nat.ble 10000 115 = false := by decide +kernel
theorem kb_116 : Nat.ble 10000 116 = false := by decide +kernel
theorem kb_117 : Nat.ble 10000 117 = false := by decide +kernel
theorem kb_118 : Nat.ble 10000 118 = false := by decide +kernel
theorem kb_119 : Nat.ble 10000 119 = false := by decide +kernel
theorem kb_120 : Nat.ble 10000 120 = false := by decide +kernel
theorem kb_121 : Nat.ble 10000 121 = false := by decide +kernel
theorem kb_122 : Nat.ble 10000 122 = false := by decide +kernel
theorem kb_123 : Nat.ble 10000 123 = false := by decide +kernel
theorem kb_124 : Nat.ble 10000 124 = false := by decide +kernel
theorem kb_125 : Nat.ble 10000 125 = false := by decide +kernel
theorem kb_126 : Nat.ble 10000 126 = false := by decide +kernel
theorem kb_127 : Nat.ble 10000 127 = false := by decide +kernel
theorem kb_128 : Nat.ble 10000 128 = false := by decide +kernel
theorem kb_129 : Nat.ble 10000 129 = false := by decide +kernel
theorem kb_130 : Nat.ble 10000 130 = false := by decide +kernel
theorem kb_131 : Nat.ble 10000 131 = false := by decide +kernel
theorem kb_132 : Nat.ble 10000 132 = false := by decide +kernel
theorem kb_133 : Nat.ble 10000 133 = false := by decide +kernel
theorem kb_134 : Nat.ble 10000 134 = false := by decide +kernel
theorem kb_135 : Nat.ble 10000 135 = false := by decide +kernel
theorem kb_136 : Nat.ble 10000 136 = false := by decide +kernel
theorem kb_137 : Nat.ble 10000 137 = false := by decide +kernel
theorem kb_138 : Nat.ble 10000 138 = false := by decide +kernel
theorem kb_139 : Nat.ble 10000 139 = false := by decide +kernel
theorem kb_140 : Nat.ble 10000 140 = false := by decide +kernel
theorem kb_141 : Nat.ble 10000 141 = false := by decide +kernel
theorem kb_142 : Nat.ble 10000 142 = false := by decide +kernel
theorem kb_143 : Nat.ble 10000 143 = false := by decide +kernel
theorem kb_144 : Nat.ble 10000 144 = false := by decide +kernel
theorem kb_145 : Nat.ble 10000 145 = false := by decide +kernel
theorem kb_146 : Nat.ble 10000 146 = false := by decide +kernel
theorem kb_147 : Nat.ble 10000 147 = false := by decide +kernel
theorem kb_148 : Nat.ble 10000 148 = false := by decide +kernel
theorem kb_149 : Nat.ble 10000 149 = false := by decide +kernel
theorem kb_150 : Nat.ble 10000 150 = false := by decide +kernel
theorem kb_151 : Nat.ble 10000 151 = false := by decide +kernel
theorem kb_152 : Nat.ble 10000 152 = false := by decide +kernel
theorem kb_153 : Nat.ble 10000 153 = false := by decide +kernel
theorem kb_154 : Nat.ble 10000 154 = false := by decide +kernel
theorem kb_155 : Nat.ble 10000 155 = false := by decide +kernel
theorem kb_156 : Nat.ble 10000 156 = false := by decide +kernel
theorem kb_157 : Nat.ble 10000 157 = false := by decide +kernel
theorem kb_158 : Nat.ble 10000 158 = false := by decide +kernel
theorem kb_159 : Nat.ble 10000 159 = false := by decide +kernel
theorem kb_160 : Nat.ble 10000 160 = false := by decide +kernel
theorem kb_161 : Nat.ble 10000 161 = false := by decide +kernel
theorem kb_162 : Nat.ble 10000 162 = false := by decide +kernel
theorem kb_163 : Nat.ble 10000 163 = false := by decide +kernel
theorem kb_164 : Nat.ble 10000 164 = false := by decide +kernel
theorem kb_165 : Nat.ble 10000 165 = false := by decide +kernel
theorem kb_166 : Nat.ble 10000 166 = false := by decide +kernel
theorem kb_167 : Nat.ble 10000 167 = false := by decide +kernel
theorem kb_168 : Nat.ble 10000 168 = false := by decide +kernel
theorem kb_169 : Nat.ble 10000 169 = false := by decide +kernel
theorem kb_170 : Nat.ble 10000 170 = false := by decide +kernel
theorem kb_171 : Nat.ble 10000 171 = false := by decide +kernel
theorem kb_172 : Nat.ble 10000 172 = false := by decide +kernel
theorem kb_173 : Nat.ble 10000 173 = false := by decide +kernel
theorem kb_174 : Nat.ble 10000 174 = false := by decide +kernel
theorem kb_175 : Nat.ble 10000 175 = false := by decide +kernel
theorem kb_176 : Nat.ble 10000 176 = false := by decide +kernel
theorem kb_177 : Nat.ble 10000 177 = false := by decide +kernel
theorem kb_178 : Nat.ble 10000 178 = false := by decide +kernel
theorem kb_179 : Nat.ble 10000 179 = false := by decide +kernel
theorem kb_180 : Nat.ble 10000 180 = false := by decide +kernel
theorem kb_181 : Nat.ble 10000 181 = false := by decide +kernel
theorem kb_182 : Nat.ble 10000 182 = false := by decide +kernel
theorem kb_183 : Nat.ble 10000 183 = false := by decide +kernel
theorem kb_184 : Nat.ble 10000 184 = false := by decide +kernel
theorem kb_185 : Nat.ble 10000 185 = false := by decide +kernel
theorem kb_186 : Nat.ble 10000 186 = false := by decide +kernel
theorem kb_187 : Nat.ble 10000 187 = false := by decide +kernel
theorem kb_188 : Nat.ble 10000 188 = false := by decide +kernel
theorem kb_189 : Nat.ble 10000 189 = false := by decide +kernel
theorem kb_190 : Nat.ble 10000 190 = false := by decide +kernel
theorem kb_191 : Nat.ble 10000 191 = false := by decide +kernel
theorem kb_192 : Nat.ble 10000 192 = false := by decide +kernel
theorem kb_193 : Nat.ble 10000 193 = false := by decide +kernel
theorem kb_194 : Nat.ble 10000 194 = false := by decide +kernel
theorem kb_195 : Nat.ble 10000 195 = false := by decide +kernel
theorem kb_196 : Nat.ble 10000 196 = false := by decide +kernel
theorem kb_197 : Nat.ble 10000 197 = false := by decide +kernel
theorem kb_198 : Nat.ble 10000 198 = false := by decide +kernel
theorem kb_199 : Nat.ble 10000 199 = false := by decide +kernel
theorem kb_200 : Nat.ble 10000 200 = false := by decide +kernel
theorem kb_201 : Nat.ble 10000 201 = false := by decide +kernel
theorem kb_202 : Nat.ble 10000 202 = false := by decide +kernel
theorem kb_203 : Nat.ble 10000 203 = false := by decide +kernel
theorem kb_204 : Nat.ble 10000 204 = false := by decide +kernel
theorem kb_205 : Nat.ble 10000 205 = false := by decide +kernel
theorem kb_206 : Nat.ble 10000 206 = false := by decide +kernel
theorem kb_207 : Nat.ble 10000 207 = false := by decide +kernel
theorem kb_208 : Nat.ble 10000 208 = false := by decide +kernel
theorem kb_209 : Nat.ble 10000 209 = false := by decide +kernel
theorem kb_210 : Nat.ble 10000 210 = false := by decide +kernel
theorem kb_211 : Nat.ble 10000 211 = false := by decide +kernel
theorem kb_212 : Nat.ble 10000 212 = false := by decide +kernel
theorem kb_213 : Nat.ble 10000 213 = false := by decide +kernel
theorem kb_214 : Nat.ble 10000 214 = false := by decide +kernel
theorem kb_215 : Nat.ble 10000 215 = false := by decide +kernel
theorem kb_216 : Nat.ble 10000 216 = false := by decide +kernel
theorem kb_217 : Nat.ble 10000 217 = false := by decide +kernel
theorem kb_218 : Nat.ble 10000 218 = false := by decide +kernel
theorem kb_219 : Nat.ble 10000 219 = false := by decide +kernel
theorem kb_220 : Nat.ble 10000 220 = false := by decide +kernel
theorem kb_221 : Nat.ble 10000 221 = false := by decide +kernel
theorem kb_222 : Nat.ble 10000 222 = false := by decide +kernel
theorem kb_223 : Nat.ble 10000 223 = false := by decide +kernel
theorem kb_224 : Nat.ble 10000 224 = false := by decide +kernel
theorem kb_225 : Nat.ble 10000 225 = false := by decide +kernel
theorem kb_226 : Nat.ble 10000 226 = false := by decide +kernel
theorem kb_227 : Nat.ble 10000 227 = false := by decide +kernel
theorem kb_228 : Nat.ble 10000 228 = false := by decide +kernel
theorem kb_229 : Nat.ble 10000 229 = false := by decide +kernel
theorem kb_230 : Nat.ble 10000 230 = false := by decide +kernel
theorem kb_231 : Nat.ble 10000 231 = false := by decide +kernel
theorem kb_232 : Nat.ble 10000 232 = false := by decide +kernel
theorem kb_233 : Nat.ble 10000 233 = false := by decide +kernel
theorem kb_234 : Nat.ble 10000 234 = false := by decide +kernel
theorem kb_235 : Nat.ble 10000 235 = false := by decide +kernel
theorem kb_236 : Nat.ble 10000 236 = false := by decide +kernel
theorem kb_237 : Nat.ble 10000 237 = false := by decide +kernel
theorem kb_238 : Nat.ble 10000 238 = false := by decide +kernel
theorem kb_239 : Nat.ble 10000 239 = false := by decide +kernel
theorem kb_240 : Nat.ble 10000 240 = false := by decide +kernel
theorem kb_241 : Nat.ble 10000 241 = false := by decide +kernel
theorem kb_242 : Nat.ble 10000 242 = false := by decide +kernel
theorem kb_243 : Nat.ble 10000 243 = false := by decide +kernel
theorem kb_244 : Nat.ble 10000 244 = false := by decide +kernel
theorem kb_245 : Nat.ble 10000 245 = false := by decide +kernel
theorem kb_246 : Nat.ble 10000 246 = false := by decide +kernel
theorem kb_247 : Nat.ble 10000 247 = false := by decide +kernel
theorem kb_248 : Nat.ble 10000 248 = false := by decide +kernel
theorem kb_249 : Nat.ble 10000 249 = false := by decide +kernel
theorem kb_250 : Nat.ble 10000 250 = false := by decide +kernel
theorem kb_251 : Nat.ble 10000 251 = false := by decide +kernel
theorem kb_252 : Nat.ble 10000 252 = false := by decide +kernel
theorem kb_253 : Nat.ble 10000 253 = false := by decide +kernel
theorem kb_254 : Nat.ble 10000 254 = false := by decide +kernel
theorem kb_255 : Nat.ble 10000 255 = false := by decide +kernel
theorem kb_256 : Nat.ble 10000 256 = false := by decide +kernel
theorem kb_257 : Nat.ble 10000 257 = false := by decide +kernel
theorem kb_258 : Nat.ble 10000 258 = false := by decide +kernel
theorem kb_259 : Nat.ble 10000 259 = false := by decide +kernel
theorem kb_260 : Nat.ble 10000 260 = false := by decide +kernel
theorem kb_261 : Nat.ble 10000 261 = false := by decide +kernel
theorem kb_262 : Nat.ble 10000 262 = false := by decide +kernel
theorem kb_263 : Nat.ble 10000 263 = false := by decide +kernel
theorem kb_264 : Nat.ble 10000 264 = false := by decide +kernel
theorem kb_265 : Nat.ble 10000 265 = false := by decide +kernel
theorem kb_266 : Nat.ble 10000 266 = false := by decide +kernel
theorem kb_267 : Nat.ble 10000 267 = false := by decide +kernel
theorem kb_268 : Nat.ble 10000 268 = false := by decide +kernel
theorem kb_269 : Nat.ble 10000 269 = false := by decide +kernel
theorem kb_270 : Nat.ble 10000 270 = false := by decide +kernel
theorem kb_271 : Nat.ble 10000 271 = false := by decide +kernel
theorem kb_272 : Nat.ble 10000 272 = false := by decide +kernel
theorem kb_273 : Nat.ble 10000 273 = false := by decide +kernel
theorem kb_274 : Nat.ble 10000 274 = false := by decide +kernel
theorem kb_275 : Nat.ble 10000 275 = false := by decide +kernel
theorem kb_276 : Nat.ble 10000 276 = false := by decide +kernel
theorem kb_277 : Nat.ble 10000 277 = false := by decide +kernel
theorem kb_278 : Nat.ble 10000 278 = false := by decide +kernel
theorem kb_279 : Nat.ble 10000 279 = false := by decide +kernel
theorem kb_280 : Nat.ble 10000 280 = false := by decide +kernel
theorem kb_281 : Nat.ble 10000 281 = false := by decide +kernel
theorem kb_282 : Nat.ble 10000 282 = false := by decide +kernel
theorem kb_283 : Nat.ble 10000 283 = false := by decide +kernel
theorem kb_284 : Nat.ble 10000 284 = false := by decide +kernel
theorem kb_285 : Nat.ble 10000 285 = false := by decide +kernel
theorem kb_286 : Nat.ble 10000 286 = false := by decide +kernel
theorem kb_287 : Nat.ble 10000 287 = false := by decide +kernel
theorem kb_288 : Nat.ble 10000 288 = false := by decide +kernel
theorem kb_289 : Nat.ble 10000 289 = false := by decide +kernel
theorem kb_290 : Nat.ble 10000 290 = false := by decide +kernel
theorem kb_291 : Nat.ble 10000 291 = false := by decide +kernel
theorem kb_292 : Nat.ble 10000 292 = false := by decide +kernel
theorem kb_293 : Nat.ble 10000 293 = false := by decide +kernel
theorem kb_294 : Nat.ble 10000 294 = false := by decide +kernel
theorem kb_295 : Nat.ble 10000 295 = false := by decide +kernel
theorem kb_296 : Nat.ble 10000 296 = false := by decide +kernel
theorem kb_297 : Nat.ble 10000 297 = false := by decide +kernel
theorem kb_298 : Nat.ble 10000 298 = false := by decide +kernel
theorem kb_299 : Nat.ble 10000 299 = false := by decide +kernel
theorem kb_300 : Nat.ble 10000 300 = false := by decide +kernel
theorem kb_301 : Nat.ble 10000 301 = false := by decide +kernel
theorem kb_302 : Nat.ble 10000 302 = false := by decide +kernel
theorem kb_303 : Nat.ble 10000 303 = false := by decide +kernel
theorem kb_304 : Nat.ble 10000 304 = false := by decide +kernel
theorem kb_305 : Nat.ble 10000 305 = false := by decide +kernel
theorem kb_306 : Nat.ble 10000 306 = false := by decide +kernel
theorem kb_307 : Nat.ble 10000 307 = false := by decide +kernel
theorem kb_308 : Nat.ble 10000 308 = false := by decide +kernel
theorem kb_309 : Nat.ble 10000 309 = false := by decide +kernel
theorem kb_310 : Nat.ble 10000 310 = false := by decide +kernel
theorem kb_311 : Nat.ble 10000 311 = false := by decide +kernel
theorem kb_312 : Nat.ble 10000 312 = false := by decide +kernel
theorem kb_313 : Nat.ble 10000 313 = false := by decide +kernel
theorem kb_314 : Nat.ble 10000 314 = false := by decide +kernel
theorem kb_315 : Nat.ble 10000 315 = false := by decide +kernel
theorem kb_316 : Nat.ble 10000 316 = false := by decide +kernel
theorem kb_317 : Nat.ble 10000 317 = false := by decide +kernel
theorem kb_318 : Nat.ble 10000 318 = false := by decide +kernel
theorem kb_319 : Nat.ble 10000 319 = false := by decide +kernel
theorem kb_320 : Nat.ble 10000 320 = false := by decide +kernel
theorem kb_321 : Nat.ble 10000 321 = false := by decide +kernel
theorem kb_322 : Nat.ble 10000 322 = false := by decide +kernel
theorem kb_323 : Nat.ble 10000 323 = false := by decide +kernel
theorem kb_324 : Nat.ble 10000 324 = false := by decide +kernel
theorem kb_325 : Nat.ble 10000 325 = false := by decide +kernel
theorem kb_326 : Nat.ble 10000 326 = false := by decide +kernel
theorem kb_327 : Nat.ble 10000 327 = false := by decide +kernel
theorem kb_328 : Nat.ble 10000 328 = false := by decide +kernel
theorem kb_329 : Nat.ble 10000 329 = false := by decide +kernel
theorem kb_330 : Nat.ble 10000 330 = false := by decide +kernel
theorem kb_331 : Nat.ble 10000 331 = false := by decide +kernel
theorem kb_332 : Nat.ble 10000 332 = false := by decide +kernel
theorem kb_333 : Nat.ble 10000 333 = false := by decide +kernel
theorem kb_334 : Nat.ble 10000 334 = false := by decide +kernel
theorem kb_335 : Nat.ble 10000 335 = false := by decide +kernel
theorem kb_336 : Nat.ble 10000 336 = false := by decide +kernel
theorem kb_337 : Nat.ble 10000 337 = false := by decide +kernel
theorem kb_338 : Nat.ble 10000 338 = false := by decide +kernel
theorem kb_339 : Nat.ble 10000 339 = false := by decide +kernel
theorem kb_340 : Nat.ble 10000 340 = false := by decide +kernel
theorem kb_341 : Nat.ble 10000 341 = false := by decide +kernel
theorem kb_342 : Nat.ble 10000 342 = false := by decide +kernel
theorem kb_343 : Nat.ble 10000 343 = false := by decide +kernel
theorem kb_344 : Nat.ble 10000 344 = false := by decide +kernel
theorem kb_345 : Nat.ble 10000 345 = false := by decide +kernel
theorem kb_346 : Nat.ble 10000 346 = false := by decide +kernel
theorem kb_347 : Nat.ble 10000 347 = false := by decide +kernel
theorem kb_348 : Nat.ble 10000 348 = false := by decide +kernel
theorem kb_349 : Nat.ble 10000 349 = false := by decide +kernel
theorem kb_350 : Nat.ble 10000 350 = false := by decide +kernel
theorem kb_351 : Nat.ble 10000 351 = false := by decide +kernel
theorem kb_352 : Nat.ble 10000 352 = false := by decide +kernel
theorem kb_353 : Nat.ble 10000 353 = false := by decide +kernel
theorem kb_354 : Nat.ble 10000 354 = false := by decide +kernel
theorem kb_355 : Nat.ble 10000 355 = false := by decide +kernel
theorem kb_356 : Nat.ble 10000 356 = false := by decide +kernel
theorem kb_357 : Nat.ble 10000 357 = false := by decide +kernel
theorem kb_358 : Nat.ble 10000 358 = false := by decide +kernel
theorem kb_359 : Nat.ble 10000 359 = false := by decide +kernel
theorem kb_360 : Nat.ble 10000 360 = false := by decide +kernel
theorem kb_361 : Nat.ble 10000 361 = false := by decide +kernel
theorem kb_362 : Nat.ble 10000 362 = false := by decide +kernel
theorem kb_363 : Nat.ble 10000 363 = false := by decide +kernel
theorem kb_364 : Nat.ble 10000 364 = false := by decide +kernel
theorem kb_365 : Nat.ble 10000 365 = false := by decide +kernel
theorem kb_366 : Nat.ble 10000 366 = false := by decide +kernel
theorem kb_367 : Nat.ble 10000 367 = false := by decide +kernel
theorem kb_368 : Nat.ble 10000 368 = false := by decide +kernel
theorem kb_369 : Nat.ble 10000 369 = false := by decide +kernel
theorem kb_370 : Nat.ble 10000 370 = false := by decide +kernel
theorem kb_371 : Nat.ble 10000 371 = false := by decide +kernel
theorem kb_372 : Nat.ble 10000 372 = false := by decide +kernel
theorem kb_373 : Nat.ble 10000 373 = false := by decide +kernel
theorem kb_374 : Nat.ble 10000 374 = false := by decide +kernel
theorem kb_375 : Nat.ble 10000 375 = false := by decide +kernel
theorem kb_376 : Nat.ble 10000 376 = false := by decide +kernel
theorem kb_377 : Nat.ble 10000 377 = false := by decide +kernel
theorem kb_378 : Nat.ble 10000 378 = false := by decide +kernel
theorem kb_379 : Nat.ble 10000 379 = false := by decide +kernel
theorem kb_380 : Nat.ble 10000 380 = false := by decide +kernel
theorem kb_381 : Nat.ble 10000 381 = false := by decide +kernel
theorem kb_382 : Nat.ble 10000 382 = false := by decide +kernel
theorem kb_383 : Nat.ble 10000 383 = false := by decide +kernel
theorem kb_384 : Nat.ble 10000 384 = false := by decide +kernel
theorem kb_385 : Nat.ble 10000 385 = false := by decide +kernel
theorem kb_386 : Nat.ble 10000 386 = false := by decide +kernel
theorem kb_387 : Nat.ble 10000 387 = false := by decide +kernel
theorem kb_388 : Nat.ble 10000 388 = false := by decide +kernel
theorem kb_389 : Nat.ble 10000 389 = false := by decide +kernel
theorem kb_390 : Nat.ble 10000 390 = false := by decide +kernel
theorem kb_391 : Nat.ble 10000 391 = false := by decide +kernel
theorem kb_392 : Nat.ble 10000 392 = false := by decide +kernel
theorem kb_393 : Nat.ble 10000 393 = false := by decide +kernel
theorem kb_394 : Nat.ble 10000 394 = false := by decide +kernel
theorem kb_395 : Nat.ble 10000 395 = false := by decide +kernel
theorem kb_396 : Nat.ble 10000 396 = false := by decide +kernel
theorem kb_397 : Nat.ble 10000 397 = false := by decide +kernel
theorem kb_398 : Nat.ble 10000 398 = false := by decide +kernel
theorem kb_399 : Nat.ble 10000 399 = false := by decide +kernel
theorem kb_400 : Nat.ble 10000 400 = false := by decide +kernel
theorem kb_401 : Nat.ble 10000 401 = false := by decide +kernel
theorem kb_402 : Nat.ble 10000 402 = false := by decide +kernel
theorem kb_403 : Nat.ble 10000 403 = false := by decide +kernel
theorem kb_404 : Nat.ble 10000 404 = false := by decide +kernel
theorem kb_405 : Nat.ble 10000 405 = false := by decide +kernel
theorem kb_406 : Nat.ble 10000 406 = false := by decide +kernel
theorem kb_407 : Nat.ble 10000 407 = false := by decide +kernel
theorem kb_408 : Nat.ble 10000 408 = false := by decide +kernel
theorem kb_409 : Nat.ble 10000 409 = false := by decide +kernel
theorem kb_410 : Nat.ble 10000 410 = false := by decide +kernel
theorem kb_411 : Nat.ble 10000 411 = false := by decide +kernel
theorem kb_412 : Nat.ble 10000 412 = false := by decide +kernel
theorem kb_413 : Nat.ble 10000 413 = false := by decide +kernel
theorem kb_414 : Nat.ble 10000 414 = false := by decide +kernel
theorem kb_415 : Nat.ble 10000 415 = false := by decide +kernel
theorem kb_416 : Nat.ble 10000 416 = false := by decide +kernel
theorem kb_417 : Nat.ble 10000 417 = false := by decide +kernel
theorem kb_418 : Nat.ble 10000 418 = false := by decide +kernel
theorem kb_419 : Nat.ble 10000 419 = false := by decide +kernel
theorem kb_420 : Nat.ble 10000 420 = false := by decide +kernel
theorem kb_421 : Nat.ble 10000 421 = false := by decide +kernel
theorem kb_422 : Nat.ble 10000 422 = false := by decide +kernel
theorem kb_423 : Nat.ble 10000 423 = false := by decide +kernel
theorem kb_424 : Nat.ble 10000 424 = false := by decide +kernel
theorem kb_425 : Nat.ble 10000 425 = false := by decide +kernel
theorem kb_426 : Nat.ble 10000 426 = false := by decide +kernel
theorem kb_427 : Nat.ble 10000 427 = false := by decide +kernel
theorem kb_428 : Nat.ble 10000 428 = false := by decide +kernel
theorem kb_429 : Nat.ble 10000 429 = false := by decide +kernel
theorem kb_430 : Nat.ble 10000 430 = false := by decide +kernel
theorem kb_431 : Nat.ble 10000 431 = false := by decide +kernel
theorem kb_432 : Nat.ble 10000 432 = false := by decide +kernel
theorem kb_433 : Nat.ble 10000 433 = false := by decide +kernel
theorem kb_434 : Nat.ble 10000 434 = false := by decide +kernel
theorem kb_435 : Nat.ble 10000 435 = false := by decide +kernel
theorem kb_436 : Nat.ble 10000 436 = false := by decide +kernel
theorem kb_437 : Nat.ble 10000 437 = false := by decide +kernel
theorem kb_438 : Nat.ble 10000 438 = false := by decide +kernel
theorem kb_439 : Nat.ble 10000 439 = false := by decide +kernel
theorem kb_440 : Nat.ble 10000 440 = false := by decide +kernel
theorem kb_441 : Nat.ble 10000 441 = false := by decide +kernel
theorem kb_442 : Nat.ble 10000 442 = false := by decide +kernel
theorem kb_443 : Nat.ble 10000 443 = false := by decide +kernel
theorem kb_444 : Nat.ble 10000 444 = false := by decide +kernel
theorem kb_445 : Nat.ble 10000 445 = false := by decide +kernel
theorem kb_446 : Nat.ble 10000 446 = false := by decide +kernel
theorem kb_447 : Nat.ble 10000 447 = false := by decide +kernel
theorem kb_448 : Nat.ble 10000 448 = false := by decide +kernel
theorem kb_449 : Nat.ble 10000 449 = false := by decide +kernel
theorem kb_450 : Nat.ble 10000 450 = false := by decide +kernel
theorem kb_451 : Nat.ble 10000 451 = false := by decide +kernel
theorem kb_452 : Nat.ble 10000 452 = false := by decide +kernel
theorem kb_453 : Nat.ble 10000 453 = false := by decide +kernel
theorem kb_454 : Nat.ble 10000 454 = false := by decide +kernel
theorem kb_455 : Nat.ble 10000 455 = false := by decide +kernel
theorem kb_456 : Nat.ble 10000 456 = false := by decide +kernel
theorem kb_457 : Nat.ble 10000 457 = false := by decide +kernel
theorem kb_458 : Nat.ble 10000 458 = false := by decide +kernel
theorem kb_459 : Nat.ble 10000 459 = false := by decide +kernel
theorem kb_460 : Nat.ble 10000 460 = false := by decide +kernel
theorem kb_461 : Nat.ble 10000 461 = false := by decide +kernel
theorem kb_462 : Nat.ble 10000 462 = false := by decide +kernel
theorem kb_463 : Nat.ble 10000 463 = false := by decide +kernel
theorem kb_464 : Nat.ble 10000 464 = false := by decide +kernel
theorem kb_465 : Nat.ble 10000 465 = false := by decide +kernel
theorem kb_466 : Nat.ble 10000 466 = false := by decide +kernel
theorem kb_467 : Nat.ble 10000 467 = false := by decide +kernel
theorem kb_468 : Nat.ble 10000 468 = false := by decide +kernel
theorem kb_469 : Nat.ble 10000 469 = false := by decide +kernel
theorem kb_470 : Nat.ble 10000 470 = false := by decide +kernel
theorem kb_471 : Nat.ble 10000 471 = false := by decide +kernel
theorem kb_472 : Nat.ble 10000 472 = false := by decide +kernel
theorem kb_473 : Nat.ble 10000 473 = false := by decide +kernel
theorem kb_474 : Nat.ble 10000 474 = false := by decide +kernel
theorem kb_475 : Nat.ble 10000 475 = false := by decide +kernel
theorem kb_476 : Nat.ble 10000 476 = false := by decide +kernel
theorem kb_477 : Nat.ble 10000 477 = false := by decide +kernel
theorem kb_478 : Nat.ble 10000 478 = false := by decide +kernel
theorem kb_479 : Nat.ble 10000 479 = false := by decide +kernel
theorem kb_480 : Nat.ble 10000 480 = false := by decide +kernel
theorem kb_481 : Nat.ble 10000 481 = false := by decide +kernel
theorem kb_482 : Nat.ble 10000 482 = false := by decide +kernel
theorem kb_483 : Nat.ble 10000 483 = false := by decide +kernel
theorem kb_484 : Nat.ble 10000 484 = false := by decide +kernel
theorem kb_485 : Nat.ble 10000 485 = false := by decide +kernel
theorem kb_486 : Nat.ble 10000 486 = false := by decide +kernel
theorem kb_487 : Nat.ble 10000 487 = false := by decide +kernel
theorem kb_488 : Nat.ble 10000 488 = false := by decide +kernel
theorem kb_489 : Nat.ble 10000 489 = false := by decide +kernel
theorem kb_490 : Nat.ble 10000 490 = false := by decide +kernel
theorem kb_491 : Nat.ble 10000 491 = false := by decide +kernel
theorem kb_492 : Nat.ble 10000 492 = false := by decide +kernel
theorem kb_493 : Nat.ble 10000 493 = false := by decide +kernel
theorem kb_494 : Nat.ble 10000 494 = false := by decide +kernel
theorem kb_495 : Nat.ble 10000 495 = false := by decide +kernel
theorem kb_496 : Nat.ble 10000 496 = false := by decide +kernel
theorem kb_497 : Nat.ble 10000 497 = false := by decide +kernel
theorem kb_498 : Nat.ble 10000 498 = false := by decide +kernel
theorem kb_499 : Nat.ble 10000 499 = false := by decide +kernel
theorem kb_500 : Nat.ble 10000 500 = false := by decide +kernel
theorem kb_501 : Nat.ble 10000 501 = false := by decide +kernel
theorem kb_502 : Nat.ble 10000 502 = false := by decide +kernel
theorem kb_503 : Nat.ble 10000 503 = false := by decide +kernel
theorem kb_504 : Nat.ble 10000 504 = false := by decide +kernel
theorem kb_505 : Nat.ble 10000 505 = false := by decide +kernel
theorem kb_506 : Nat.ble 10000 506 = false := by decide +kernel
theorem kb_507 : Nat.ble 10000 507 = false := by decide +kernel
theorem kb_508 : Nat.ble 10000 508 = false := by decide +kernel
theorem kb_509 : Nat.ble 10000 509 = false := by decide +kernel
theorem kb_510 : Nat.ble 10000 510 = false := by decide +kernel
theorem kb_511 : Nat.ble 10000 511 = false := by decide +kernel
theorem kb_512 : Nat.ble 10000 512 = false := by decide +kernel
theorem kb_513 : Nat.ble 10000 513 = false := by decide +kernel
theorem kb_514 : Nat.ble 10000 514 = false := by decide +kernel
theorem kb_515 : Nat.ble 10000 515 = false := by decide +kernel
theorem kb_516 : Nat.ble 10000 516 = false := by decide +kernel
theorem kb_517 : Nat.ble 10000 517 = false := by decide +kernel
theorem kb_518 : Nat.ble 10000 518 = false := by decide +kernel
theorem kb_519 : Nat.ble 10000 519 = false := by decide +kernel
theorem kb_520 : Nat.ble 10000 520 = false := by decide +kernel
theorem kb_521 : Nat.ble 10000 521 = false := by decide +kernel
theorem kb_522 : Nat.ble 10000 522 = false := by decide +kernel
theorem kb_523 : Nat.ble 10000 523 = false := by decide +kernel
theorem kb_524 : Nat.ble 10000 524 = false := by decide +kernel
theorem kb_525 : Nat.ble 10000 525 = false := by decide +kernel
theorem kb_526 : Nat.ble 10000 526 = false := by decide +kernel
theorem kb_527 : Nat.ble 10000 527 = false := by decide +kernel
theorem kb_528 : Nat.ble 10000 528 = false := by decide +kernel
theorem kb_529 : Nat.ble 10000 529 = false := by decide +kernel
theorem kb_530 : Nat.ble 10000 530 = false := by decide +kernel
theorem kb_531 : Nat.ble 10000 531 = false := by decide +kernel
theorem kb_532 : Nat.ble 10000 532 = false := by decide +kernel
theorem kb_533 : Nat.ble 10000 533 = false := by decide +kernel
theorem kb_534 : Nat.ble 10000 534 = false := by decide +kernel
theorem kb_535 : Nat.ble 10000 535 = false := by decide +kernel
theorem kb_536 : Nat.ble 10000 536 = false := by decide +kernel
theorem kb_537 : Nat.ble 10000 537 = false := by decide +kernel
theorem kb_538 : Nat.ble 10000 538 = false := by decide +kernel
theorem kb_539 : Nat.ble 10000 539 = false := by decide +kernel
theorem kb_540 : Nat.ble 10000 540 = false := by decide +kernel
theorem kb_541 : Nat.ble 10000 541 = false := by decide +kernel
theorem kb_542 : Nat.ble 10000 542 = false := by decide +kernel
theorem kb_543 : Nat.ble 10000 543 = false := by decide +kernel
theorem kb_544 : Nat.ble 10000 544 = false := by decide +kernel
theorem kb_545 : Nat.ble 10000 545 = false := by decide +kernel
theorem kb_546 : Nat.ble 10000 546 = false := by decide +kernel
theorem kb_547 : Nat.ble 10000 547 = false := by decide +kernel
theorem kb_548 : Nat.ble 10000 548 = false := by decide +kernel
theorem kb_549 : Nat.ble 10000 549 = false := by decide +kernel
theorem kb_550 : Nat.ble 10000 550 = false := by decide +kernel
theorem kb_551 : Nat.ble 10000 551 = false := by decide +kernel
theorem kb_552 : Nat.ble 10000 552 = false := by decide +kernel
theorem kb_553 : Nat.ble 10000 553 = false := by decide +kernel
theorem kb_554 : Nat.ble 10000 554 = false := by decide +kernel
theorem kb_555 : Nat.ble 10000 555 = false := by decide +kernel
theorem kb_556 : Nat.ble 10000 556 = false := by decide +kernel
theorem kb_557 : Nat.ble 10000 557 = false := by decide +kernel
theorem kb_558 : Nat.ble 10000 558 = false := by decide +kernel
theorem kb_559 : Nat.ble 10000 559 = false := by decide +kernel
theorem kb_560 : Nat.ble 10000 560 = false := by decide +kernel
theorem kb_561 : Nat.ble 10000 561 = false := by decide +kernel
theorem kb_562 : Nat.ble 10000 562 = false := by decide +kernel
theorem kb_563 : Nat.ble 10000 563 = false := by decide +kernel
theorem kb_564 : Nat.ble 10000 564 = false := by decide +kernel
theorem kb_565 : Nat.ble 10000 565 = false := by decide +kernel
theorem kb_566 : Nat.ble 10000 566 = false := by decide +kernel
theorem kb_567 : Nat.ble 10000 567 = false := by decide +kernel
theorem kb_568 : Nat.ble 10000 568 = false := by decide +kernel
theorem kb_569 : Nat.ble 10000 569 = false := by decide +kernel
theorem kb_570 : Nat.ble 10000 570 = false := by decide +kernel
theorem kb_571 : Nat.ble 10000 571 = false := by decide +kernel
theorem kb_572 : Nat.ble 10000 572 = false := by decide +kernel
theorem kb_573 : Nat.ble 10000 573 = false := by decide +kernel
theorem kb_574 : Nat.ble 10000 574 = false := by decide +kernel
theorem kb_575 : Nat.ble 10000 575 = false := by decide +kernel
theorem kb_576 : Nat.ble 10000 576 = false := by decide +kernel
theorem kb_577 : Nat.ble 10000 577 = false := by decide +kernel
theorem kb_578 : Nat.ble 10000 578 = false := by decide +kernel
theorem kb_579 : Nat.ble 10000 579 = false := by decide +kernel
theorem kb_580 : Nat.ble 10000 580 = false := by decide +kernel
theorem kb_581 : Nat.ble 10000 581 = false := by decide +kernel
theorem kb_582 : Nat.ble 10000 582 = false := by decide +kernel
theorem kb_583 : Nat.ble 10000 583 = false := by decide +kernel
theorem kb_584 : Nat.ble 10000 584 = false := by decide +kernel
theorem kb_585 : Nat.ble 10000 585 = false := by decide +kernel
theorem kb_586 : Nat.ble 10000 586 = false := by decide +kernel
theorem kb_587 : Nat.ble 10000 587 = false := by decide +kernel
theorem kb_588 : Nat.ble 10000 588 = false := by decide +kernel
theorem rt_0 : am_rt (am_m 0) = ret := by decide +kernel
theorem rt_1 : am_rt (am_m 1) = none := by decide +kernel
theorem rt_2 : am_rt (am_m 2) = none := by decide +kernel
theorem rt_3 : am_rt (am_m 3) = none := by decide +kernel
theorem rt_4 : am_rt (am_m 4) = none := by decide +kernel
theorem rt_5 : am_rt (am_m 5) = none := by decide +kernel
theorem rt_6 : am_rt (am_m 6) = none := by decide +kernel
theorem rt_7 : am_rt (am_m 7) = none := by decide +kernel
theorem rt_8 : am_rt (am_m 8) = none := by decide +kernel
theorem rt_9 : am_rt (am_m 9) = (some FieldType.long) := by decide +kernel
theorem rt_10 : am_rt (am_m 10) = (some FieldType.boolean) := by decide +kernel
theorem rt_11 : am_rt (am_m 11) = (some FieldType.boolean) := by decide +kernel
theorem rt_12 : am_rt (am_m 12) = (some FieldType.int) := by decide +kernel
theorem rt_13 : am_rt (am_m 13) = (some FieldType.boolean) := by decide +kernel
theorem rt_14 : am_rt (am_m 14) = (some FieldType.int) := by decide +kernel
theorem rt_15 : am_rt (am_m 15) = (some FieldType.long) := by decide +kernel
theorem rt_16 : am_rt (am_m 16) = (some FieldType.long) := by decide +kernel
theorem rt_17 : am_rt (am_m 17) = none := by decide +kernel
theorem rt_18 : am_rt (am_m 18) = none := by decide +kernel
theorem rt_19 : am_rt (am_m 19) = none := by decide +kernel
theorem rt_20 : am_rt (am_m 20) = none := by decide +kernel
theorem rt_21 : am_rt (am_m 21) = (some FieldType.int) := by decide +kernel
theorem rt_22 : am_rt (am_m 22) = (some FieldType.int) := by decide +kernel
theorem rt_23 : am_rt (am_m 23) = (some FieldType.int) := by decide +kernel
theorem rt_24 : am_rt (am_m 24) = (some FieldType.int) := by decide +kernel
theorem rt_25 : am_rt (am_m 25) = (some FieldType.int) := by decide +kernel
theorem rt_26 : am_rt (am_m 26) = (some FieldType.int) := by decide +kernel
theorem rt_27 : am_rt (am_m 27) = (some FieldType.int) := by decide +kernel
theorem rt_28 : am_rt (am_m 28) = (some FieldType.int) := by decide +kernel
theorem rt_29 : am_rt (am_m 29) = (some FieldType.int) := by decide +kernel
theorem rt_30 : am_rt (am_m 30) = (some FieldType.int) := by decide +kernel
theorem rt_31 : am_rt (am_m 31) = (some FieldType.int) := by decide +kernel
theorem rt_32 : am_rt (am_m 32) = none := by decide +kernel
theorem rt_33 : am_rt (am_m 33) = (some FieldType.int) := by decide +kernel
theorem rt_34 : am_rt (am_m 34) = none := by decide +kernel
theorem rt_35 : am_rt (am_m 35) = none := by decide +kernel
theorem rt_36 : am_rt (am_m 36) = (some FieldType.char) := by decide +kernel
theorem rt_37 : am_rt (am_m 37) = (some FieldType.int) := by decide +kernel
theorem rt_38 : am_rt (am_m 38) = (some FieldType.int) := by decide +kernel
theorem rt_39 : am_rt (am_m 39) = none := by decide +kernel
theorem rt_40 : am_rt (am_m 40) = none := by decide +kernel
theorem rt_41 : am_rt (am_m 41) = (some FieldType.boolean) := by decide +kernel
theorem rt_42 : am_rt (am_m 42) = (some FieldType.boolean) := by decide +kernel
theorem rt_43 : am_rt (am_m 43) = (some FieldType.int) := by decide +kernel
theorem rt_44 : am_rt (am_m 44) = (some FieldType.int) := by decide +kernel
theorem rt_45 : am_rt (am_m 45) = (some FieldType.boolean) := by decide +kernel
theorem rt_46 : am_rt (am_m 46) = none := by decide +kernel
theorem rt_47 : am_rt (am_m 47) = (some FieldType.int) := by decide +kernel
theorem rt_48 : am_rt (am_m 48) = none := by decide +kernel
theorem rt_49 : am_rt (am_m 49) = none := by decide +kernel
theorem rt_50 : am_rt (am_m 50) = none := by decide +kernel
theorem rt_51 : am_rt (am_m 51) = none := by decide +kernel
theorem rt_52 : am_rt (am_m 52) = (some FieldType.int) := by decide +kernel
theorem rt_53 : am_rt (am_m 53) = none := by decide +kernel
theorem rt_54 : am_rt (am_m 54) = (some FieldType.int) := by decide +kernel
theorem rt_55 : am_rt (am_m 55) = (some FieldType.int) := by decide +kernel
theorem rt_56 : am_rt (am_m 56) = (some FieldType.int) := by decide +kernel
theorem rt_57 : am_rt (am_m 57) = (some FieldType.boolean) := by decide +kernel
theorem rt_58 : am_rt (am_m 58) = (some FieldType.int) := by decide +kernel
theorem rt_59 : am_rt (am_m 59) = (some FieldType.int) := by decide +kernel
theorem rt_60 : am_rt (am_m 60) = none := by decide +kernel
theorem rt_61 : am_rt (am_m 61) = (some FieldType.int) := by decide +kernel
theorem rt_62 : am_rt (am_m 62) = (some FieldType.int) := by decide +kernel
theorem rt_63 : am_rt (am_m 63) = (some (FieldType.object "BreedingHouse$Program")) := by decide +kernel
theorem rt_64 : am_rt (am_m 64) = (some FieldType.int) := by decide +kernel
theorem rt_65 : am_rt (am_m 65) = (some FieldType.int) := by decide +kernel
theorem rt_66 : am_rt (am_m 66) = none := by decide +kernel
theorem rt_67 : am_rt (am_m 67) = (some FieldType.int) := by decide +kernel
theorem rt_68 : am_rt (am_m 68) = none := by decide +kernel
theorem rt_69 : am_rt (am_m 69) = none := by decide +kernel
theorem rt_70 : am_rt (am_m 70) = (some FieldType.int) := by decide +kernel
theorem rt_71 : am_rt (am_m 71) = (some FieldType.int) := by decide +kernel
theorem rt_72 : am_rt (am_m 72) = (some FieldType.int) := by decide +kernel
theorem rt_73 : am_rt (am_m 73) = (some FieldType.int) := by decide +kernel
theorem rt_74 : am_rt (am_m 74) = (some FieldType.int) := by decide +kernel
theorem rt_75 : am_rt (am_m 75) = (some FieldType.int) := by decide +kernel
theorem rt_76 : am_rt (am_m 76) = none := by decide +kernel
theorem rt_77 : am_rt (am_m 77) = none := by decide +kernel
theorem rt_78 : am_rt (am_m 78) = none := by decide +kernel
theorem rt_79 : am_rt (am_m 79) = none := by decide +kernel
theorem rt_80 : am_rt (am_m 80) = (some FieldType.int) := by decide +kernel
theorem rt_81 : am_rt (am_m 81) = (some FieldType.long) := by decide +kernel
theorem rt_82 : am_rt (am_m 82) = (some FieldType.int) := by decide +kernel
theorem rt_83 : am_rt (am_m 83) = (some FieldType.int) := by decide +kernel
theorem rt_84 : am_rt (am_m 84) = (some FieldType.int) := by decide +kernel
theorem rt_85 : am_rt (am_m 85) = (some FieldType.boolean) := by decide +kernel
theorem rt_86 : am_rt (am_m 86) = (some FieldType.boolean) := by decide +kernel
theorem rt_87 : am_rt (am_m 87) = (some FieldType.int) := by decide +kernel
theorem rt_88 : am_rt (am_m 88) = (some FieldType.long) := by decide +kernel
theorem rt_89 : am_rt (am_m 89) = (some FieldType.int) := by decide +kernel
theorem rt_90 : am_rt (am_m 90) = (some FieldType.int) := by decide +kernel
theorem rt_91 : am_rt (am_m 91) = none := by decide +kernel
theorem rt_92 : am_rt (am_m 92) = none := by decide +kernel
theorem rt_93 : am_rt (am_m 93) = (some FieldType.long) := by decide +kernel
theorem rt_94 : am_rt (am_m 94) = none := by decide +kernel
theorem rt_95 : am_rt (am_m 95) = none := by decide +kernel
theorem rt_96 : am_rt (am_m 96) = (some FieldType.int) := by decide +kernel
theorem rt_97 : am_rt (am_m 97) = (some FieldType.long) := by decide +kernel
theorem rt_98 : am_rt (am_m 98) = (some FieldType.long) := by decide +kernel
theorem rt_99 : am_rt (am_m 99) = (some FieldType.long) := by decide +kernel
theorem rt_100 : am_rt (am_m 100) = (some FieldType.int) := by decide +kernel
theorem rt_101 : am_rt (am_m 101) = (some FieldType.long) := by decide +kernel
theorem rt_102 : am_rt (am_m 102) = (some FieldType.long) := by decide +kernel
theorem rt_103 : am_rt (am_m 103) = (some FieldType.int) := by decide +kernel
theorem rt_104 : am_rt (am_m 104) = (some FieldType.int) := by decide +kernel
theorem rt_105 : am_rt (am_m 105) = (some FieldType.int) := by decide +kernel
theorem rt_106 : am_rt (am_m 106) = (some FieldType.int) := by decide +kernel
theorem rt_107 : am_rt (am_m 107) = (some FieldType.int) := by decide +kernel
theorem rt_108 : am_rt (am_m 108) = none := by decide +kernel
theorem rt_109 : am_rt (am_m 109) = none := by decide +kernel
theorem rt_110 : am_rt (am_m 110) = (some FieldType.int) := by decide +kernel
theorem rt_111 : am_rt (am_m 111) = (some FieldType.int) := by decide +kernel
theorem rt_112 : am_rt (am_m 112) = (some FieldType.int) := by decide +kernel
theorem rt_113 : am_rt (am_m 113) = (some FieldType.int) := by decide +kernel
theorem rt_114 : am_rt (am_m 114) = (some FieldType.int) := by decide +kernel
theorem rt_115 : am_rt (am_m 115) = none := by decide +kernel
theorem rt_116 : am_rt (am_m 116) = none := by decide +kernel
theorem rt_117 : am_rt (am_m 117) = (some FieldType.int) := by decide +kernel
theorem rt_118 : am_rt (am_m 118) = (some FieldType.boolean) := by decide +kernel
theorem rt_119 : am_rt (am_m 119) = (some FieldType.int) := by decide +kernel
theorem rt_120 : am_rt (am_m 120) = (some FieldType.int) := by decide +kernel
theorem rt_121 : am_rt (am_m 121) = (some FieldType.int) := by decide +kernel
theorem rt_122 : am_rt (am_m 122) = (some FieldType.int) := by decide +kernel
theorem rt_123 : am_rt (am_m 123) = (some FieldType.int) := by decide +kernel
theorem rt_124 : am_rt (am_m 124) = (some FieldType.int) := by decide +kernel
theorem rt_125 : am_rt (am_m 125) = (some FieldType.int) := by decide +kernel
theorem rt_126 : am_rt (am_m 126) = (some FieldType.int) := by decide +kernel
theorem rt_127 : am_rt (am_m 127) = none := by decide +kernel
theorem rt_128 : am_rt (am_m 128) = (some FieldType.int) := by decide +kernel
theorem rt_129 : am_rt (am_m 129) = (some FieldType.int) := by decide +kernel
theorem rt_130 : am_rt (am_m 130) = (some FieldType.int) := by decide +kernel
theorem rt_131 : am_rt (am_m 131) = (some FieldType.int) := by decide +kernel
theorem rt_132 : am_rt (am_m 132) = (some FieldType.int) := by decide +kernel
theorem rt_133 : am_rt (am_m 133) = (some FieldType.int) := by decide +kernel
theorem rt_134 : am_rt (am_m 134) = (some FieldType.int) := by decide +kernel
theorem rt_135 : am_rt (am_m 135) = (some FieldType.long) := by decide +kernel
theorem rt_136 : am_rt (am_m 136) = (some FieldType.long) := by decide +kernel
theorem rt_137 : am_rt (am_m 137) = (some FieldType.int) := by decide +kernel
theorem rt_138 : am_rt (am_m 138) = (some FieldType.long) := by decide +kernel
theorem rt_139 : am_rt (am_m 139) = none := by decide +kernel
theorem rt_140 : am_rt (am_m 140) = (some FieldType.long) := by decide +kernel
theorem rt_141 : am_rt (am_m 141) = (some FieldType.boolean) := by decide +kernel
theorem rt_142 : am_rt (am_m 142) = (some FieldType.long) := by decide +kernel
theorem rt_143 : am_rt (am_m 143) = none := by decide +kernel
theorem rt_144 : am_rt (am_m 144) = (some FieldType.long) := by decide +kernel
theorem rt_145 : am_rt (am_m 145) = (some FieldType.int) := by decide +kernel
theorem rt_146 : am_rt (am_m 146) = (some FieldType.long) := by decide +kernel
theorem rt_147 : am_rt (am_m 147) = (some FieldType.int) := by decide +kernel
theorem rt_148 : am_rt (am_m 148) = (some FieldType.int) := by decide +kernel
theorem rt_149 : am_rt (am_m 149) = (some FieldType.int) := by decide +kernel
theorem rt_150 : am_rt (am_m 150) = (some FieldType.int) := by decide +kernel
theorem rt_151 : am_rt (am_m 151) = (some FieldType.int) := by decide +kernel
theorem rt_152 : am_rt (am_m 152) = (some FieldType.int) := by decide +kernel
theorem rt_153 : am_rt (am_m 153) = (some FieldType.int) := by decide +kernel
theorem rt_154 : am_rt (am_m 154) = (some FieldType.int) := by decide +kernel
theorem rt_155 : am_rt (am_m 155) = none := by decide +kernel
theorem rt_156 : am_rt (am_m 156) = (some FieldType.int) := by decide +kernel
theorem rt_157 : am_rt (am_m 157) = (some FieldType.int) := by decide +kernel
theorem rt_158 : am_rt (am_m 158) = none := by decide +kernel
theorem rt_159 : am_rt (am_m 159) = (some FieldType.int) := by decide +kernel
theorem rt_160 : am_rt (am_m 160) = (some FieldType.int) := by decide +kernel
theorem rt_161 : am_rt (am_m 161) = (some FieldType.int) := by decide +kernel
theorem rt_162 : am_rt (am_m 162) = (some FieldType.int) := by decide +kernel
theorem rt_163 : am_rt (am_m 163) = (some FieldType.boolean) := by decide +kernel
theorem rt_164 : am_rt (am_m 164) = (some FieldType.boolean) := by decide +kernel
theorem rt_165 : am_rt (am_m 165) = (some FieldType.boolean) := by decide +kernel
theorem rt_166 : am_rt (am_m 166) = (some FieldType.int) := by decide +kernel
theorem rt_167 : am_rt (am_m 167) = (some FieldType.boolean) := by decide +kernel
theorem rt_168 : am_rt (am_m 168) = (some FieldType.boolean) := by decide +kernel
theorem rt_169 : am_rt (am_m 169) = (some FieldType.boolean) := by decide +kernel
theorem rt_170 : am_rt (am_m 170) = (some FieldType.boolean) := by decide +kernel
theorem rt_171 : am_rt (am_m 171) = (some FieldType.boolean) := by decide +kernel
theorem rt_172 : am_rt (am_m 172) = (some FieldType.boolean) := by decide +kernel
theorem rt_173 : am_rt (am_m 173) = (some FieldType.boolean) := by decide +kernel
theorem rt_174 : am_rt (am_m 174) = (some FieldType.int) := by decide +kernel
theorem rt_175 : am_rt (am_m 175) = (some FieldType.boolean) := by decide +kernel
theorem rt_176 : am_rt (am_m 176) = (some FieldType.boolean) := by decide +kernel
theorem rt_177 : am_rt (am_m 177) = (some FieldType.boolean) := by decide +kernel
theorem rt_178 : am_rt (am_m 178) = (some FieldType.boolean) := by decide +kernel
theorem rt_179 : am_rt (am_m 179) = (some FieldType.boolean) := by decide +kernel
theorem rt_180 : am_rt (am_m 180) = (some FieldType.boolean) := by decide +kernel
theorem rt_181 : am_rt (am_m 181) = (some FieldType.boolean) := by decide +kernel
theorem rt_182 : am_rt (am_m 182) = (some FieldType.boolean) := by decide +kernel
theorem rt_183 : am_rt (am_m 183) = (some FieldType.boolean) := by decide +kernel
theorem rt_184 : am_rt (am_m 184) = (some FieldType.boolean) := by decide +kernel
theorem rt_185 : am_rt (am_m 185) = (some FieldType.int) := by decide +kernel
theorem rt_186 : am_rt (am_m 186) = (some FieldType.int) := by decide +kernel
theorem rt_187 : am_rt (am_m 187) = (some FieldType.boolean) := by decide +kernel
theorem rt_188 : am_rt (am_m 188) = (some FieldType.int) := by decide +kernel
theorem rt_189 : am_rt (am_m 189) = (some FieldType.int) := by decide +kernel
theorem rt_190 : am_rt (am_m 190) = (some FieldType.int) := by decide +kernel
theorem rt_191 : am_rt (am_m 191) = none := by decide +kernel
theorem rt_192 : am_rt (am_m 192) = (some FieldType.int) := by decide +kernel
theorem rt_193 : am_rt (am_m 193) = (some FieldType.long) := by decide +kernel
theorem rt_194 : am_rt (am_m 194) = (some FieldType.long) := by decide +kernel
theorem rt_195 : am_rt (am_m 195) = (some FieldType.int) := by decide +kernel
theorem rt_196 : am_rt (am_m 196) = (some FieldType.int) := by decide +kernel
theorem rt_197 : am_rt (am_m 197) = (some FieldType.int) := by decide +kernel
theorem rt_198 : am_rt (am_m 198) = (some FieldType.int) := by decide +kernel
theorem rt_199 : am_rt (am_m 199) = (some FieldType.int) := by decide +kernel
theorem rt_200 : am_rt (am_m 200) = (some FieldType.int) := by decide +kernel
theorem rt_201 : am_rt (am_m 201) = (some (FieldType.object "BreedingHouse$Island")) := by decide +kernel
theorem rt_202 : am_rt (am_m 202) = none := by decide +kernel
theorem rt_203 : am_rt (am_m 203) = none := by decide +kernel
theorem rt_204 : am_rt (am_m 204) = none := by decide +kernel
theorem rt_205 : am_rt (am_m 205) = (some FieldType.boolean) := by decide +kernel
theorem rt_206 : am_rt (am_m 206) = (some FieldType.boolean) := by decide +kernel
theorem rt_207 : am_rt (am_m 207) = (some FieldType.boolean) := by decide +kernel
theorem rt_208 : am_rt (am_m 208) = (some FieldType.boolean) := by decide +kernel
theorem rt_209 : am_rt (am_m 209) = (some FieldType.boolean) := by decide +kernel
theorem rt_210 : am_rt (am_m 210) = (some FieldType.int) := by decide +kernel
theorem rt_211 : am_rt (am_m 211) = (some FieldType.int) := by decide +kernel
theorem rt_212 : am_rt (am_m 212) = (some FieldType.int) := by decide +kernel
theorem rt_213 : am_rt (am_m 213) = (some FieldType.int) := by decide +kernel
theorem rt_214 : am_rt (am_m 214) = (some FieldType.int) := by decide +kernel
theorem rt_215 : am_rt (am_m 215) = (some FieldType.int) := by decide +kernel
theorem rt_216 : am_rt (am_m 216) = (some FieldType.int) := by decide +kernel
theorem rt_217 : am_rt (am_m 217) = none := by decide +kernel
theorem rt_218 : am_rt (am_m 218) = none := by decide +kernel
theorem rt_219 : am_rt (am_m 219) = (some FieldType.int) := by decide +kernel
theorem rt_220 : am_rt (am_m 220) = none := by decide +kernel
theorem rt_221 : am_rt (am_m 221) = (some FieldType.boolean) := by decide +kernel
theorem rt_222 : am_rt (am_m 222) = (some FieldType.int) := by decide +kernel
theorem rt_223 : am_rt (am_m 223) = (some FieldType.int) := by decide +kernel
theorem rt_224 : am_rt (am_m 224) = (some FieldType.int) := by decide +kernel
theorem rt_225 : am_rt (am_m 225) = (some FieldType.int) := by decide +kernel
theorem rt_226 : am_rt (am_m 226) = (some FieldType.int) := by decide +kernel
theorem rt_227 : am_rt (am_m 227) = (some FieldType.int) := by decide +kernel
theorem rt_228 : am_rt (am_m 228) = (some FieldType.boolean) := by decide +kernel
theorem rt_229 : am_rt (am_m 229) = (some FieldType.int) := by decide +kernel
theorem rt_230 : am_rt (am_m 230) = (some FieldType.int) := by decide +kernel
theorem rt_231 : am_rt (am_m 231) = (some FieldType.int) := by decide +kernel
theorem rt_232 : am_rt (am_m 232) = (some FieldType.boolean) := by decide +kernel
theorem rt_233 : am_rt (am_m 233) = (some FieldType.int) := by decide +kernel
theorem rt_234 : am_rt (am_m 234) = (some FieldType.int) := by decide +kernel
theorem rt_235 : am_rt (am_m 235) = (some FieldType.int) := by decide +kernel
theorem rt_236 : am_rt (am_m 236) = (some FieldType.int) := by decide +kernel
theorem rt_237 : am_rt (am_m 237) = (some FieldType.int) := by decide +kernel
theorem rt_238 : am_rt (am_m 238) = (some FieldType.int) := by decide +kernel
theorem rt_239 : am_rt (am_m 239) = (some FieldType.int) := by decide +kernel
theorem rt_240 : am_rt (am_m 240) = (some FieldType.int) := by decide +kernel
theorem rt_241 : am_rt (am_m 241) = (some FieldType.int) := by decide +kernel
theorem rt_242 : am_rt (am_m 242) = (some FieldType.int) := by decide +kernel
theorem rt_243 : am_rt (am_m 243) = (some FieldType.int) := by decide +kernel
theorem rt_244 : am_rt (am_m 244) = (some FieldType.int) := by decide +kernel
theorem rt_245 : am_rt (am_m 245) = (some FieldType.long) := by decide +kernel
theorem rt_246 : am_rt (am_m 246) = (some FieldType.long) := by decide +kernel
theorem rt_247 : am_rt (am_m 247) = (some FieldType.int) := by decide +kernel
theorem rt_248 : am_rt (am_m 248) = (some FieldType.long) := by decide +kernel
theorem rt_249 : am_rt (am_m 249) = (some FieldType.long) := by decide +kernel
theorem rt_250 : am_rt (am_m 250) = (some FieldType.int) := by decide +kernel
theorem rt_251 : am_rt (am_m 251) = (some FieldType.int) := by decide +kernel
theorem rt_252 : am_rt (am_m 252) = none := by decide +kernel
theorem rt_253 : am_rt (am_m 253) = none := by decide +kernel
theorem rt_254 : am_rt (am_m 254) = (some FieldType.int) := by decide +kernel
theorem rt_255 : am_rt (am_m 255) = (some FieldType.int) := by decide +kernel
theorem rt_256 : am_rt (am_m 256) = (some FieldType.int) := by decide +kernel
theorem rt_257 : am_rt (am_m 257) = (some FieldType.long) := by decide +kernel
theorem rt_258 : am_rt (am_m 258) = (some FieldType.int) := by decide +kernel
theorem rt_259 : am_rt (am_m 259) = (some FieldType.boolean) := by decide +kernel
theorem rt_260 : am_rt (am_m 260) = (some FieldType.int) := by decide +kernel
theorem rt_261 : am_rt (am_m 261) = (some FieldType.int) := by decide +kernel
theorem rt_262 : am_rt (am_m 262) = (some FieldType.int) := by decide +kernel
theorem rt_263 : am_rt (am_m 263) = (some FieldType.int) := by decide +kernel
theorem rt_264 : am_rt (am_m 264) = (some FieldType.boolean) := by decide +kernel
theorem rt_265 : am_rt (am_m 265) = (some FieldType.long) := by decide +kernel
theorem rt_266 : am_rt (am_m 266) = (some FieldType.int) := by decide +kernel
theorem rt_267 : am_rt (am_m 267) = (some FieldType.int) := by decide +kernel
theorem rt_268 : am_rt (am_m 268) = (some FieldType.int) := by decide +kernel
theorem rt_269 : am_rt (am_m 269) = none := by decide +kernel
theorem rt_270 : am_rt (am_m 270) = (some FieldType.boolean) := by decide +kernel
theorem rt_271 : am_rt (am_m 271) = (some FieldType.int) := by decide +kernel
theorem rt_272 : am_rt (am_m 272) = (some FieldType.int) := by decide +kernel
theorem rt_273 : am_rt (am_m 273) = (some FieldType.boolean) := by decide +kernel
theorem rt_274 : am_rt (am_m 274) = (some FieldType.int) := by decide +kernel
theorem rt_275 : am_rt (am_m 275) = (some FieldType.int) := by decide +kernel
theorem rt_276 : am_rt (am_m 276) = (some FieldType.boolean) := by decide +kernel
theorem rt_277 : am_rt (am_m 277) = (some FieldType.int) := by decide +kernel
theorem rt_278 : am_rt (am_m 278) = (some FieldType.boolean) := by decide +kernel
theorem rt_279 : am_rt (am_m 279) = (some FieldType.boolean) := by decide +kernel
theorem rt_280 : am_rt (am_m 280) = (some FieldType.boolean) := by decide +kernel
theorem rt_281 : am_rt (am_m 281) = (some FieldType.int) := by decide +kernel
theorem rt_282 : am_rt (am_m 282) = none := by decide +kernel
theorem rt_283 : am_rt (am_m 283) = (some FieldType.int) := by decide +kernel
theorem rt_284 : am_rt (am_m 284) = (some FieldType.boolean) := by decide +kernel
theorem rt_285 : am_rt (am_m 285) = (some FieldType.boolean) := by decide +kernel
theorem rt_286 : am_rt (am_m 286) = (some FieldType.int) := by decide +kernel
theorem rt_287 : am_rt (am_m 287) = (some FieldType.int) := by decide +kernel
theorem rt_288 : am_rt (am_m 288) = (some FieldType.boolean) := by decide +kernel
theorem rt_289 : am_rt (am_m 289) = none := by decide +kernel
theorem rt_290 : am_rt (am_m 290) = (some FieldType.boolean) := by decide +kernel
theorem rt_291 : am_rt (am_m 291) = (some FieldType.int) := by decide +kernel
theorem rt_292 : am_rt (am_m 292) = (some FieldType.int) := by decide +kernel
theorem rt_293 : am_rt (am_m 293) = (some FieldType.boolean) := by decide +kernel
theorem rt_294 : am_rt (am_m 294) = (some FieldType.boolean) := by decide +kernel
theorem rt_295 : am_rt (am_m 295) = (some FieldType.boolean) := by decide +kernel
theorem rt_296 : am_rt (am_m 296) = (some FieldType.boolean) := by decide +kernel
theorem rt_297 : am_rt (am_m 297) = (some FieldType.boolean) := by decide +kernel
theorem rt_298 : am_rt (am_m 298) = (some FieldType.boolean) := by decide +kernel
theorem rt_299 : am_rt (am_m 299) = (some FieldType.int) := by decide +kernel
theorem rt_300 : am_rt (am_m 300) = (some FieldType.int) := by decide +kernel
theorem rt_301 : am_rt (am_m 301) = (some FieldType.int) := by decide +kernel
theorem rt_302 : am_rt (am_m 302) = (some FieldType.int) := by decide +kernel
theorem rt_303 : am_rt (am_m 303) = (some FieldType.boolean) := by decide +kernel
theorem rt_304 : am_rt (am_m 304) = (some FieldType.int) := by decide +kernel
theorem rt_305 : am_rt (am_m 305) = (some FieldType.int) := by decide +kernel
theorem rt_306 : am_rt (am_m 306) = (some FieldType.int) := by decide +kernel
theorem rt_307 : am_rt (am_m 307) = (some FieldType.int) := by decide +kernel
theorem rt_308 : am_rt (am_m 308) = (some FieldType.int) := by decide +kernel
theorem rt_309 : am_rt (am_m 309) = (some FieldType.int) := by decide +kernel
theorem rt_310 : am_rt (am_m 310) = none := by decide +kernel
theorem rt_311 : am_rt (am_m 311) = none := by decide +kernel
theorem rt_312 : am_rt (am_m 312) = (some FieldType.int) := by decide +kernel
theorem rt_313 : am_rt (am_m 313) = (some FieldType.int) := by decide +kernel
theorem rt_314 : am_rt (am_m 314) = (some FieldType.int) := by decide +kernel
theorem rt_315 : am_rt (am_m 315) = (some (FieldType.object "BreedingHouse$Program")) := by decide +kernel
theorem rt_316 : am_rt (am_m 316) = none := by decide +kernel
theorem rt_317 : am_rt (am_m 317) = (some FieldType.int) := by decide +kernel
theorem rt_318 : am_rt (am_m 318) = (some FieldType.int) := by decide +kernel
theorem rt_319 : am_rt (am_m 319) = (some FieldType.int) := by decide +kernel
theorem rt_320 : am_rt (am_m 320) = (some FieldType.int) := by decide +kernel
theorem rt_321 : am_rt (am_m 321) = (some FieldType.int) := by decide +kernel
theorem rt_322 : am_rt (am_m 322) = (some FieldType.int) := by decide +kernel
theorem rt_323 : am_rt (am_m 323) = none := by decide +kernel
theorem rt_324 : am_rt (am_m 324) = (some FieldType.int) := by decide +kernel
theorem rt_325 : am_rt (am_m 325) = (some FieldType.int) := by decide +kernel
theorem rt_326 : am_rt (am_m 326) = (some FieldType.int) := by decide +kernel
theorem rt_327 : am_rt (am_m 327) = (some FieldType.boolean) := by decide +kernel
theorem rt_328 : am_rt (am_m 328) = none := by decide +kernel
theorem rt_329 : am_rt (am_m 329) = (some FieldType.boolean) := by decide +kernel
theorem rt_330 : am_rt (am_m 330) = (some FieldType.boolean) := by decide +kernel
theorem rt_331 : am_rt (am_m 331) = (some FieldType.boolean) := by decide +kernel
theorem rt_332 : am_rt (am_m 332) = (some FieldType.int) := by decide +kernel
theorem rt_333 : am_rt (am_m 333) = (some FieldType.int) := by decide +kernel
theorem rt_334 : am_rt (am_m 334) = (some FieldType.boolean) := by decide +kernel
theorem rt_335 : am_rt (am_m 335) = none := by decide +kernel
theorem rt_336 : am_rt (am_m 336) = (some FieldType.boolean) := by decide +kernel
theorem rt_337 : am_rt (am_m 337) = (some FieldType.boolean) := by decide +kernel
theorem rt_338 : am_rt (am_m 338) = (some FieldType.int) := by decide +kernel
theorem rt_339 : am_rt (am_m 339) = (some FieldType.boolean) := by decide +kernel
theorem rt_340 : am_rt (am_m 340) = (some FieldType.boolean) := by decide +kernel
theorem rt_341 : am_rt (am_m 341) = (some FieldType.boolean) := by decide +kernel
theorem rt_342 : am_rt (am_m 342) = (some FieldType.boolean) := by decide +kernel
theorem rt_343 : am_rt (am_m 343) = (some FieldType.int) := by decide +kernel
theorem rt_344 : am_rt (am_m 344) = none := by decide +kernel
theorem rt_345 : am_rt (am_m 345) = (some FieldType.boolean) := by decide +kernel
theorem rt_346 : am_rt (am_m 346) = (some FieldType.int) := by decide +kernel
theorem rt_347 : am_rt (am_m 347) = (some FieldType.int) := by decide +kernel
theorem rt_348 : am_rt (am_m 348) = (some FieldType.int) := by decide +kernel
theorem rt_349 : am_rt (am_m 349) = (some FieldType.int) := by decide +kernel
theorem rt_350 : am_rt (am_m 350) = (some FieldType.boolean) := by decide +kernel
theorem rt_351 : am_rt (am_m 351) = none := by decide +kernel
theorem rt_352 : am_rt (am_m 352) = (some FieldType.boolean) := by decide +kernel
theorem rt_353 : am_rt (am_m 353) = (some FieldType.int) := by decide +kernel
theorem rt_354 : am_rt (am_m 354) = none := by decide +kernel
theorem rt_355 : am_rt (am_m 355) = (some FieldType.boolean) := by decide +kernel
theorem rt_356 : am_rt (am_m 356) = (some FieldType.int) := by decide +kernel
theorem rt_357 : am_rt (am_m 357) = (some FieldType.int) := by decide +kernel
theorem rt_358 : am_rt (am_m 358) = (some FieldType.boolean) := by decide +kernel
theorem rt_359 : am_rt (am_m 359) = none := by decide +kernel
theorem rt_360 : am_rt (am_m 360) = none := by decide +kernel
theorem rt_361 : am_rt (am_m 361) = none := by decide +kernel
theorem rt_362 : am_rt (am_m 362) = none := by decide +kernel
theorem rt_363 : am_rt (am_m 363) = none := by decide +kernel
theorem rt_364 : am_rt (am_m 364) = (some FieldType.int) := by decide +kernel
theorem rt_365 : am_rt (am_m 365) = none := by decide +kernel
theorem rt_366 : am_rt (am_m 366) = (some FieldType.int) := by decide +kernel
theorem rt_367 : am_rt (am_m 367) = (some FieldType.int) := by decide +kernel
theorem rt_368 : am_rt (am_m 368) = (some FieldType.int) := by decide +kernel
theorem rt_369 : am_rt (am_m 369) = (some FieldType.int) := by decide +kernel
theorem rt_370 : am_rt (am_m 370) = (some FieldType.int) := by decide +kernel
theorem rt_371 : am_rt (am_m 371) = (some FieldType.int) := by decide +kernel
theorem rt_372 : am_rt (am_m 372) = (some FieldType.long) := by decide +kernel
theorem rt_373 : am_rt (am_m 373) = (some FieldType.int) := by decide +kernel
theorem rt_374 : am_rt (am_m 374) = (some FieldType.boolean) := by decide +kernel
theorem rt_375 : am_rt (am_m 375) = (some FieldType.boolean) := by decide +kernel
theorem rt_376 : am_rt (am_m 376) = (some FieldType.long) := by decide +kernel
theorem rt_377 : am_rt (am_m 377) = none := by decide +kernel
theorem rt_378 : am_rt (am_m 378) = (some FieldType.long) := by decide +kernel
theorem rt_379 : am_rt (am_m 379) = (some FieldType.boolean) := by decide +kernel
theorem rt_380 : am_rt (am_m 380) = (some FieldType.long) := by decide +kernel
theorem rt_381 : am_rt (am_m 381) = (some FieldType.int) := by decide +kernel
theorem rt_382 : am_rt (am_m 382) = (some FieldType.int) := by decide +kernel
theorem rt_383 : am_rt (am_m 383) = (some FieldType.long) := by decide +kernel
theorem rt_384 : am_rt (am_m 384) = (some FieldType.long) := by decide +kernel
theorem rt_385 : am_rt (am_m 385) = (some FieldType.int) := by decide +kernel
theorem rt_386 : am_rt (am_m 386) = none := by decide +kernel
theorem rt_387 : am_rt (am_m 387) = none := by decide +kernel
theorem rt_388 : am_rt (am_m 388) = none := by decide +kernel
theorem rt_389 : am_rt (am_m 389) = none := by decide +kernel
theorem rt_390 : am_rt (am_m 390) = (some FieldType.long) := by decide +kernel
theorem rt_391 : am_rt (am_m 391) = none := by decide +kernel
theorem rt_392 : am_rt (am_m 392) = none := by decide +kernel
theorem rt_393 : am_rt (am_m 393) = (some FieldType.int) := by decide +kernel
theorem rt_394 : am_rt (am_m 394) = (some FieldType.long) := by decide +kernel
theorem rt_395 : am_rt (am_m 395) = (some FieldType.int) := by decide +kernel
theorem rt_396 : am_rt (am_m 396) = (some FieldType.int) := by decide +kernel
theorem rt_397 : am_rt (am_m 397) = (some FieldType.int) := by decide +kernel
theorem rt_398 : am_rt (am_m 398) = (some FieldType.boolean) := by decide +kernel
theorem rt_399 : am_rt (am_m 399) = (some FieldType.int) := by decide +kernel
theorem rt_400 : am_rt (am_m 400) = (some FieldType.int) := by decide +kernel
theorem rt_401 : am_rt (am_m 401) = (some FieldType.int) := by decide +kernel
theorem rt_402 : am_rt (am_m 402) = none := by decide +kernel
theorem rt_403 : am_rt (am_m 403) = none := by decide +kernel
theorem rt_404 : am_rt (am_m 404) = none := by decide +kernel
theorem rt_405 : am_rt (am_m 405) = none := by decide +kernel
theorem rt_406 : am_rt (am_m 406) = none := by decide +kernel
theorem rt_407 : am_rt (am_m 407) = (some FieldType.boolean) := by decide +kernel
theorem rt_408 : am_rt (am_m 408) = (some FieldType.int) := by decide +kernel
theorem rt_409 : am_rt (am_m 409) = none := by decide +kernel
theorem rt_410 : am_rt (am_m 410) = none := by decide +kernel
theorem rt_411 : am_rt (am_m 411) = (some FieldType.int) := by decide +kernel
theorem rt_412 : am_rt (am_m 412) = (some FieldType.int) := by decide +kernel
theorem rt_413 : am_rt (am_m 413) = (some FieldType.int) := by decide +kernel
theorem rt_414 : am_rt (am_m 414) = none := by decide +kernel
theorem rt_415 : am_rt (am_m 415) = none := by decide +kernel
theorem rt_416 : am_rt (am_m 416) = none := by decide +kernel
theorem rt_417 : am_rt (am_m 417) = none := by decide +kernel
theorem rt_418 : am_rt (am_m 418) = (some FieldType.boolean) := by decide +kernel
theorem rt_419 : am_rt (am_m 419) = (some FieldType.int) := by decide +kernel
theorem rt_420 : am_rt (am_m 420) = (some FieldType.int) := by decide +kernel
theorem rt_421 : am_rt (am_m 421) = none := by decide +kernel
theorem rt_422 : am_rt (am_m 422) = (some FieldType.int) := by decide +kernel
theorem rt_423 : am_rt (am_m 423) = (some FieldType.int) := by decide +kernel
theorem rt_424 : am_rt (am_m 424) = (some FieldType.int) := by decide +kernel
theorem rt_425 : am_rt (am_m 425) = (some FieldType.long) := by decide +kernel
theorem rt_426 : am_rt (am_m 426) = (some FieldType.long) := by decide +kernel
theorem rt_427 : am_rt (am_m 427) = (some FieldType.long) := by decide +kernel
theorem rt_428 : am_rt (am_m 428) = none := by decide +kernel
theorem rt_429 : am_rt (am_m 429) = none := by decide +kernel
theorem rt_430 : am_rt (am_m 430) = (some FieldType.long) := by decide +kernel
theorem rt_431 : am_rt (am_m 431) = (some FieldType.long) := by decide +kernel
theorem rt_432 : am_rt (am_m 432) = (some FieldType.long) := by decide +kernel
theorem rt_433 : am_rt (am_m 433) = (some FieldType.int) := by decide +kernel
theorem rt_434 : am_rt (am_m 434) = (some FieldType.int) := by decide +kernel
theorem rt_435 : am_rt (am_m 435) = (some FieldType.int) := by decide +kernel
theorem rt_436 : am_rt (am_m 436) = (some FieldType.int) := by decide +kernel
theorem rt_437 : am_rt (am_m 437) = (some FieldType.boolean) := by decide +kernel
theorem rt_438 : am_rt (am_m 438) = (some FieldType.int) := by decide +kernel
theorem rt_439 : am_rt (am_m 439) = (some FieldType.int) := by decide +kernel
theorem rt_440 : am_rt (am_m 440) = none := by decide +kernel
theorem rt_441 : am_rt (am_m 441) = (some FieldType.boolean) := by decide +kernel
theorem rt_442 : am_rt (am_m 442) = none := by decide +kernel
theorem rt_443 : am_rt (am_m 443) = none := by decide +kernel
theorem rt_444 : am_rt (am_m 444) = (some FieldType.boolean) := by decide +kernel
theorem rt_445 : am_rt (am_m 445) = (some FieldType.boolean) := by decide +kernel
theorem rt_446 : am_rt (am_m 446) = (some FieldType.boolean) := by decide +kernel
theorem rt_447 : am_rt (am_m 447) = none := by decide +kernel
theorem rt_448 : am_rt (am_m 448) = (some FieldType.boolean) := by decide +kernel
theorem rt_449 : am_rt (am_m 449) = none := by decide +kernel
theorem rt_450 : am_rt (am_m 450) = (some FieldType.boolean) := by decide +kernel
theorem rt_451 : am_rt (am_m 451) = none := by decide +kernel
theorem rt_452 : am_rt (am_m 452) = none := by decide +kernel
theorem rt_453 : am_rt (am_m 453) = none := by decide +kernel
theorem rt_454 : am_rt (am_m 454) = (some FieldType.int) := by decide +kernel
theorem rt_455 : am_rt (am_m 455) = none := by decide +kernel
theorem rt_456 : am_rt (am_m 456) = (some FieldType.boolean) := by decide +kernel
theorem rt_457 : am_rt (am_m 457) = none := by decide +kernel
theorem rt_458 : am_rt (am_m 458) = none := by decide +kernel
theorem rt_459 : am_rt (am_m 459) = none := by decide +kernel
theorem rt_460 : am_rt (am_m 460) = none := by decide +kernel
theorem rt_461 : am_rt (am_m 461) = (some FieldType.boolean) := by decide +kernel
theorem rt_462 : am_rt (am_m 462) = none := by decide +kernel
theorem rt_463 : am_rt (am_m 463) = none := by decide +kernel
theorem rt_464 : am_rt (am_m 464) = none := by decide +kernel
theorem rt_465 : am_rt (am_m 465) = none := by decide +kernel
theorem rt_466 : am_rt (am_m 466) = none := by decide +kernel
theorem rt_467 : am_rt (am_m 467) = none := by decide +kernel
theorem rt_468 : am_rt (am_m 468) = none := by decide +kernel
theorem rt_469 : am_rt (am_m 469) = (some FieldType.int) := by decide +kernel
theorem rt_470 : am_rt (am_m 470) = (some FieldType.int) := by decide +kernel
theorem rt_471 : am_rt (am_m 471) = (some FieldType.boolean) := by decide +kernel
theorem rt_472 : am_rt (am_m 472) = none := by decide +kernel
theorem rt_473 : am_rt (am_m 473) = none := by decide +kernel
theorem rt_474 : am_rt (am_m 474) = (some FieldType.int) := by decide +kernel
theorem rt_475 : am_rt (am_m 475) = (some FieldType.long) := by decide +kernel
theorem rt_476 : am_rt (am_m 476) = (some FieldType.boolean) := by decide +kernel
theorem rt_477 : am_rt (am_m 477) = (some FieldType.long) := by decide +kernel
theorem rt_478 : am_rt (am_m 478) = (some FieldType.int) := by decide +kernel
theorem rt_479 : am_rt (am_m 479) = (some FieldType.boolean) := by decide +kernel
theorem rt_480 : am_rt (am_m 480) = none := by decide +kernel
theorem rt_481 : am_rt (am_m 481) = (some FieldType.int) := by decide +kernel
theorem rt_482 : am_rt (am_m 482) = none := by decide +kernel
theorem rt_483 : am_rt (am_m 483) = none := by decide +kernel
theorem rt_484 : am_rt (am_m 484) = none := by decide +kernel
theorem rt_485 : am_rt (am_m 485) = none := by decide +kernel
theorem rt_486 : am_rt (am_m 486) = (some FieldType.int) := by decide +kernel
theorem rt_487 : am_rt (am_m 487) = none := by decide +kernel
theorem rt_488 : am_rt (am_m 488) = (some FieldType.int) := by decide +kernel
theorem rt_489 : am_rt (am_m 489) = (some FieldType.boolean) := by decide +kernel
theorem rt_490 : am_rt (am_m 490) = (some FieldType.boolean) := by decide +kernel
theorem rt_491 : am_rt (am_m 491) = none := by decide +kernel
theorem rt_492 : am_rt (am_m 492) = none := by decide +kernel
theorem rt_493 : am_rt (am_m 493) = none := by decide +kernel
theorem rt_494 : am_rt (am_m 494) = (some FieldType.boolean) := by decide +kernel
theorem rt_495 : am_rt (am_m 495) = none := by decide +kernel
theorem rt_496 : am_rt (am_m 496) = (some FieldType.int) := by decide +kernel
theorem rt_497 : am_rt (am_m 497) = none := by decide +kernel
theorem rt_498 : am_rt (am_m 498) = none := by decide +kernel
theorem rt_499 : am_rt (am_m 499) = (some FieldType.int) := by decide +kernel
theorem rt_500 : am_rt (am_m 500) = (some FieldType.int) := by decide +kernel
theorem rt_501 : am_rt (am_m 501) = (some FieldType.boolean) := by decide +kernel
theorem rt_502 : am_rt (am_m 502) = (some FieldType.int) := by decide +kernel
theorem rt_503 : am_rt (am_m 503) = (some FieldType.int) := by decide +kernel
theorem rt_504 : am_rt (am_m 504) = none := by decide +kernel
theorem rt_505 : am_rt (am_m 505) = none := by decide +kernel
theorem rt_506 : am_rt (am_m 506) = none := by decide +kernel
theorem rt_507 : am_rt (am_m 507) = none := by decide +kernel
theorem rt_508 : am_rt (am_m 508) = (some FieldType.boolean) := by decide +kernel
theorem rt_509 : am_rt (am_m 509) = (some FieldType.long) := by decide +kernel
theorem rt_510 : am_rt (am_m 510) = (some FieldType.int) := by decide +kernel
theorem rt_511 : am_rt (am_m 511) = (some FieldType.int) := by decide +kernel
theorem rt_512 : am_rt (am_m 512) = (some FieldType.int) := by decide +kernel
theorem rt_513 : am_rt (am_m 513) = (some FieldType.int) := by decide +kernel
theorem rt_514 : am_rt (am_m 514) = (some FieldType.boolean) := by decide +kernel
theorem rt_515 : am_rt (am_m 515) = (some FieldType.int) := by decide +kernel
theorem rt_516 : am_rt (am_m 516) = (some FieldType.int) := by decide +kernel
theorem rt_517 : am_rt (am_m 517) = (some FieldType.int) := by decide +kernel
theorem rt_518 : am_rt (am_m 518) = (some FieldType.boolean) := by decide +kernel
theorem rt_519 : am_rt (am_m 519) = (some FieldType.int) := by decide +kernel
theorem rt_520 : am_rt (am_m 520) = (some FieldType.int) := by decide +kernel
theorem rt_521 : am_rt (am_m 521) = (some FieldType.int) := by decide +kernel
theorem rt_522 : am_rt (am_m 522) = (some FieldType.int) := by decide +kernel
theorem rt_523 : am_rt (am_m 523) = (some FieldType.boolean) := by decide +kernel
theorem rt_524 : am_rt (am_m 524) = (some FieldType.long) := by decide +kernel
theorem rt_525 : am_rt (am_m 525) = (some FieldType.long) := by decide +kernel
theorem rt_526 : am_rt (am_m 526) = (some FieldType.long) := by decide +kernel
theorem rt_527 : am_rt (am_m 527) = (some FieldType.int) := by decide +kernel
theorem rt_528 : am_rt (am_m 528) = none := by decide +kernel
theorem rt_529 : am_rt (am_m 529) = none := by decide +kernel
theorem rt_530 : am_rt (am_m 530) = (some FieldType.int) := by decide +kernel
theorem rt_531 : am_rt (am_m 531) = (some FieldType.long) := by decide +kernel
theorem rt_532 : am_rt (am_m 532) = (some FieldType.boolean) := by decide +kernel
theorem rt_533 : am_rt (am_m 533) = (some FieldType.int) := by decide +kernel
theorem rt_534 : am_rt (am_m 534) = (some FieldType.boolean) := by decide +kernel
theorem rt_535 : am_rt (am_m 535) = (some FieldType.int) := by decide +kernel
theorem rt_536 : am_rt (am_m 536) = none := by decide +kernel
theorem rt_537 : am_rt (am_m 537) = (some FieldType.boolean) := by decide +kernel
theorem rt_538 : am_rt (am_m 538) = (some FieldType.boolean) := by decide +kernel
theorem rt_539 : am_rt (am_m 539) = (some FieldType.boolean) := by decide +kernel
theorem rt_540 : am_rt (am_m 540) = (some FieldType.boolean) := by decide +kernel
theorem rt_541 : am_rt (am_m 541) = (some FieldType.boolean) := by decide +kernel
theorem rt_542 : am_rt (am_m 542) = (some FieldType.boolean) := by decide +kernel
theorem rt_543 : am_rt (am_m 543) = (some FieldType.boolean) := by decide +kernel
theorem rt_544 : am_rt (am_m 544) = (some FieldType.boolean) := by decide +kernel
theorem rt_545 : am_rt (am_m 545) = (some FieldType.boolean) := by decide +kernel
theorem rt_546 : am_rt (am_m 546) = (some FieldType.boolean) := by decide +kernel
theorem rt_547 : am_rt (am_m 547) = (some FieldType.boolean) := by decide +kernel
theorem rt_548 : am_rt (am_m 548) = (some FieldType.boolean) := by decide +kernel
theorem rt_549 : am_rt (am_m 549) = (some FieldType.boolean) := by decide +kernel
theorem rt_550 : am_rt (am_m 550) = (some FieldType.boolean) := by decide +kernel
theorem rt_551 : am_rt (am_m 551) = (some FieldType.boolean) := by decide +kernel
theorem rt_552 : am_rt (am_m 552) = (some FieldType.boolean) := by decide +kernel
theorem rt_553 : am_rt (am_m 553) = (some FieldType.int) := by decide +kernel
theorem rt_554 : am_rt (am_m 554) = (some FieldType.int) := by decide +kernel
theorem rt_555 : am_rt (am_m 555) = (some FieldType.boolean) := by decide +kernel
theorem rt_556 : am_rt (am_m 556) = (some FieldType.int) := by decide +kernel
theorem rt_557 : am_rt (am_m 557) = (some FieldType.boolean) := by decide +kernel
theorem rt_558 : am_rt (am_m 558) = (some FieldType.boolean) := by decide +kernel
theorem rt_559 : am_rt (am_m 559) = none := by decide +kernel
theorem rt_560 : am_rt (am_m 560) = (some FieldType.boolean) := by decide +kernel
theorem rt_561 : am_rt (am_m 561) = none := by decide +kernel
theorem rt_562 : am_rt (am_m 562) = (some FieldType.boolean) := by decide +kernel
theorem rt_563 : am_rt (am_m 563) = (some FieldType.boolean) := by decide +kernel
theorem rt_564 : am_rt (am_m 564) = none := by decide +kernel
theorem rt_565 : am_rt (am_m 565) = (some FieldType.boolean) := by decide +kernel
theorem rt_566 : am_rt (am_m 566) = (some FieldType.int) := by decide +kernel
theorem rt_567 : am_rt (am_m 567) = (some FieldType.int) := by decide +kernel
theorem rt_568 : am_rt (am_m 568) = none := by decide +kernel
theorem rt_569 : am_rt (am_m 569) = none := by decide +kernel
theorem rt_570 : am_rt (am_m 570) = (some FieldType.int) := by decide +kernel
theorem rt_571 : am_rt (am_m 571) = (some FieldType.int) := by decide +kernel
theorem rt_572 : am_rt (am_m 572) = (some FieldType.boolean) := by decide +kernel
theorem rt_573 : am_rt (am_m 573) = (some FieldType.int) := by decide +kernel
theorem rt_574 : am_rt (am_m 574) = (some FieldType.boolean) := by decide +kernel
theorem rt_575 : am_rt (am_m 575) = (some FieldType.int) := by decide +kernel
theorem rt_576 : am_rt (am_m 576) = (some FieldType.int) := by decide +kernel
theorem rt_577 : am_rt (am_m 577) = (some FieldType.int) := by decide +kernel
theorem rt_578 : am_rt (am_m 578) = (some FieldType.boolean) := by decide +kernel
theorem rt_579 : am_rt (am_m 579) = (some FieldType.int) := by decide +kernel
theorem rt_580 : am_rt (am_m 580) = (some FieldType.boolean) := by decide +kernel
theorem rt_581 : am_rt (am_m 581) = (some FieldType.int) := by decide +kernel
theorem rt_582 : am_rt (am_m 582) = (some FieldType.int) := by decide +kernel
theorem rt_583 : am_rt (am_m 583) = none := by decide +kernel
theorem rt_584 : am_rt (am_m 584) = (some FieldType.boolean) := by decide +kernel
theorem rt_585 : am_rt (am_m 585) = (some FieldType.int) := by decide +kernel
theorem rt_586 : am_rt (am_m 586) = (some FieldType.int) := by decide +kernel
theorem rt_587 : am_rt (am_m 587) = (some FieldType.int) := by decide +kernel
theorem rt_588 : am_rt (am_m 588) = (some FieldType.int) := by decide +kernel
theorem hh_0 : am_hh (am_m 0) = [] := by decide +kernel
theorem hh_8 : am_hh (am_m 8) = [] := by decide +kernel
theorem hh_9 : am_hh (am_m 9) = [] := by decide +kernel
theorem hh_16 : am_hh (am_m 16) = [] := by decide +kernel
theorem hh_21 : am_hh (am_m 21) = [] := by decide +kernel
theorem hn_30 : am_hh (am_m 30) ≠ [] := by decide +kernel
theorem hh_31 : am_hh (am_m 31) = [] := by decide +kernel
theorem hh_33 : am_hh (am_m 33) = [] := by decide +kernel
theorem hh_35 : am_hh (am_m 35) = [] := by decide +kernel
theorem hh_40 : am_hh (am_m 40) = [] := by decide +kernel
theorem hh_42 : am_hh (am_m 42) = [] := by decide +kernel
theorem hh_43 : am_hh (am_m 43) = [] := by decide +kernel
theorem hh_44 : am_hh (am_m 44) = [] := by decide +kernel
theorem hh_46 : am_hh (am_m 46) = [] := by decide +kernel
theorem hh_47 : am_hh (am_m 47) = [] := by decide +kernel
theorem hh_48 : am_hh (am_m 48) = [] := by decide +kernel
theorem hh_49 : am_hh (am_m 49) = [] := by decide +kernel
theorem hh_50 : am_hh (am_m 50) = [] := by decide +kernel
theorem hh_52 : am_hh (am_m 52) = [] := by decide +kernel
theorem hh_58 : am_hh (am_m 58) = [] := by decide +kernel
theorem hh_59 : am_hh (am_m 59) = [] := by decide +kernel
theorem hh_60 : am_hh (am_m 60) = [] := by decide +kernel
theorem hn_61 : am_hh (am_m 61) ≠ [] := by decide +kernel
theorem hh_62 : am_hh (am_m 62) = [] := by decide +kernel
theorem hh_64 : am_hh (am_m 64) = [] := by decide +kernel
theorem hh_65 : am_hh (am_m 65) = [] := by decide +kernel
theorem hh_66 : am_hh (am_m 66) = [] := by decide +kernel
theorem hh_69 : am_hh (am_m 69) = [] := by decide +kernel
theorem hn_70 : am_hh (am_m 70) ≠ [] := by decide +kernel
theorem hh_71 : am_hh (am_m 71) = [] := by decide +kernel
theorem hn_73 : am_hh (am_m 73) ≠ [] := by decide +kernel
theorem hh_74 : am_hh (am_m 74) = [] := by decide +kernel
theorem hh_75 : am_hh (am_m 75) = [] := by decide +kernel
theorem hh_76 : am_hh (am_m 76) = [] := by decide +kernel
theorem hh_77 : am_hh (am_m 77) = [] := by decide +kernel
theorem hn_80 : am_hh (am_m 80) ≠ [] := by decide +kernel
theorem hh_81 : am_hh (am_m 81) = [] := by decide +kernel
theorem hn_82 : am_hh (am_m 82) ≠ [] := by decide +kernel
theorem hh_83 : am_hh (am_m 83) = [] := by decide +kernel
theorem hn_84 : am_hh (am_m 84) ≠ [] := by decide +kernel
theorem hh_85 : am_hh (am_m 85) = [] := by decide +kernel
theorem hn_87 : am_hh (am_m 87) ≠ [] := by decide +kernel
theorem hh_88 : am_hh (am_m 88) = [] := by decide +kernel
theorem hn_89 : am_hh (am_m 89) ≠ [] := by decide +kernel
theorem hh_90 : am_hh (am_m 90) = [] := by decide +kernel
theorem hh_91 : am_hh (am_m 91) = [] := by decide +kernel
theorem hh_92 : am_hh (am_m 92) = [] := by decide +kernel
theorem hh_94 : am_hh (am_m 94) = [] := by decide +kernel
theorem hh_95 : am_hh (am_m 95) = [] := by decide +kernel
theorem hn_96 : am_hh (am_m 96) ≠ [] := by decide +kernel
theorem hh_97 : am_hh (am_m 97) = [] := by decide +kernel
theorem hh_98 : am_hh (am_m 98) = [] := by decide +kernel
theorem hh_99 : am_hh (am_m 99) = [] := by decide +kernel
theorem hh_101 : am_hh (am_m 101) = [] := by decide +kernel
theorem hh_102 : am_hh (am_m 102) = [] := by decide +kernel
theorem hn_103 : am_hh (am_m 103) ≠ [] := by decide +kernel
theorem hh_104 : am_hh (am_m 104) = [] := by decide +kernel
theorem hn_106 : am_hh (am_m 106) ≠ [] := by decide +kernel
theorem hh_107 : am_hh (am_m 107) = [] := by decide +kernel
theorem hn_110 : am_hh (am_m 110) ≠ [] := by decide +kernel
theorem hh_111 : am_hh (am_m 111) = [] := by decide +kernel
theorem hn_113 : am_hh (am_m 113) ≠ [] := by decide +kernel
theorem hh_114 : am_hh (am_m 114) = [] := by decide +kernel
theorem hh_115 : am_hh (am_m 115) = [] := by decide +kernel
theorem hh_116 : am_hh (am_m 116) = [] := by decide +kernel
theorem hh_117 : am_hh (am_m 117) = [] := by decide +kernel
theorem hh_121 : am_hh (am_m 121) = [] := by decide +kernel
theorem hh_123 : am_hh (am_m 123) = [] := by decide +kernel
theorem hh_124 : am_hh (am_m 124) = [] := by decide +kernel
theorem hh_126 : am_hh (am_m 126) = [] := by decide +kernel
theorem hn_129 : am_hh (am_m 129) ≠ [] := by decide +kernel
theorem hh_130 : am_hh (am_m 130) = [] := by decide +kernel
theorem hn_131 : am_hh (am_m 131) ≠ [] := by decide +kernel
theorem hh_132 : am_hh (am_m 132) = [] := by decide +kernel
theorem hh_133 : am_hh (am_m 133) = [] := by decide +kernel
theorem hn_137 : am_hh (am_m 137) ≠ [] := by decide +kernel
theorem hh_138 : am_hh (am_m 138) = [] := by decide +kernel
theorem hh_140 : am_hh (am_m 140) = [] := by decide +kernel
theorem hh_141 : am_hh (am_m 141) = [] := by decide +kernel
theorem hh_142 : am_hh (am_m 142) = [] := by decide +kernel
theorem hn_145 : am_hh (am_m 145) ≠ [] := by decide +kernel
theorem hh_146 : am_hh (am_m 146) = [] := by decide +kernel
theorem hn_147 : am_hh (am_m 147) ≠ [] := by decide +kernel
theorem hh_148 : am_hh (am_m 148) = [] := by decide +kernel
theorem hn_149 : am_hh (am_m 149) ≠ [] := by decide +kernel
theorem hh_150 : am_hh (am_m 150) = [] := by decide +kernel
theorem hn_153 : am_hh (am_m 153) ≠ [] := by decide +kernel
theorem hh_154 : am_hh (am_m 154) = [] := by decide +kernel
theorem hn_156 : am_hh (am_m 156) ≠ [] := by decide +kernel
theorem hh_157 : am_hh (am_m 157) = [] := by decide +kernel
theorem hh_159 : am_hh (am_m 159) = [] := by decide +kernel
theorem hh_162 : am_hh (am_m 162) = [] := by decide +kernel
theorem hh_163 : am_hh (am_m 163) = [] := by decide +kernel
theorem hh_164 : am_hh (am_m 164) = [] := by decide +kernel
theorem hh_165 : am_hh (am_m 165) = [] := by decide +kernel
theorem hh_166 : am_hh (am_m 166) = [] := by decide +kernel
theorem hh_167 : am_hh (am_m 167) = [] := by decide +kernel
theorem hh_169 : am_hh (am_m 169) = [] := by decide +kernel
theorem hh_171 : am_hh (am_m 171) = [] := by decide +kernel
theorem hh_172 : am_hh (am_m 172) = [] := by decide +kernel
theorem hh_173 : am_hh (am_m 173) = [] := by decide +kernel
theorem hh_175 : am_hh (am_m 175) = [] := by decide +kernel
theorem hh_176 : am_hh (am_m 176) = [] := by decide +kernel
theorem hh_177 : am_hh (am_m 177) = [] := by decide +kernel
theorem hh_178 : am_hh (am_m 178) = [] := by decide +kernel
theorem hh_179 : am_hh (am_m 179) = [] := by decide +kernel
theorem hh_180 : am_hh (am_m 180) = [] := by decide +kernel
theorem hh_181 : am_hh (am_m 181) = [] := by decide +kernel
theorem hh_182 : am_hh (am_m 182) = [] := by decide +kernel
theorem hh_183 : am_hh (am_m 183) = [] := by decide +kernel
theorem hh_184 : am_hh (am_m 184) = [] := by decide +kernel
theorem hn_185 : am_hh (am_m 185) ≠ [] := by decide +kernel
theorem hh_186 : am_hh (am_m 186) = [] := by decide +kernel
theorem hh_187 : am_hh (am_m 187) = [] := by decide +kernel
theorem hn_188 : am_hh (am_m 188) ≠ [] := by decide +kernel
theorem hh_189 : am_hh (am_m 189) = [] := by decide +kernel
theorem hh_190 : am_hh (am_m 190) = [] := by decide +kernel
theorem hh_191 : am_hh (am_m 191) = [] := by decide +kernel
theorem hh_192 : am_hh (am_m 192) = [] := by decide +kernel
theorem hh_194 : am_hh (am_m 194) = [] := by decide +kernel
theorem hn_195 : am_hh (am_m 195) ≠ [] := by decide +kernel
theorem hh_196 : am_hh (am_m 196) = [] := by decide +kernel
theorem hn_197 : am_hh (am_m 197) ≠ [] := by decide +kernel
theorem hh_198 : am_hh (am_m 198) = [] := by decide +kernel
theorem hn_199 : am_hh (am_m 199) ≠ [] := by decide +kernel
theorem hh_200 : am_hh (am_m 200) = [] := by decide +kernel
theorem hh_202 : am_hh (am_m 202) = [] := by decide +kernel
theorem hh_203 : am_hh (am_m 203) = [] := by decide +kernel
theorem hh_204 : am_hh (am_m 204) = [] := by decide +kernel
theorem hh_205 : am_hh (am_m 205) = [] := by decide +kernel
theorem hh_206 : am_hh (am_m 206) = [] := by decide +kernel
theorem hh_207 : am_hh (am_m 207) = [] := by decide +kernel
theorem hh_208 : am_hh (am_m 208) = [] := by decide +kernel
theorem hh_209 : am_hh (am_m 209) = [] := by decide +kernel
theorem hn_210 : am_hh (am_m 210) ≠ [] := by decide +kernel
theorem hh_211 : am_hh (am_m 211) = [] := by decide +kernel
theorem hn_212 : am_hh (am_m 212) ≠ [] := by decide +kernel
theorem hh_213 : am_hh (am_m 213) = [] := by decide +kernel
theorem hn_215 : am_hh (am_m 215) ≠ [] := by decide +kernel
theorem hh_216 : am_hh (am_m 216) = [] := by decide +kernel
theorem hh_217 : am_hh (am_m 217) = [] := by decide +kernel
theorem hh_218 : am_hh (am_m 218) = [] := by decide +kernel
theorem hh_219 : am_hh (am_m 219) = [] := by decide +kernel
theorem hh_220 : am_hh (am_m 220) = [] := by decide +kernel
theorem hh_222 : am_hh (am_m 222) = [] := by decide +kernel
theorem hh_223 : am_hh (am_m 223) = [] := by decide +kernel
theorem hh_224 : am_hh (am_m 224) = [] := by decide +kernel
theorem hh_227 : am_hh (am_m 227) = [] := by decide +kernel
theorem hh_229 : am_hh (am_m 229) = [] := by decide +kernel
theorem hh_230 : am_hh (am_m 230) = [] := by decide +kernel
theorem hn_231 : am_hh (am_m 231) ≠ [] := by decide +kernel
theorem hh_232 : am_hh (am_m 232) = [] := by decide +kernel
theorem hh_233 : am_hh (am_m 233) = [] := by decide +kernel
theorem hn_234 : am_hh (am_m 234) ≠ [] := by decide +kernel
theorem hh_235 : am_hh (am_m 235) = [] := by decide +kernel
theorem hn_236 : am_hh (am_m 236) ≠ [] := by decide +kernel
theorem hh_237 : am_hh (am_m 237) = [] := by decide +kernel
theorem hn_238 : am_hh (am_m 238) ≠ [] := by decide +kernel
theorem hh_239 : am_hh (am_m 239) = [] := by decide +kernel
theorem hh_240 : am_hh (am_m 240) = [] := by decide +kernel
theorem hh_241 : am_hh (am_m 241) = [] := by decide +kernel
theorem hn_244 : am_hh (am_m 244) ≠ [] := by decide +kernel
theorem hh_245 : am_hh (am_m 245) = [] := by decide +kernel
theorem hh_246 : am_hh (am_m 246) = [] := by decide +kernel
theorem hn_247 : am_hh (am_m 247) ≠ [] := by decide +kernel
theorem hh_248 : am_hh (am_m 248) = [] := by decide +kernel
theorem hn_250 : am_hh (am_m 250) ≠ [] := by decide +kernel
theorem hh_251 : am_hh (am_m 251) = [] := by decide +kernel
theorem hh_252 : am_hh (am_m 252) = [] := by decide +kernel
theorem hn_254 : am_hh (am_m 254) ≠ [] := by decide +kernel
theorem hh_255 : am_hh (am_m 255) = [] := by decide +kernel
theorem hn_256 : am_hh (am_m 256) ≠ [] := by decide +kernel
theorem hh_257 : am_hh (am_m 257) = [] := by decide +kernel
theorem hn_258 : am_hh (am_m 258) ≠ [] := by decide +kernel
theorem hh_259 : am_hh (am_m 259) = [] := by decide +kernel
theorem hn_260 : am_hh (am_m 260) ≠ [] := by decide +kernel
theorem hh_261 : am_hh (am_m 261) = [] := by decide +kernel
theorem hh_262 : am_hh (am_m 262) = [] := by decide +kernel
theorem hh_263 : am_hh (am_m 263) = [] := by decide +kernel
theorem hh_264 : am_hh (am_m 264) = [] := by decide +kernel
theorem hh_265 : am_hh (am_m 265) = [] := by decide +kernel
theorem hh_266 : am_hh (am_m 266) = [] := by decide +kernel
theorem hn_267 : am_hh (am_m 267) ≠ [] := by decide +kernel
theorem hh_268 : am_hh (am_m 268) = [] := by decide +kernel
theorem hh_269 : am_hh (am_m 269) = [] := by decide +kernel
theorem hh_270 : am_hh (am_m 270) = [] := by decide +kernel
theorem hh_271 : am_hh (am_m 271) = [] := by decide +kernel
theorem hh_272 : am_hh (am_m 272) = [] := by decide +kernel
theorem hh_273 : am_hh (am_m 273) = [] := by decide +kernel
theorem hh_275 : am_hh (am_m 275) = [] := by decide +kernel
theorem hh_276 : am_hh (am_m 276) = [] := by decide +kernel
theorem hh_277 : am_hh (am_m 277) = [] := by decide +kernel
theorem hh_278 : am_hh (am_m 278) = [] := by decide +kernel
theorem hh_279 : am_hh (am_m 279) = [] := by decide +kernel
theorem hh_280 : am_hh (am_m 280) = [] := by decide +kernel
theorem hh_281 : am_hh (am_m 281) = [] := by decide +kernel
theorem hh_282 : am_hh (am_m 282) = [] := by decide +kernel
theorem hn_283 : am_hh (am_m 283) ≠ [] := by decide +kernel
theorem hh_284 : am_hh (am_m 284) = [] := by decide +kernel
theorem hh_285 : am_hh (am_m 285) = [] := by decide +kernel
theorem hn_286 : am_hh (am_m 286) ≠ [] := by decide +kernel
theorem hh_287 : am_hh (am_m 287) = [] := by decide +kernel
theorem hh_288 : am_hh (am_m 288) = [] := by decide +kernel
theorem hh_291 : am_hh (am_m 291) = [] := by decide +kernel
theorem hh_293 : am_hh (am_m 293) = [] := by decide +kernel
theorem hh_294 : am_hh (am_m 294) = [] := by decide +kernel
theorem hh_295 : am_hh (am_m 295) = [] := by decide +kernel
theorem hh_296 : am_hh (am_m 296) = [] := by decide +kernel
theorem hh_297 : am_hh (am_m 297) = [] := by decide +kernel
theorem hn_299 : am_hh (am_m 299) ≠ [] := by decide +kernel
theorem hn_301 : am_hh (am_m 301) ≠ [] := by decide +kernel
theorem hh_302 : am_hh (am_m 302) = [] := by decide +kernel
theorem hh_303 : am_hh (am_m 303) = [] := by decide +kernel
theorem hn_304 : am_hh (am_m 304) ≠ [] := by decide +kernel
theorem hh_305 : am_hh (am_m 305) = [] := by decide +kernel
theorem hn_306 : am_hh (am_m 306) ≠ [] := by decide +kernel
theorem hh_307 : am_hh (am_m 307) = [] := by decide +kernel
theorem hn_308 : am_hh (am_m 308) ≠ [] := by decide +kernel
theorem hh_309 : am_hh (am_m 309) = [] := by decide +kernel
theorem hh_310 : am_hh (am_m 310) = [] := by decide +kernel
theorem hh_311 : am_hh (am_m 311) = [] := by decide +kernel
theorem hn_313 : am_hh (am_m 313) ≠ [] := by decide +kernel
theorem hh_314 : am_hh (am_m 314) = [] := by decide +kernel
theorem hh_315 : am_hh (am_m 315) = [] := by decide +kernel
theorem hh_316 : am_hh (am_m 316) = [] := by decide +kernel
theorem hn_317 : am_hh (am_m 317) ≠ [] := by decide +kernel
theorem hh_318 : am_hh (am_m 318) = [] := by decide +kernel
theorem hn_320 : am_hh (am_m 320) ≠ [] := by decide +kernel
theorem hh_321 : am_hh (am_m 321) = [] := by decide +kernel
theorem hh_322 : am_hh (am_m 322) = [] := by decide +kernel
theorem hh_326 : am_hh (am_m 326) = [] := by decide +kernel
theorem hh_328 : am_hh (am_m 328) = [] := by decide +kernel
theorem hh_329 : am_hh (am_m 329) = [] := by decide +kernel
theorem hh_336 : am_hh (am_m 336) = [] := by decide +kernel
theorem hh_339 : am_hh (am_m 339) = [] := by decide +kernel
theorem hh_340 : am_hh (am_m 340) = [] := by decide +kernel
theorem hh_341 : am_hh (am_m 341) = [] := by decide +kernel
theorem hh_342 : am_hh (am_m 342) = [] := by decide +kernel
theorem hh_344 : am_hh (am_m 344) = [] := by decide +kernel
theorem hh_345 : am_hh (am_m 345) = [] := by decide +kernel
theorem hh_347 : am_hh (am_m 347) = [] := by decide +kernel
theorem hh_351 : am_hh (am_m 351) = [] := by decide +kernel
theorem hh_352 : am_hh (am_m 352) = [] := by decide +kernel
theorem hh_354 : am_hh (am_m 354) = [] := by decide +kernel
theorem hh_355 : am_hh (am_m 355) = [] := by decide +kernel
theorem hh_357 : am_hh (am_m 357) = [] := by decide +kernel
theorem hh_360 : am_hh (am_m 360) = [] := by decide +kernel
theorem hh_361 : am_hh (am_m 361) = [] := by decide +kernel
theorem hh_363 : am_hh (am_m 363) = [] := by decide +kernel
theorem hh_365 : am_hh (am_m 365) = [] := by decide +kernel
theorem hh_368 : am_hh (am_m 368) = [] := by decide +kernel
theorem hh_370 : am_hh (am_m 370) = [] := by decide +kernel
theorem hh_371 : am_hh (am_m 371) = [] := by decide +kernel
theorem hh_372 : am_hh (am_m 372) = [] := by decide +kernel
theorem hh_373 : am_hh (am_m 373) = [] := by decide +kernel
theorem hh_374 : am_hh (am_m 374) = [] := by decide +kernel
theorem hh_376 : am_hh (am_m 376) = [] := by decide +kernel
theorem hh_377 : am_hh (am_m 377) = [] := by decide +kernel
theorem hh_378 : am_hh (am_m 378) = [] := by decide +kernel
theorem hh_380 : am_hh (am_m 380) = [] := by decide +kernel
theorem hh_385 : am_hh (am_m 385) = [] := by decide +kernel
theorem hh_386 : am_hh (am_m 386) = [] := by decide +kernel
theorem hh_388 : am_hh (am_m 388) = [] := by decide +kernel
theorem hh_389 : am_hh (am_m 389) = [] := by decide +kernel
theorem hh_390 : am_hh (am_m 390) = [] := by decide +kernel
theorem hh_391 : am_hh (am_m 391) = [] := by decide +kernel
theorem hh_394 : am_hh (am_m 394) = [] := by decide +kernel
theorem hh_397 : am_hh (am_m 397) = [] := by decide +kernel
theorem hh_400 : am_hh (am_m 400) = [] := by decide +kernel
theorem hh_401 : am_hh (am_m 401) = [] := by decide +kernel
theorem hh_403 : am_hh (am_m 403) = [] := by decide +kernel
theorem hh_404 : am_hh (am_m 404) = [] := by decide +kernel
theorem hh_406 : am_hh (am_m 406) = [] := by decide +kernel
theorem hh_410 : am_hh (am_m 410) = [] := by decide +kernel
theorem hh_414 : am_hh (am_m 414) = [] := by decide +kernel
theorem hh_415 : am_hh (am_m 415) = [] := by decide +kernel
theorem hh_416 : am_hh (am_m 416) = [] := by decide +kernel
theorem hh_417 : am_hh (am_m 417) = [] := by decide +kernel
theorem hh_420 : am_hh (am_m 420) = [] := by decide +kernel
theorem hh_424 : am_hh (am_m 424) = [] := by decide +kernel
theorem hh_425 : am_hh (am_m 425) = [] := by decide +kernel
theorem hh_427 : am_hh (am_m 427) = [] := by decide +kernel
theorem hh_428 : am_hh (am_m 428) = [] := by decide +kernel
theorem hh_431 : am_hh (am_m 431) = [] := by decide +kernel
theorem hh_432 : am_hh (am_m 432) = [] := by decide +kernel
theorem hh_433 : am_hh (am_m 433) = [] := by decide +kernel
theorem hh_434 : am_hh (am_m 434) = [] := by decide +kernel
theorem hh_435 : am_hh (am_m 435) = [] := by decide +kernel
theorem hh_438 : am_hh (am_m 438) = [] := by decide +kernel
theorem hh_439 : am_hh (am_m 439) = [] := by decide +kernel
theorem hh_440 : am_hh (am_m 440) = [] := by decide +kernel
theorem hh_441 : am_hh (am_m 441) = [] := by decide +kernel
theorem hh_442 : am_hh (am_m 442) = [] := by decide +kernel
theorem hh_443 : am_hh (am_m 443) = [] := by decide +kernel
theorem hh_444 : am_hh (am_m 444) = [] := by decide +kernel
theorem hh_445 : am_hh (am_m 445) = [] := by decide +kernel
theorem hh_447 : am_hh (am_m 447) = [] := by decide +kernel
theorem hh_449 : am_hh (am_m 449) = [] := by decide +kernel
theorem hh_450 : am_hh (am_m 450) = [] := by decide +kernel
theorem hh_452 : am_hh (am_m 452) = [] := by decide +kernel
theorem hh_453 : am_hh (am_m 453) = [] := by decide +kernel
theorem hh_455 : am_hh (am_m 455) = [] := by decide +kernel
theorem hh_456 : am_hh (am_m 456) = [] := by decide +kernel
theorem hh_457 : am_hh (am_m 457) = [] := by decide +kernel
theorem hh_458 : am_hh (am_m 458) = [] := by decide +kernel
theorem hh_459 : am_hh (am_m 459) = [] := by decide +kernel
theorem hh_460 : am_hh (am_m 460) = [] := by decide +kernel
theorem hh_461 : am_hh (am_m 461) = [] := by decide +kernel
theorem hh_462 : am_hh (am_m 462) = [] := by decide +kernel
theorem hh_463 : am_hh (am_m 463) = [] := by decide +kernel
theorem hh_464 : am_hh (am_m 464) = [] := by decide +kernel
theorem hh_465 : am_hh (am_m 465) = [] := by decide +kernel
theorem hh_466 : am_hh (am_m 466) = [] := by decide +kernel
theorem hh_467 : am_hh (am_m 467) = [] := by decide +kernel
theorem hh_468 : am_hh (am_m 468) = [] := by decide +kernel
theorem hh_469 : am_hh (am_m 469) = [] := by decide +kernel
theorem hh_470 : am_hh (am_m 470) = [] := by decide +kernel
theorem hh_471 : am_hh (am_m 471) = [] := by decide +kernel
theorem hh_472 : am_hh (am_m 472) = [] := by decide +kernel
theorem hh_473 : am_hh (am_m 473) = [] := by decide +kernel
theorem hh_474 : am_hh (am_m 474) = [] := by decide +kernel
theorem hh_476 : am_hh (am_m 476) = [] := by decide +kernel
theorem hh_477 : am_hh (am_m 477) = [] := by decide +kernel
theorem hh_478 : am_hh (am_m 478) = [] := by decide +kernel
theorem hh_481 : am_hh (am_m 481) = [] := by decide +kernel
theorem hh_482 : am_hh (am_m 482) = [] := by decide +kernel
theorem hh_483 : am_hh (am_m 483) = [] := by decide +kernel
theorem hh_484 : am_hh (am_m 484) = [] := by decide +kernel
theorem hh_485 : am_hh (am_m 485) = [] := by decide +kernel
theorem hh_486 : am_hh (am_m 486) = [] := by decide +kernel
theorem hh_487 : am_hh (am_m 487) = [] := by decide +kernel
theorem hh_488 : am_hh (am_m 488) = [] := by decide +kernel
theorem hh_491 : am_hh (am_m 491) = [] := by decide +kernel
theorem hh_492 : am_hh (am_m 492) = [] := by decide +kernel
theorem hh_493 : am_hh (am_m 493) = [] := by decide +kernel
theorem hh_494 : am_hh (am_m 494) = [] := by decide +kernel
theorem hh_495 : am_hh (am_m 495) = [] := by decide +kernel
theorem hh_496 : am_hh (am_m 496) = [] := by decide +kernel
theorem hh_497 : am_hh (am_m 497) = [] := by decide +kernel
theorem hh_499 : am_hh (am_m 499) = [] := by decide +kernel
theorem hh_500 : am_hh (am_m 500) = [] := by decide +kernel
theorem hh_501 : am_hh (am_m 501) = [] := by decide +kernel
theorem hh_502 : am_hh (am_m 502) = [] := by decide +kernel
theorem hh_504 : am_hh (am_m 504) = [] := by decide +kernel
theorem hh_505 : am_hh (am_m 505) = [] := by decide +kernel
theorem hh_506 : am_hh (am_m 506) = [] := by decide +kernel
theorem hh_507 : am_hh (am_m 507) = [] := by decide +kernel
theorem hh_508 : am_hh (am_m 508) = [] := by decide +kernel
theorem hh_510 : am_hh (am_m 510) = [] := by decide +kernel
theorem hh_511 : am_hh (am_m 511) = [] := by decide +kernel
theorem hh_512 : am_hh (am_m 512) = [] := by decide +kernel
theorem hh_513 : am_hh (am_m 513) = [] := by decide +kernel
theorem hh_514 : am_hh (am_m 514) = [] := by decide +kernel
theorem hh_515 : am_hh (am_m 515) = [] := by decide +kernel
theorem hh_517 : am_hh (am_m 517) = [] := by decide +kernel
theorem hh_518 : am_hh (am_m 518) = [] := by decide +kernel
theorem hh_519 : am_hh (am_m 519) = [] := by decide +kernel
theorem hh_520 : am_hh (am_m 520) = [] := by decide +kernel
theorem hh_521 : am_hh (am_m 521) = [] := by decide +kernel
theorem hh_524 : am_hh (am_m 524) = [] := by decide +kernel
theorem hh_525 : am_hh (am_m 525) = [] := by decide +kernel
theorem hh_526 : am_hh (am_m 526) = [] := by decide +kernel
theorem hh_527 : am_hh (am_m 527) = [] := by decide +kernel
theorem hh_528 : am_hh (am_m 528) = [] := by decide +kernel
theorem hh_530 : am_hh (am_m 530) = [] := by decide +kernel
theorem hh_531 : am_hh (am_m 531) = [] := by decide +kernel
theorem hh_532 : am_hh (am_m 532) = [] := by decide +kernel
theorem hh_533 : am_hh (am_m 533) = [] := by decide +kernel
theorem hh_534 : am_hh (am_m 534) = [] := by decide +kernel
theorem hh_535 : am_hh (am_m 535) = [] := by decide +kernel
theorem hh_536 : am_hh (am_m 536) = [] := by decide +kernel
theorem hh_537 : am_hh (am_m 537) = [] := by decide +kernel
theorem hh_538 : am_hh (am_m 538) = [] := by decide +kernel
theorem hh_539 : am_hh (am_m 539) = [] := by decide +kernel
theorem hh_540 : am_hh (am_m 540) = [] := by decide +kernel
theorem hh_541 : am_hh (am_m 541) = [] := by decide +kernel
theorem hh_543 : am_hh (am_m 543) = [] := by decide +kernel
theorem hh_544 : am_hh (am_m 544) = [] := by decide +kernel
theorem hh_545 : am_hh (am_m 545) = [] := by decide +kernel
theorem hh_546 : am_hh (am_m 546) = [] := by decide +kernel
theorem hh_549 : am_hh (am_m 549) = [] := by decide +kernel
theorem hh_550 : am_hh (am_m 550) = [] := by decide +kernel
theorem hh_551 : am_hh (am_m 551) = [] := by decide +kernel
theorem hh_552 : am_hh (am_m 552) = [] := by decide +kernel
theorem hh_555 : am_hh (am_m 555) = [] := by decide +kernel
theorem hh_556 : am_hh (am_m 556) = [] := by decide +kernel
theorem hh_557 : am_hh (am_m 557) = [] := by decide +kernel
theorem hh_558 : am_hh (am_m 558) = [] := by decide +kernel
theorem hh_560 : am_hh (am_m 560) = [] := by decide +kernel
theorem hh_561 : am_hh (am_m 561) = [] := by decide +kernel
theorem hh_563 : am_hh (am_m 563) = [] := by decide +kernel
theorem hh_564 : am_hh (am_m 564) = [] := by decide +kernel
theorem hh_566 : am_hh (am_m 566) = [] := by decide +kernel
theorem hh_567 : am_hh (am_m 567) = [] := by decide +kernel
theorem hh_568 : am_hh (am_m 568) = [] := by decide +kernel
theorem hh_570 : am_hh (am_m 570) = [] := by decide +kernel
theorem hh_571 : am_hh (am_m 571) = [] := by decide +kernel
theorem hh_572 : am_hh (am_m 572) = [] := by decide +kernel
theorem hh_573 : am_hh (am_m 573) = [] := by decide +kernel
theorem hh_574 : am_hh (am_m 574) = [] := by decide +kernel
theorem hh_575 : am_hh (am_m 575) = [] := by decide +kernel
theorem hh_577 : am_hh (am_m 577) = [] := by decide +kernel
theorem hh_578 : am_hh (am_m 578) = [] := by decide +kernel
theorem hh_580 : am_hh (am_m 580) = [] := by decide +kernel
theorem hh_581 : am_hh (am_m 581) = [] := by decide +kernel
theorem hh_582 : am_hh (am_m 582) = [] := by decide +kernel
theorem hh_583 : am_hh (am_m 583) = [] := by decide +kernel
theorem hh_585 : am_hh (am_m 585) = [] := by decide +kernel
theorem hh_586 : am_hh (am_m 586) = [] := by decide +kernel
theorem hh_587 : am_hh (am_m 587) = [] := by decide +kernel
theorem hh_588 : am_hh (am_m 588) = [] := by decide +kernel
theorem th_31_9 : am_thr (am_m 31) 9 100 = true := by decide +kernel
theorem th_32_12 : am_thr (am_m 32) 12 101 = true := by decide +kernel
theorem th_63_21 : am_thr (am_m 63) 21 102 = true := by decide +kernel
theorem th_74_116 : am_thr (am_m 74) 116 100 = true := by decide +kernel
theorem th_83_20 : am_thr (am_m 83) 20 102 = true := by decide +kernel
theorem th_83_39 : am_thr (am_m 83) 39 100 = true := by decide +kernel
theorem th_88_11 : am_thr (am_m 88) 11 100 = true := by decide +kernel
theorem th_90_31 : am_thr (am_m 90) 31 100 = true := by decide +kernel
theorem th_97_22 : am_thr (am_m 97) 22 100 = true := by decide +kernel
theorem th_104_13 : am_thr (am_m 104) 13 100 = true := by decide +kernel
theorem th_104_35 : am_thr (am_m 104) 35 101 = true := by decide +kernel
theorem th_108_15 : am_thr (am_m 108) 15 102 = true := by decide +kernel
theorem th_111_15 : am_thr (am_m 111) 15 100 = true := by decide +kernel
theorem th_139_9 : am_thr (am_m 139) 9 100 = true := by decide +kernel
theorem th_154_31 : am_thr (am_m 154) 31 100 = true := by decide +kernel
theorem th_158_9 : am_thr (am_m 158) 9 100 = true := by decide +kernel
theorem th_186_35 : am_thr (am_m 186) 35 102 = true := by decide +kernel
theorem th_189_29 : am_thr (am_m 189) 29 100 = true := by decide +kernel
theorem th_198_23 : am_thr (am_m 198) 23 100 = true := by decide +kernel
theorem th_200_77 : am_thr (am_m 200) 77 100 = true := by decide +kernel
theorem th_201_13 : am_thr (am_m 201) 13 102 = true := by decide +kernel
theorem th_214_12 : am_thr (am_m 214) 12 102 = true := by decide +kernel
theorem th_216_17 : am_thr (am_m 216) 17 100 = true := by decide +kernel
theorem th_216_35 : am_thr (am_m 216) 35 101 = true := by decide +kernel
theorem th_235_13 : am_thr (am_m 235) 13 101 = true := by decide +kernel
theorem th_239_43 : am_thr (am_m 239) 43 101 = true := by decide +kernel
theorem th_257_18 : am_thr (am_m 257) 18 100 = true := by decide +kernel
theorem th_259_22 : am_thr (am_m 259) 22 100 = true := by decide +kernel
theorem th_261_10 : am_thr (am_m 261) 10 100 = true := by decide +kernel
theorem th_268_13 : am_thr (am_m 268) 13 100 = true := by decide +kernel
theorem th_300_13 : am_thr (am_m 300) 13 100 = true := by decide +kernel
theorem th_305_25 : am_thr (am_m 305) 25 100 = true := by decide +kernel
theorem th_307_30 : am_thr (am_m 307) 30 100 = true := by decide +kernel
theorem th_309_14 : am_thr (am_m 309) 14 100 = true := by decide +kernel
theorem th_315_14 : am_thr (am_m 315) 14 100 = true := by decide +kernel
theorem hd_30_4_0 : am_hd (am_m 30) 4 0 (am_hh (am_m 30)) = some (13, 3) := by decide +kernel
theorem hd_30_4_1 : am_hd (am_m 30) 4 1 (am_hh (am_m 30)) = some (16, 3) := by decide +kernel
theorem hd_61_4_2 : am_hd (am_m 61) 4 2 (am_hh (am_m 61)) = some (13, 3) := by decide +kernel
theorem hd_70_5_2 : am_hd (am_m 70) 5 2 (am_hh (am_m 70)) = some (15, 4) := by decide +kernel
theorem hd_73_5_0 : am_hd (am_m 73) 5 0 (am_hh (am_m 73)) = some (19, 4) := by decide +kernel
theorem hd_73_5_2 : am_hd (am_m 73) 5 2 (am_hh (am_m 73)) = some (15, 4) := by decide +kernel
theorem hd_80_4_2 : am_hd (am_m 80) 4 2 (am_hh (am_m 80)) = some (12, 3) := by decide +kernel
theorem hd_82_7_0 : am_hd (am_m 82) 7 0 (am_hh (am_m 82)) = some (21, 5) := by decide +kernel
theorem hd_82_7_2 : am_hd (am_m 82) 7 2 (am_hh (am_m 82)) = some (17, 5) := by decide +kernel
theorem hd_84_5_2 : am_hd (am_m 84) 5 2 (am_hh (am_m 84)) = some (22, 4) := by decide +kernel
theorem hd_87_4_0 : am_hd (am_m 87) 4 0 (am_hh (am_m 87)) = some (12, 3) := by decide +kernel
theorem hd_89_6_0 : am_hd (am_m 89) 6 0 (am_hh (am_m 89)) = some (16, 5) := by decide +kernel
theorem hd_89_6_1 : am_hd (am_m 89) 6 1 (am_hh (am_m 89)) = some (20, 5) := by decide +kernel
theorem hd_96_4_0 : am_hd (am_m 96) 4 0 (am_hh (am_m 96)) = some (15, 3) := by decide +kernel
theorem hd_96_4_2 : am_hd (am_m 96) 4 2 (am_hh (am_m 96)) = some (12, 3) := by decide +kernel
theorem hd_103_13_0 : am_hd (am_m 103) 13 0 (am_hh (am_m 103)) = some (23, 8) := by decide +kernel
theorem hd_103_13_1 : am_hd (am_m 103) 13 1 (am_hh (am_m 103)) = some (27, 8) := by decide +kernel
theorem hd_106_4_2 : am_hd (am_m 106) 4 2 (am_hh (am_m 106)) = some (13, 3) := by decide +kernel
theorem hd_110_5_0 : am_hd (am_m 110) 5 0 (am_hh (am_m 110)) = some (19, 4) := by decide +kernel
theorem hd_110_5_2 : am_hd (am_m 110) 5 2 (am_hh (am_m 110)) = some (15, 4) := by decide +kernel
theorem hd_113_5_2 : am_hd (am_m 113) 5 2 (am_hh (am_m 113)) = some (15, 4) := by decide +kernel
theorem hd_129_9_2 : am_hd (am_m 129) 9 2 (am_hh (am_m 129)) = some (19, 6) := by decide +kernel
theorem hd_131_5_2 : am_hd (am_m 131) 5 2 (am_hh (am_m 131)) = some (15, 4) := by decide +kernel
theorem hd_137_7_0 : am_hd (am_m 137) 7 0 (am_hh (am_m 137)) = some (20, 5) := by decide +kernel
theorem hd_137_7_2 : am_hd (am_m 137) 7 2 (am_hh (am_m 137)) = some (16, 5) := by decide +kernel
theorem hd_145_5_0 : am_hd (am_m 145) 5 0 (am_hh (am_m 145)) = some (18, 4) := by decide +kernel
theorem hd_145_5_2 : am_hd (am_m 145) 5 2 (am_hh (am_m 145)) = some (14, 4) := by decide +kernel
theorem hd_147_5_2 : am_hd (am_m 147) 5 2 (am_hh (am_m 147)) = some (15, 4) := by decide +kernel
theorem hd_149_5_2 : am_hd (am_m 149) 5 2 (am_hh (am_m 149)) = some (15, 4) := by decide +kernel
theorem hd_153_5_0 : am_hd (am_m 153) 5 0 (am_hh (am_m 153)) = some (15, 4) := by decide +kernel
theorem hd_156_5_0 : am_hd (am_m 156) 5 0 (am_hh (am_m 156)) = some (19, 4) := by decide +kernel
theorem hd_156_5_2 : am_hd (am_m 156) 5 2 (am_hh (am_m 156)) = some (15, 4) := by decide +kernel
theorem hd_185_7_0 : am_hd (am_m 185) 7 0 (am_hh (am_m 185)) = some (21, 5) := by decide +kernel
theorem hd_185_7_1 : am_hd (am_m 185) 7 1 (am_hh (am_m 185)) = some (25, 5) := by decide +kernel
theorem hd_185_7_2 : am_hd (am_m 185) 7 2 (am_hh (am_m 185)) = some (17, 5) := by decide +kernel
theorem hd_188_7_0 : am_hd (am_m 188) 7 0 (am_hh (am_m 188)) = some (21, 6) := by decide +kernel
theorem hd_188_7_1 : am_hd (am_m 188) 7 1 (am_hh (am_m 188)) = some (25, 6) := by decide +kernel
theorem hd_188_7_2 : am_hd (am_m 188) 7 2 (am_hh (am_m 188)) = some (17, 6) := by decide +kernel
theorem hd_195_5_2 : am_hd (am_m 195) 5 2 (am_hh (am_m 195)) = some (15, 4) := by decide +kernel
theorem hd_197_7_0 : am_hd (am_m 197) 7 0 (am_hh (am_m 197)) = some (21, 6) := by decide +kernel
theorem hd_197_7_1 : am_hd (am_m 197) 7 1 (am_hh (am_m 197)) = some (25, 6) := by decide +kernel
theorem hd_197_7_2 : am_hd (am_m 197) 7 2 (am_hh (am_m 197)) = some (17, 6) := by decide +kernel
theorem hd_199_11_0 : am_hd (am_m 199) 11 0 (am_hh (am_m 199)) = some (25, 8) := by decide +kernel
theorem hd_199_11_1 : am_hd (am_m 199) 11 1 (am_hh (am_m 199)) = some (29, 8) := by decide +kernel
theorem hd_199_11_2 : am_hd (am_m 199) 11 2 (am_hh (am_m 199)) = some (21, 8) := by decide +kernel
theorem hd_210_4_2 : am_hd (am_m 210) 4 2 (am_hh (am_m 210)) = some (13, 3) := by decide +kernel
theorem hd_212_5_2 : am_hd (am_m 212) 5 2 (am_hh (am_m 212)) = some (15, 4) := by decide +kernel
theorem hd_215_5_0 : am_hd (am_m 215) 5 0 (am_hh (am_m 215)) = some (19, 4) := by decide +kernel
theorem hd_215_5_1 : am_hd (am_m 215) 5 1 (am_hh (am_m 215)) = some (23, 4) := by decide +kernel
theorem hd_215_5_2 : am_hd (am_m 215) 5 2 (am_hh (am_m 215)) = some (15, 4) := by decide +kernel
theorem hd_231_5_2 : am_hd (am_m 231) 5 2 (am_hh (am_m 231)) = some (22, 4) := by decide +kernel
theorem hd_234_4_1 : am_hd (am_m 234) 4 1 (am_hh (am_m 234)) = some (16, 3) := by decide +kernel
theorem hd_234_4_2 : am_hd (am_m 234) 4 2 (am_hh (am_m 234)) = some (13, 3) := by decide +kernel
theorem hd_236_5_2 : am_hd (am_m 236) 5 2 (am_hh (am_m 236)) = some (15, 4) := by decide +kernel
theorem hd_238_7_0 : am_hd (am_m 238) 7 0 (am_hh (am_m 238)) = some (21, 5) := by decide +kernel
theorem hd_238_7_1 : am_hd (am_m 238) 7 1 (am_hh (am_m 238)) = some (25, 5) := by decide +kernel
theorem hd_238_7_2 : am_hd (am_m 238) 7 2 (am_hh (am_m 238)) = some (17, 5) := by decide +kernel
theorem hd_244_5_2 : am_hd (am_m 244) 5 2 (am_hh (am_m 244)) = some (14, 4) := by decide +kernel
theorem hd_247_5_2 : am_hd (am_m 247) 5 2 (am_hh (am_m 247)) = some (14, 4) := by decide +kernel
theorem hd_250_4_2 : am_hd (am_m 250) 4 2 (am_hh (am_m 250)) = some (13, 3) := by decide +kernel
theorem hd_254_5_2 : am_hd (am_m 254) 5 2 (am_hh (am_m 254)) = some (15, 4) := by decide +kernel
theorem hd_256_5_0 : am_hd (am_m 256) 5 0 (am_hh (am_m 256)) = some (18, 4) := by decide +kernel
theorem hd_256_5_2 : am_hd (am_m 256) 5 2 (am_hh (am_m 256)) = some (14, 4) := by decide +kernel
theorem hd_258_4_0 : am_hd (am_m 258) 4 0 (am_hh (am_m 258)) = some (23, 3) := by decide +kernel
theorem hd_258_4_2 : am_hd (am_m 258) 4 2 (am_hh (am_m 258)) = some (20, 3) := by decide +kernel
theorem hd_260_4_0 : am_hd (am_m 260) 4 0 (am_hh (am_m 260)) = some (13, 3) := by decide +kernel
theorem hd_260_4_1 : am_hd (am_m 260) 4 1 (am_hh (am_m 260)) = some (16, 3) := by decide +kernel
theorem hd_267_4_0 : am_hd (am_m 267) 4 0 (am_hh (am_m 267)) = some (16, 3) := by decide +kernel
theorem hd_267_4_1 : am_hd (am_m 267) 4 1 (am_hh (am_m 267)) = some (19, 3) := by decide +kernel
theorem hd_267_4_2 : am_hd (am_m 267) 4 2 (am_hh (am_m 267)) = some (13, 3) := by decide +kernel
theorem hd_283_5_2 : am_hd (am_m 283) 5 2 (am_hh (am_m 283)) = some (22, 4) := by decide +kernel
theorem hd_286_5_2 : am_hd (am_m 286) 5 2 (am_hh (am_m 286)) = some (15, 4) := by decide +kernel
theorem hd_299_4_0 : am_hd (am_m 299) 4 0 (am_hh (am_m 299)) = some (13, 3) := by decide +kernel
theorem hd_301_4_1 : am_hd (am_m 301) 4 1 (am_hh (am_m 301)) = some (16, 3) := by decide +kernel
theorem hd_301_4_2 : am_hd (am_m 301) 4 2 (am_hh (am_m 301)) = some (13, 3) := by decide +kernel
theorem hd_304_7_0 : am_hd (am_m 304) 7 0 (am_hh (am_m 304)) = some (21, 5) := by decide +kernel
theorem hd_304_7_2 : am_hd (am_m 304) 7 2 (am_hh (am_m 304)) = some (17, 5) := by decide +kernel
theorem hd_306_5_0 : am_hd (am_m 306) 5 0 (am_hh (am_m 306)) = some (19, 4) := by decide +kernel
theorem hd_306_5_1 : am_hd (am_m 306) 5 1 (am_hh (am_m 306)) = some (23, 4) := by decide +kernel
theorem hd_306_5_2 : am_hd (am_m 306) 5 2 (am_hh (am_m 306)) = some (15, 4) := by decide +kernel
theorem hd_308_4_0 : am_hd (am_m 308) 4 0 (am_hh (am_m 308)) = some (16, 3) := by decide +kernel
theorem hd_308_4_1 : am_hd (am_m 308) 4 1 (am_hh (am_m 308)) = some (19, 3) := by decide +kernel
theorem hd_308_4_2 : am_hd (am_m 308) 4 2 (am_hh (am_m 308)) = some (13, 3) := by decide +kernel
theorem hd_313_4_0 : am_hd (am_m 313) 4 0 (am_hh (am_m 313)) = some (16, 3) := by decide +kernel
theorem hd_313_4_1 : am_hd (am_m 313) 4 1 (am_hh (am_m 313)) = some (19, 3) := by decide +kernel
theorem hd_313_4_2 : am_hd (am_m 313) 4 2 (am_hh (am_m 313)) = some (13, 3) := by decide +kernel
theorem hd_317_4_0 : am_hd (am_m 317) 4 0 (am_hh (am_m 317)) = some (16, 3) := by decide +kernel
theorem hd_317_4_2 : am_hd (am_m 317) 4 2 (am_hh (am_m 317)) = some (13, 3) := by decide +kernel
theorem hd_320_4_0 : am_hd (am_m 320) 4 0 (am_hh (am_m 320)) = some (16, 3) := by decide +kernel
theorem hd_320_4_2 : am_hd (am_m 320) 4 2 (am_hh (am_m 320)) = some (13, 3) := by decide +kernel
