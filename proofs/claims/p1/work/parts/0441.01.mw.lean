set_option maxRecDepth 100000 in
theorem mwk_1 : am_mwb am_m1 (34, 1, 33, 0) = true := by decide +kernel
set_option maxRecDepth 100000 in
theorem mwk_2 : am_mwb am_m2 (44, 2, 43, 0) = true := by decide +kernel
set_option maxRecDepth 100000 in
theorem mwk_3 : am_mwb am_m3 (50, 3, 49, 0) = true := by decide +kernel
set_option maxRecDepth 100000 in
theorem mwk_4 : am_mwb am_m4 (119, 4, 118, 0) = true := by decide +kernel
set_option maxRecDepth 100000 in
theorem mwk_5 : am_mwb am_m5 (125, 5, 124, 0) = true := by decide +kernel
set_option maxRecDepth 100000 in
theorem mwk_6 : am_mwb am_m6 (211, 6, 210, 0) = true := by decide +kernel
set_option maxRecDepth 100000 in
theorem mwk_7 : am_mwb am_m7 (217, 7, 216, 0) = true := by decide +kernel
set_option maxRecDepth 100000 in
theorem mwk_8 : am_mwb am_m8 (265, 8, 264, 0) = true := by decide +kernel
set_option maxRecDepth 100000 in
theorem mwk_9 : am_mwb am_m9 (274, 8, 273, 10000) = true := by decide +kernel
set_option maxRecDepth 100000 in
theorem mwk_10 : am_mwb am_m10 (277, 8, 276, 0) = true := by decide +kernel
set_option maxRecDepth 100000 in
theorem mwk_11 : am_mwb am_m11 (280, 1, 279, 0) = true := by decide +kernel
set_option maxRecDepth 100000 in
theorem mwk_12 : am_mwb am_m12 (283, 8, 282, 0) = true := by decide +kernel
set_option maxRecDepth 100000 in
theorem mwk_13 : am_mwb am_m13 (286, 1, 285, 0) = true := by decide +kernel
set_option maxRecDepth 100000 in
theorem mwk_14 : am_mwb am_m14 (289, 1, 288, 0) = true := by decide +kernel
set_option maxRecDepth 100000 in
theorem mwk_15 : am_mwb am_m15 (294, 8, 292, 293) = true := by decide +kernel
set_option maxRecDepth 100000 in
theorem mwk_16 : am_mwb am_m16 (298, 8, 297, 10001) = true := by decide +kernel
set_option maxRecDepth 100000 in
theorem mwk_17 : am_mwb am_m17 (332, 9, 331, 0) = true := by decide +kernel
set_option maxRecDepth 100000 in
theorem mwk_18 : am_mwb am_m18 (338, 10, 337, 0) = true := by decide +kernel
set_option maxRecDepth 100000 in
theorem mwk_19 : am_mwb am_m19 (447, 11, 446, 0) = true := by decide +kernel
set_option maxRecDepth 100000 in
theorem mwk_20 : am_mwb am_m20 (482, 12, 481, 0) = true := by decide +kernel
set_option maxRecDepth 100000 in
theorem mwk_21 : am_mwb am_m21 (589, 1, 587, 588) = true := by decide +kernel
set_option maxRecDepth 100000 in
theorem mwk_22 : am_mwb am_m22 (593, 2, 591, 592) = true := by decide +kernel
set_option maxRecDepth 100000 in
theorem mwk_23 : am_mwb am_m23 (598, 1, 596, 597) = true := by decide +kernel
set_option maxRecDepth 100000 in
theorem mwk_24 : am_mwb am_m24 (602, 1, 600, 601) = true := by decide +kernel
set_option maxRecDepth 100000 in
theorem mwk_25 : am_mwb am_m25 (606, 1, 604, 605) = true := by decide +kernel
set_option maxRecDepth 100000 in
theorem mwk_26 : am_mwb am_m26 (610, 1, 608, 609) = true := by decide +kernel
set_option maxRecDepth 100000 in
theorem mwk_27 : am_mwb am_m27 (614, 1, 612, 613) = true := by decide +kernel
set_option maxRecDepth 100000 in
theorem mwk_28 : am_mwb am_m28 (618, 1, 616, 617) = true := by decide +kernel
set_option maxRecDepth 100000 in
theorem mwk_29 : am_mwb am_m29 (622, 1, 620, 621) = true := by decide +kernel
set_option maxRecDepth 100000 in
theorem mwk_30 : am_mwb am_m30 (625, 0, 624, 0) = true := by decide +kernel
set_option maxRecDepth 100000 in
theorem mwk_31 : am_mwb am_m31 (631, 1, 629, 630) = true := by decide +kernel
set_option maxRecDepth 100000 in
theorem mwk_32 : am_mwb am_m32 (703, 1, 702, 10003) = true := by decide +kernel
set_option maxRecDepth 100000 in
theorem mwk_33 : am_mwb am_m33 (723, 2, 721, 722) = true := by decide +kernel
set_option maxRecDepth 100000 in
theorem mwk_34 : am_mwb am_m34 (727, 10, 725, 726) = true := by decide +kernel
set_option maxRecDepth 100000 in
theorem mwk_35 : am_mwb am_m35 (731, 2, 730, 10004) = true := by decide +kernel
set_option maxRecDepth 100000 in
theorem mwk_36 : am_mwb am_m36 (735, 2, 734, 10005) = true := by decide +kernel
set_option maxRecDepth 100000 in
theorem mwk_37 : am_mwb am_m37 (767, 21, 766, 0) = true := by decide +kernel
set_option maxRecDepth 100000 in
theorem mwk_38 : am_mwb am_m38 (770, 21, 769, 0) = true := by decide +kernel
set_option maxRecDepth 100000 in
theorem mwk_39 : am_mwb am_m39 (826, 2, 825, 10006) = true := by decide +kernel
set_option maxRecDepth 100000 in
theorem mwk_40 : am_mwb am_m40 (830, 2, 829, 10007) = true := by decide +kernel
set_option maxRecDepth 100000 in
theorem mwk_41 : am_mwb am_m41 (836, 10, 834, 835) = true := by decide +kernel
set_option maxRecDepth 100000 in
theorem mwk_42 : am_mwb am_m42 (841, 2, 840, 10008) = true := by decide +kernel
set_option maxRecDepth 100000 in
theorem mwk_43 : am_mwb am_m43 (846, 2, 845, 10009) = true := by decide +kernel
set_option maxRecDepth 100000 in
theorem mwk_44 : am_mwb am_m44 (850, 2, 849, 10010) = true := by decide +kernel
set_option maxRecDepth 100000 in
theorem mwk_45 : am_mwb am_m45 (853, 2, 852, 0) = true := by decide +kernel
set_option maxRecDepth 100000 in
theorem mwk_46 : am_mwb am_m46 (857, 2, 856, 10011) = true := by decide +kernel
set_option maxRecDepth 100000 in
theorem mwk_47 : am_mwb am_m47 (861, 2, 860, 10012) = true := by decide +kernel
set_option maxRecDepth 100000 in
theorem mwk_48 : am_mwb am_m48 (865, 2, 864, 10013) = true := by decide +kernel
set_option maxRecDepth 100000 in
theorem mwk_49 : am_mwb am_m49 (869, 2, 868, 10014) = true := by decide +kernel
set_option maxRecDepth 100000 in
theorem mwk_50 : am_mwb am_m50 (874, 2, 873, 10015) = true := by decide +kernel
set_option maxRecDepth 100000 in
theorem mwk_51 : am_mwb am_m51 (878, 10, 876, 877) = true := by decide +kernel
set_option maxRecDepth 100000 in
theorem mwk_52 : am_mwb am_m52 (882, 3, 880, 881) = true := by decide +kernel
set_option maxRecDepth 100000 in
theorem mwk_53 : am_mwb am_m53 (885, 25, 884, 0) = true := by decide +kernel
set_option maxRecDepth 100000 in
theorem mwk_54 : am_mwb am_m54 (889, 10, 887, 888) = true := by decide +kernel
set_option maxRecDepth 100000 in
theorem mwk_55 : am_mwb am_m55 (892, 3, 891, 0) = true := by decide +kernel
set_option maxRecDepth 100000 in
theorem mwk_56 : am_mwb am_m56 (895, 3, 894, 0) = true := by decide +kernel
set_option maxRecDepth 100000 in
theorem mwk_57 : am_mwb am_m57 (899, 3, 898, 10016) = true := by decide +kernel
set_option maxRecDepth 100000 in
theorem mwk_58 : am_mwb am_m58 (903, 2, 902, 10017) = true := by decide +kernel
set_option maxRecDepth 100000 in
theorem mwk_59 : am_mwb am_m59 (908, 1, 907, 10018) = true := by decide +kernel
set_option maxRecDepth 100000 in
theorem mwk_60 : am_mwb am_m60 (912, 10, 910, 911) = true := by decide +kernel
set_option maxRecDepth 100000 in
theorem mwk_61 : am_mwb am_m61 (919, 0, 918, 0) = true := by decide +kernel
set_option maxRecDepth 100000 in
theorem mwk_62 : am_mwb am_m62 (924, 1, 922, 923) = true := by decide +kernel
set_option maxRecDepth 100000 in
theorem mwk_63 : am_mwb am_m63 (928, 1, 927, 10019) = true := by decide +kernel
set_option maxRecDepth 100000 in
theorem mwk_64 : am_mwb am_m64 (948, 2, 946, 947) = true := by decide +kernel
set_option maxRecDepth 100000 in
theorem mwk_65 : am_mwb am_m65 (952, 2, 951, 10020) = true := by decide +kernel
set_option maxRecDepth 100000 in
theorem mwk_66 : am_mwb am_m66 (956, 2, 955, 10021) = true := by decide +kernel
set_option maxRecDepth 100000 in
theorem mwk_67 : am_mwb am_m67 (959, 21, 958, 0) = true := by decide +kernel
set_option maxRecDepth 100000 in
theorem mwk_68 : am_mwb am_m68 (963, 2, 962, 10022) = true := by decide +kernel
set_option maxRecDepth 100000 in
theorem mwk_69 : am_mwb am_m69 (987, 2, 986, 10023) = true := by decide +kernel
set_option maxRecDepth 100000 in
theorem mwk_70 : am_mwb am_m70 (990, 0, 989, 0) = true := by decide +kernel
set_option maxRecDepth 100000 in
theorem mwk_71 : am_mwb am_m71 (994, 1, 992, 993) = true := by decide +kernel
set_option maxRecDepth 100000 in
theorem mwk_72 : am_mwb am_m72 (998, 2, 996, 997) = true := by decide +kernel
set_option maxRecDepth 100000 in
theorem mwk_73 : am_mwb am_m73 (1001, 0, 1000, 0) = true := by decide +kernel
set_option maxRecDepth 100000 in
theorem mwk_74 : am_mwb am_m74 (1005, 1, 1003, 1004) = true := by decide +kernel
set_option maxRecDepth 100000 in
theorem mwk_75 : am_mwb am_m75 (1009, 12, 1007, 1008) = true := by decide +kernel
set_option maxRecDepth 100000 in
theorem mwk_76 : am_mwb am_m76 (1013, 3, 1011, 1012) = true := by decide +kernel
set_option maxRecDepth 100000 in
theorem mwk_77 : am_mwb am_m77 (1017, 3, 1015, 1016) = true := by decide +kernel
set_option maxRecDepth 100000 in
theorem mwk_78 : am_mwb am_m78 (1023, 3, 1022, 10024) = true := by decide +kernel
set_option maxRecDepth 100000 in
theorem mwk_79 : am_mwb am_m79 (1028, 3, 1027, 10025) = true := by decide +kernel
set_option maxRecDepth 100000 in
theorem mwk_80 : am_mwb am_m80 (1032, 0, 1031, 0) = true := by decide +kernel
set_option maxRecDepth 100000 in
theorem mwk_81 : am_mwb am_m81 (1036, 1, 1034, 1035) = true := by decide +kernel
set_option maxRecDepth 100000 in
theorem mwk_82 : am_mwb am_m82 (1039, 0, 1038, 0) = true := by decide +kernel
set_option maxRecDepth 100000 in
theorem mwk_83 : am_mwb am_m83 (1043, 1, 1041, 1042) = true := by decide +kernel
set_option maxRecDepth 100000 in
theorem mwk_84 : am_mwb am_m84 (1048, 0, 1047, 0) = true := by decide +kernel
set_option maxRecDepth 100000 in
theorem mwk_85 : am_mwb am_m85 (1052, 1, 1050, 1051) = true := by decide +kernel
set_option maxRecDepth 100000 in
theorem mwk_86 : am_mwb am_m86 (1056, 10, 1054, 1055) = true := by decide +kernel
set_option maxRecDepth 100000 in
theorem mwk_87 : am_mwb am_m87 (1059, 0, 1058, 0) = true := by decide +kernel
set_option maxRecDepth 100000 in
theorem mwk_88 : am_mwb am_m88 (1063, 1, 1061, 1062) = true := by decide +kernel
set_option maxRecDepth 100000 in
theorem mwk_89 : am_mwb am_m89 (1068, 0, 1067, 0) = true := by decide +kernel
set_option maxRecDepth 100000 in
theorem mwk_90 : am_mwb am_m90 (1072, 1, 1070, 1071) = true := by decide +kernel
set_option maxRecDepth 100000 in
theorem mwk_91 : am_mwb am_m91 (1077, 8, 1075, 1076) = true := by decide +kernel
set_option maxRecDepth 100000 in
theorem mwk_92 : am_mwb am_m92 (1082, 8, 1081, 10026) = true := by decide +kernel
set_option maxRecDepth 100000 in
theorem mwk_93 : am_mwb am_m93 (1086, 8, 1085, 10027) = true := by decide +kernel
set_option maxRecDepth 100000 in
theorem mwk_94 : am_mwb am_m94 (1091, 8, 1090, 10028) = true := by decide +kernel
set_option maxRecDepth 100000 in
theorem mwk_95 : am_mwb am_m95 (1095, 8, 1094, 10029) = true := by decide +kernel
set_option maxRecDepth 100000 in
theorem mwk_96 : am_mwb am_m96 (1098, 0, 1097, 0) = true := by decide +kernel
set_option maxRecDepth 100000 in
theorem mwk_97 : am_mwb am_m97 (1102, 1, 1100, 1101) = true := by decide +kernel
set_option maxRecDepth 100000 in
theorem mwk_98 : am_mwb am_m98 (1107, 8, 1105, 1106) = true := by decide +kernel
set_option maxRecDepth 100000 in
theorem mwk_99 : am_mwb am_m99 (1114, 8, 1113, 10030) = true := by decide +kernel
