theorem at_416_10 : am_at (am_m 416) 10 = some (.aload_n 0, 0) := by decide +kernel
theorem at_416_11 : am_at (am_m 416) 11 = some (.getfield 376, 3126) := by decide +kernel
theorem at_416_14 : am_at (am_m 416) 14 = some (.if_icmp .ge 40, 54) := by decide +kernel
theorem at_416_17 : am_at (am_m 416) 17 = some (.iload_n 2, 0) := by decide +kernel
theorem at_416_18 : am_at (am_m 416) 18 = some (.ifCond .eq 36, 54) := by decide +kernel
theorem at_416_21 : am_at (am_m 416) 21 = some (.aload_n 0, 0) := by decide +kernel
theorem at_416_22 : am_at (am_m 416) 22 = some (.invokevirtual 430, 407) := by decide +kernel
theorem at_416_25 : am_at (am_m 416) 25 = some (.istore_n 2, 0) := by decide +kernel
theorem at_416_26 : am_at (am_m 416) 26 = some (.iload_n 2, 0) := by decide +kernel
theorem at_416_27 : am_at (am_m 416) 27 = some (.ifCond .eq 21, 48) := by decide +kernel
theorem at_416_30 : am_at (am_m 416) 30 = some (.aload_n 0, 0) := by decide +kernel
theorem at_416_31 : am_at (am_m 416) 31 = some (.getfield 48, 3089) := by decide +kernel
theorem at_416_34 : am_at (am_m 416) 34 = some (.iload_n 1, 0) := by decide +kernel
theorem at_416_35 : am_at (am_m 416) 35 = some (.iaload, 0) := by decide +kernel
theorem at_416_36 : am_at (am_m 416) 36 = some (.aload_n 0, 0) := by decide +kernel
theorem at_416_37 : am_at (am_m 416) 37 = some (.getfield 124, 3127) := by decide +kernel
theorem at_416_40 : am_at (am_m 416) 40 = some (.iload_n 3, 0) := by decide +kernel
theorem at_416_41 : am_at (am_m 416) 41 = some (.iaload, 0) := by decide +kernel
theorem at_416_42 : am_at (am_m 416) 42 = some (.iconst 3, 0) := by decide +kernel
theorem at_416_43 : am_at (am_m 416) 43 = some (.iand, 0) := by decide +kernel
theorem at_416_44 : am_at (am_m 416) 44 = some (.invokestatic 447, 367) := by decide +kernel
theorem at_416_47 : am_at (am_m 416) 47 = some (.istore_n 1, 0) := by decide +kernel
theorem at_416_48 : am_at (am_m 416) 48 = some (.iinc 3 1, 0) := by decide +kernel
theorem at_416_51 : am_at (am_m 416) 51 = some (.goto (-42), 9) := by decide +kernel
theorem at_416_54 : am_at (am_m 416) 54 = some (.aload_n 0, 0) := by decide +kernel
theorem at_416_55 : am_at (am_m 416) 55 = some (.aload_n 0, 0) := by decide +kernel
theorem at_416_56 : am_at (am_m 416) 56 = some (.getfield 45, 3088) := by decide +kernel
theorem at_416_59 : am_at (am_m 416) 59 = some (.iload_n 1, 0) := by decide +kernel
theorem at_416_60 : am_at (am_m 416) 60 = some (.iaload, 0) := by decide +kernel
theorem at_416_61 : am_at (am_m 416) 61 = some (.putfield 385, 3121) := by decide +kernel
theorem at_416_64 : am_at (am_m 416) 64 = some (.return_, 0) := by decide +kernel
theorem at_417_0 : am_at (am_m 417) 0 = some (.iconst 0, 0) := by decide +kernel
theorem at_417_1 : am_at (am_m 417) 1 = some (.istore_n 1, 0) := by decide +kernel
theorem at_417_2 : am_at (am_m 417) 2 = some (.iload_n 1, 0) := by decide +kernel
theorem at_417_3 : am_at (am_m 417) 3 = some (.aload_n 0, 0) := by decide +kernel
theorem at_417_4 : am_at (am_m 417) 4 = some (.getfield 309, 3087) := by decide +kernel
theorem at_417_7 : am_at (am_m 417) 7 = some (.if_icmp .ge 33, 40) := by decide +kernel
theorem at_417_10 : am_at (am_m 417) 10 = some (.aload_n 0, 0) := by decide +kernel
theorem at_417_11 : am_at (am_m 417) 11 = some (.getfield 69, 3100) := by decide +kernel
theorem at_417_14 : am_at (am_m 417) 14 = some (.iload_n 1, 0) := by decide +kernel
theorem at_417_15 : am_at (am_m 417) 15 = some (.iload_n 1, 0) := by decide +kernel
theorem at_417_16 : am_at (am_m 417) 16 = some (.aload_n 0, 0) := by decide +kernel
theorem at_417_17 : am_at (am_m 417) 17 = some (.getfield 376, 3126) := by decide +kernel
theorem at_417_20 : am_at (am_m 417) 20 = some (.if_icmp .ge 12, 32) := by decide +kernel
theorem at_417_23 : am_at (am_m 417) 23 = some (.aload_n 0, 0) := by decide +kernel
theorem at_417_24 : am_at (am_m 417) 24 = some (.getfield 124, 3127) := by decide +kernel
theorem at_417_27 : am_at (am_m 417) 27 = some (.iload_n 1, 0) := by decide +kernel
theorem at_417_28 : am_at (am_m 417) 28 = some (.iaload, 0) := by decide +kernel
theorem at_417_29 : am_at (am_m 417) 29 = some (.goto 4, 33) := by decide +kernel
theorem at_417_32 : am_at (am_m 417) 32 = some (.iconst 0, 0) := by decide +kernel
theorem at_417_33 : am_at (am_m 417) 33 = some (.iastore, 0) := by decide +kernel
theorem at_417_34 : am_at (am_m 417) 34 = some (.iinc 1 1, 0) := by decide +kernel
theorem at_417_37 : am_at (am_m 417) 37 = some (.goto (-35), 2) := by decide +kernel
theorem at_417_40 : am_at (am_m 417) 40 = some (.aload_n 0, 0) := by decide +kernel
theorem at_417_41 : am_at (am_m 417) 41 = some (.invokevirtual 430, 407) := by decide +kernel
theorem at_417_44 : am_at (am_m 417) 44 = some (.istore_n 1, 0) := by decide +kernel
theorem at_417_45 : am_at (am_m 417) 45 = some (.iconst 0, 0) := by decide +kernel
theorem at_417_46 : am_at (am_m 417) 46 = some (.istore_n 2, 0) := by decide +kernel
theorem at_417_47 : am_at (am_m 417) 47 = some (.iload_n 2, 0) := by decide +kernel
theorem at_417_48 : am_at (am_m 417) 48 = some (.aload_n 0, 0) := by decide +kernel
theorem at_417_49 : am_at (am_m 417) 49 = some (.getfield 306, 3086) := by decide +kernel
theorem at_417_52 : am_at (am_m 417) 52 = some (.if_icmp .ge 28, 80) := by decide +kernel
theorem at_417_55 : am_at (am_m 417) 55 = some (.iload_n 1, 0) := by decide +kernel
theorem at_417_56 : am_at (am_m 417) 56 = some (.ifCond .eq 24, 80) := by decide +kernel
theorem at_417_59 : am_at (am_m 417) 59 = some (.aload_n 0, 0) := by decide +kernel
theorem at_417_60 : am_at (am_m 417) 60 = some (.invokevirtual 430, 407) := by decide +kernel
theorem at_417_63 : am_at (am_m 417) 63 = some (.istore_n 1, 0) := by decide +kernel
theorem at_417_64 : am_at (am_m 417) 64 = some (.iload_n 1, 0) := by decide +kernel
theorem at_417_65 : am_at (am_m 417) 65 = some (.ifCond .eq 9, 74) := by decide +kernel
theorem at_417_68 : am_at (am_m 417) 68 = some (.aload_n 0, 0) := by decide +kernel
theorem at_417_69 : am_at (am_m 417) 69 = some (.iload_n 2, 0) := by decide +kernel
theorem at_417_70 : am_at (am_m 417) 70 = some (.invokevirtual 450, 418) := by decide +kernel
theorem at_417_73 : am_at (am_m 417) 73 = some (.pop, 0) := by decide +kernel
theorem at_417_74 : am_at (am_m 417) 74 = some (.iinc 2 1, 0) := by decide +kernel
theorem at_417_77 : am_at (am_m 417) 77 = some (.goto (-30), 47) := by decide +kernel
theorem at_417_80 : am_at (am_m 417) 80 = some (.aload_n 0, 0) := by decide +kernel
theorem at_417_81 : am_at (am_m 417) 81 = some (.aload_n 0, 0) := by decide +kernel
theorem at_417_82 : am_at (am_m 417) 82 = some (.getfield 69, 3100) := by decide +kernel
theorem at_417_85 : am_at (am_m 417) 85 = some (.aload_n 0, 0) := by decide +kernel
theorem at_417_86 : am_at (am_m 417) 86 = some (.getfield 309, 3087) := by decide +kernel
theorem at_417_89 : am_at (am_m 417) 89 = some (.iconst 1, 0) := by decide +kernel
theorem at_417_90 : am_at (am_m 417) 90 = some (.isub, 0) := by decide +kernel
theorem at_417_91 : am_at (am_m 417) 91 = some (.iconst 2, 0) := by decide +kernel
theorem at_417_92 : am_at (am_m 417) 92 = some (.idiv, 0) := by decide +kernel
theorem at_417_93 : am_at (am_m 417) 93 = some (.iaload, 0) := by decide +kernel
theorem at_417_94 : am_at (am_m 417) 94 = some (.putfield 385, 3121) := by decide +kernel
theorem at_417_97 : am_at (am_m 417) 97 = some (.return_, 0) := by decide +kernel
theorem at_418_0 : am_at (am_m 418) 0 = some (.aload_n 0, 0) := by decide +kernel
theorem at_418_1 : am_at (am_m 418) 1 = some (.getfield 69, 3100) := by decide +kernel
theorem at_418_4 : am_at (am_m 418) 4 = some (.aload_n 0, 0) := by decide +kernel
theorem at_418_5 : am_at (am_m 418) 5 = some (.getfield 45, 3088) := by decide +kernel
theorem at_418_8 : am_at (am_m 418) 8 = some (.iload_n 1, 0) := by decide +kernel
theorem at_418_9 : am_at (am_m 418) 9 = some (.iaload, 0) := by decide +kernel
theorem at_418_10 : am_at (am_m 418) 10 = some (.iaload, 0) := by decide +kernel
theorem at_418_11 : am_at (am_m 418) 11 = some (.istore_n 2, 0) := by decide +kernel
theorem at_418_12 : am_at (am_m 418) 12 = some (.aload_n 0, 0) := by decide +kernel
theorem at_418_13 : am_at (am_m 418) 13 = some (.getfield 69, 3100) := by decide +kernel
theorem at_418_16 : am_at (am_m 418) 16 = some (.aload_n 0, 0) := by decide +kernel
theorem at_418_17 : am_at (am_m 418) 17 = some (.getfield 48, 3089) := by decide +kernel
theorem at_418_20 : am_at (am_m 418) 20 = some (.iload_n 1, 0) := by decide +kernel
theorem at_418_21 : am_at (am_m 418) 21 = some (.iaload, 0) := by decide +kernel
theorem at_418_22 : am_at (am_m 418) 22 = some (.iaload, 0) := by decide +kernel
theorem at_418_23 : am_at (am_m 418) 23 = some (.istore_n 3, 0) := by decide +kernel
theorem at_418_24 : am_at (am_m 418) 24 = some (.iload_n 2, 0) := by decide +kernel
theorem at_418_25 : am_at (am_m 418) 25 = some (.iload_n 3, 0) := by decide +kernel
theorem at_418_26 : am_at (am_m 418) 26 = some (.if_icmp .gt 5, 31) := by decide +kernel
theorem at_418_29 : am_at (am_m 418) 29 = some (.iconst 0, 0) := by decide +kernel
theorem at_418_30 : am_at (am_m 418) 30 = some (.ireturn, 0) := by decide +kernel
theorem at_418_31 : am_at (am_m 418) 31 = some (.aload_n 0, 0) := by decide +kernel
theorem at_418_32 : am_at (am_m 418) 32 = some (.getfield 69, 3100) := by decide +kernel
theorem at_418_35 : am_at (am_m 418) 35 = some (.aload_n 0, 0) := by decide +kernel
theorem at_418_36 : am_at (am_m 418) 36 = some (.getfield 45, 3088) := by decide +kernel
theorem at_418_39 : am_at (am_m 418) 39 = some (.iload_n 1, 0) := by decide +kernel
theorem at_418_40 : am_at (am_m 418) 40 = some (.iaload, 0) := by decide +kernel
theorem at_418_41 : am_at (am_m 418) 41 = some (.iload_n 3, 0) := by decide +kernel
theorem at_418_42 : am_at (am_m 418) 42 = some (.iastore, 0) := by decide +kernel
theorem at_418_43 : am_at (am_m 418) 43 = some (.aload_n 0, 0) := by decide +kernel
theorem at_418_44 : am_at (am_m 418) 44 = some (.getfield 69, 3100) := by decide +kernel
theorem at_418_47 : am_at (am_m 418) 47 = some (.aload_n 0, 0) := by decide +kernel
theorem at_418_48 : am_at (am_m 418) 48 = some (.getfield 48, 3089) := by decide +kernel
theorem at_418_51 : am_at (am_m 418) 51 = some (.iload_n 1, 0) := by decide +kernel
theorem at_418_52 : am_at (am_m 418) 52 = some (.iaload, 0) := by decide +kernel
theorem at_418_53 : am_at (am_m 418) 53 = some (.iload_n 2, 0) := by decide +kernel
theorem at_418_54 : am_at (am_m 418) 54 = some (.iastore, 0) := by decide +kernel
theorem at_418_55 : am_at (am_m 418) 55 = some (.iconst 1, 0) := by decide +kernel
theorem at_418_56 : am_at (am_m 418) 56 = some (.ireturn, 0) := by decide +kernel
theorem at_419_0 : am_at (am_m 419) 0 = some (.aload_n 0, 0) := by decide +kernel
theorem at_419_1 : am_at (am_m 419) 1 = some (.aload_n 0, 0) := by decide +kernel
theorem at_419_2 : am_at (am_m 419) 2 = some (.getfield 385, 3121) := by decide +kernel
theorem at_419_5 : am_at (am_m 419) 5 = some (.putfield 660, 3128) := by decide +kernel
theorem at_419_8 : am_at (am_m 419) 8 = some (.aload_n 0, 0) := by decide +kernel
theorem at_419_9 : am_at (am_m 419) 9 = some (.aload_n 0, 0) := by decide +kernel
theorem at_419_10 : am_at (am_m 419) 10 = some (.getfield 379, 3122) := by decide +kernel
theorem at_419_13 : am_at (am_m 419) 13 = some (.putfield 663, 3129) := by decide +kernel
theorem at_419_16 : am_at (am_m 419) 16 = some (.aload_n 0, 0) := by decide +kernel
theorem at_419_17 : am_at (am_m 419) 17 = some (.getfield 382, 3120) := by decide +kernel
theorem at_419_20 : am_at (am_m 419) 20 = some (.ireturn, 0) := by decide +kernel
theorem at_420_0 : am_at (am_m 420) 0 = some (.aload_n 0, 0) := by decide +kernel
theorem at_420_1 : am_at (am_m 420) 1 = some (.aload_n 0, 0) := by decide +kernel
theorem at_420_2 : am_at (am_m 420) 2 = some (.iload_n 1, 0) := by decide +kernel
theorem at_420_3 : am_at (am_m 420) 3 = some (.invokevirtual 568, 358) := by decide +kernel
theorem at_420_6 : am_at (am_m 420) 6 = some (.ifCond .eq 7, 13) := by decide +kernel
theorem at_420_9 : am_at (am_m 420) 9 = some (.iconst 0, 0) := by decide +kernel
theorem at_420_10 : am_at (am_m 420) 10 = some (.goto 4, 14) := by decide +kernel
theorem at_420_13 : am_at (am_m 420) 13 = some (.iconst 1, 0) := by decide +kernel
theorem at_420_14 : am_at (am_m 420) 14 = some (.putfield 292, 3072) := by decide +kernel
theorem at_420_17 : am_at (am_m 420) 17 = some (.aload_n 0, 0) := by decide +kernel
theorem at_420_18 : am_at (am_m 420) 18 = some (.getfield 292, 3072) := by decide +kernel
theorem at_420_21 : am_at (am_m 420) 21 = some (.ifCond .le 5, 26) := by decide +kernel
theorem at_420_24 : am_at (am_m 420) 24 = some (.iconst 0, 0) := by decide +kernel
theorem at_420_25 : am_at (am_m 420) 25 = some (.ireturn, 0) := by decide +kernel
theorem at_420_26 : am_at (am_m 420) 26 = some (.aload_n 0, 0) := by decide +kernel
theorem at_420_27 : am_at (am_m 420) 27 = some (.iload_n 1, 0) := by decide +kernel
theorem at_420_28 : am_at (am_m 420) 28 = some (.invokevirtual 571, 359) := by decide +kernel
theorem at_420_31 : am_at (am_m 420) 31 = some (.aload_n 0, 0) := by decide +kernel
theorem at_420_32 : am_at (am_m 420) 32 = some (.iload_n 2, 0) := by decide +kernel
theorem at_420_33 : am_at (am_m 420) 33 = some (.iload_n 3, 0) := by decide +kernel
theorem at_420_34 : am_at (am_m 420) 34 = some (.iload 4, 0) := by decide +kernel
theorem at_420_36 : am_at (am_m 420) 36 = some (.invokevirtual 675, 421) := by decide +kernel
theorem at_420_39 : am_at (am_m 420) 39 = some (.aload_n 0, 0) := by decide +kernel
theorem at_420_40 : am_at (am_m 420) 40 = some (.invokevirtual 669, 403) := by decide +kernel
theorem at_420_43 : am_at (am_m 420) 43 = some (.aload_n 0, 0) := by decide +kernel
theorem at_420_44 : am_at (am_m 420) 44 = some (.invokevirtual 672, 419) := by decide +kernel
theorem at_420_47 : am_at (am_m 420) 47 = some (.ireturn, 0) := by decide +kernel
theorem at_421_0 : am_at (am_m 421) 0 = some (.aload_n 0, 0) := by decide +kernel
theorem at_421_1 : am_at (am_m 421) 1 = some (.iload_n 1, 0) := by decide +kernel
theorem at_421_2 : am_at (am_m 421) 2 = some (.putfield 367, 3123) := by decide +kernel
theorem at_421_5 : am_at (am_m 421) 5 = some (.aload_n 0, 0) := by decide +kernel
theorem at_421_6 : am_at (am_m 421) 6 = some (.iload_n 2, 0) := by decide +kernel
theorem at_421_7 : am_at (am_m 421) 7 = some (.putfield 370, 3124) := by decide +kernel
theorem at_421_10 : am_at (am_m 421) 10 = some (.aload_n 0, 0) := by decide +kernel
theorem at_421_11 : am_at (am_m 421) 11 = some (.iload_n 3, 0) := by decide +kernel
theorem at_421_12 : am_at (am_m 421) 12 = some (.putfield 373, 3125) := by decide +kernel
theorem at_421_15 : am_at (am_m 421) 15 = some (.aload_n 0, 0) := by decide +kernel
theorem at_421_16 : am_at (am_m 421) 16 = some (.aload_n 0, 0) := by decide +kernel
theorem at_421_17 : am_at (am_m 421) 17 = some (.getfield 649, 3112) := by decide +kernel
theorem at_421_20 : am_at (am_m 421) 20 = some (.putfield 376, 3126) := by decide +kernel
theorem at_421_23 : am_at (am_m 421) 23 = some (.iconst 0, 0) := by decide +kernel
theorem at_421_24 : am_at (am_m 421) 24 = some (.istore 4, 0) := by decide +kernel
theorem at_421_26 : am_at (am_m 421) 26 = some (.iload 4, 0) := by decide +kernel
theorem at_421_28 : am_at (am_m 421) 28 = some (.aload_n 0, 0) := by decide +kernel
theorem at_421_29 : am_at (am_m 421) 29 = some (.getfield 649, 3112) := by decide +kernel
theorem at_421_32 : am_at (am_m 421) 32 = some (.if_icmp .ge 23, 55) := by decide +kernel
theorem at_421_35 : am_at (am_m 421) 35 = some (.aload_n 0, 0) := by decide +kernel
theorem at_421_36 : am_at (am_m 421) 36 = some (.getfield 124, 3127) := by decide +kernel
theorem at_421_39 : am_at (am_m 421) 39 = some (.iload 4, 0) := by decide +kernel
theorem at_421_41 : am_at (am_m 421) 41 = some (.aload_n 0, 0) := by decide +kernel
theorem at_421_42 : am_at (am_m 421) 42 = some (.getfield 103, 3113) := by decide +kernel
theorem at_421_45 : am_at (am_m 421) 45 = some (.iload 4, 0) := by decide +kernel
theorem at_421_47 : am_at (am_m 421) 47 = some (.iaload, 0) := by decide +kernel
theorem at_421_48 : am_at (am_m 421) 48 = some (.iastore, 0) := by decide +kernel
theorem at_421_49 : am_at (am_m 421) 49 = some (.iinc 4 1, 0) := by decide +kernel
theorem at_421_52 : am_at (am_m 421) 52 = some (.goto (-26), 26) := by decide +kernel
theorem at_421_55 : am_at (am_m 421) 55 = some (.return_, 0) := by decide +kernel
theorem at_422_0 : am_at (am_m 422) 0 = some (.aload_n 0, 0) := by decide +kernel
theorem at_422_1 : am_at (am_m 422) 1 = some (.iconst 0, 0) := by decide +kernel
theorem at_422_2 : am_at (am_m 422) 2 = some (.putfield 292, 3072) := by decide +kernel
theorem at_422_5 : am_at (am_m 422) 5 = some (.aload_n 0, 0) := by decide +kernel
theorem at_422_6 : am_at (am_m 422) 6 = some (.getfield 660, 3128) := by decide +kernel
theorem at_422_9 : am_at (am_m 422) 9 = some (.ireturn, 0) := by decide +kernel
theorem at_423_0 : am_at (am_m 423) 0 = some (.aload_n 0, 0) := by decide +kernel
theorem at_423_1 : am_at (am_m 423) 1 = some (.iconst 0, 0) := by decide +kernel
theorem at_423_2 : am_at (am_m 423) 2 = some (.putfield 292, 3072) := by decide +kernel
theorem at_423_5 : am_at (am_m 423) 5 = some (.aload_n 0, 0) := by decide +kernel
theorem at_423_6 : am_at (am_m 423) 6 = some (.getfield 663, 3129) := by decide +kernel
theorem at_423_9 : am_at (am_m 423) 9 = some (.ireturn, 0) := by decide +kernel
theorem at_424_0 : am_at (am_m 424) 0 = some (.aload_n 0, 0) := by decide +kernel
theorem at_424_1 : am_at (am_m 424) 1 = some (.aload_n 0, 0) := by decide +kernel
theorem at_424_2 : am_at (am_m 424) 2 = some (.iload_n 1, 0) := by decide +kernel
theorem at_424_3 : am_at (am_m 424) 3 = some (.invokevirtual 568, 358) := by decide +kernel
theorem at_424_6 : am_at (am_m 424) 6 = some (.ifCond .eq 15, 21) := by decide +kernel
theorem at_424_9 : am_at (am_m 424) 9 = some (.aload_n 0, 0) := by decide +kernel
theorem at_424_10 : am_at (am_m 424) 10 = some (.iload_n 2, 0) := by decide +kernel
theorem at_424_11 : am_at (am_m 424) 11 = some (.invokevirtual 655, 398) := by decide +kernel
theorem at_424_14 : am_at (am_m 424) 14 = some (.ifCond .eq 7, 21) := by decide +kernel
theorem at_424_17 : am_at (am_m 424) 17 = some (.iconst 0, 0) := by decide +kernel
theorem at_424_18 : am_at (am_m 424) 18 = some (.goto 4, 22) := by decide +kernel
theorem at_424_21 : am_at (am_m 424) 21 = some (.iconst 1, 0) := by decide +kernel
theorem at_424_22 : am_at (am_m 424) 22 = some (.putfield 292, 3072) := by decide +kernel
theorem at_424_25 : am_at (am_m 424) 25 = some (.aload_n 0, 0) := by decide +kernel
theorem at_424_26 : am_at (am_m 424) 26 = some (.getfield 292, 3072) := by decide +kernel
theorem at_424_29 : am_at (am_m 424) 29 = some (.ifCond .le 5, 34) := by decide +kernel
theorem at_424_32 : am_at (am_m 424) 32 = some (.iconst 0, 0) := by decide +kernel
theorem at_424_33 : am_at (am_m 424) 33 = some (.ireturn, 0) := by decide +kernel
theorem at_424_34 : am_at (am_m 424) 34 = some (.aload_n 0, 0) := by decide +kernel
theorem at_424_35 : am_at (am_m 424) 35 = some (.iload_n 1, 0) := by decide +kernel
theorem at_424_36 : am_at (am_m 424) 36 = some (.invokevirtual 571, 359) := by decide +kernel
theorem at_424_39 : am_at (am_m 424) 39 = some (.aload_n 0, 0) := by decide +kernel
theorem at_424_40 : am_at (am_m 424) 40 = some (.iload_n 2, 0) := by decide +kernel
theorem at_424_41 : am_at (am_m 424) 41 = some (.invokevirtual 686, 425) := by decide +kernel
theorem at_424_44 : am_at (am_m 424) 44 = some (.l2i, 0) := by decide +kernel
theorem at_424_45 : am_at (am_m 424) 45 = some (.ireturn, 0) := by decide +kernel
theorem at_425_0 : am_at (am_m 425) 0 = some (.aload_n 0, 0) := by decide +kernel
theorem at_425_1 : am_at (am_m 425) 1 = some (.iload_n 1, 0) := by decide +kernel
theorem at_425_2 : am_at (am_m 425) 2 = some (.invokevirtual 666, 402) := by decide +kernel
theorem at_425_5 : am_at (am_m 425) 5 = some (.aload_n 0, 0) := by decide +kernel
theorem at_425_6 : am_at (am_m 425) 6 = some (.invokevirtual 669, 403) := by decide +kernel
theorem at_425_9 : am_at (am_m 425) 9 = some (.aload_n 0, 0) := by decide +kernel
theorem at_425_10 : am_at (am_m 425) 10 = some (.getfield 382, 3120) := by decide +kernel
theorem at_425_13 : am_at (am_m 425) 13 = some (.ifCond .le 9, 22) := by decide +kernel
theorem at_425_16 : am_at (am_m 425) 16 = some (.ldc2_w 680, 57) := by decide +kernel
theorem at_425_19 : am_at (am_m 425) 19 = some (.goto 16, 35) := by decide +kernel
theorem at_425_22 : am_at (am_m 425) 22 = some (.aload_n 0, 0) := by decide +kernel
theorem at_425_23 : am_at (am_m 425) 23 = some (.getfield 385, 3121) := by decide +kernel
theorem at_425_26 : am_at (am_m 425) 26 = some (.aload_n 0, 0) := by decide +kernel
theorem at_425_27 : am_at (am_m 425) 27 = some (.getfield 87, 3107) := by decide +kernel
theorem at_425_30 : am_at (am_m 425) 30 = some (.iload_n 1, 0) := by decide +kernel
theorem at_425_31 : am_at (am_m 425) 31 = some (.iaload, 0) := by decide +kernel
theorem at_425_32 : am_at (am_m 425) 32 = some (.invokestatic 682, 426) := by decide +kernel
theorem at_425_35 : am_at (am_m 425) 35 = some (.lreturn, 0) := by decide +kernel
theorem at_426_0 : am_at (am_m 426) 0 = some (.iload_n 0, 0) := by decide +kernel
theorem at_426_1 : am_at (am_m 426) 1 = some (.i2l, 0) := by decide +kernel
theorem at_426_2 : am_at (am_m 426) 2 = some (.iload_n 1, 0) := by decide +kernel
theorem at_426_3 : am_at (am_m 426) 3 = some (.i2l, 0) := by decide +kernel
theorem at_426_4 : am_at (am_m 426) 4 = some (.lsub, 0) := by decide +kernel
theorem at_426_5 : am_at (am_m 426) 5 = some (.lstore_n 2, 0) := by decide +kernel
theorem at_426_6 : am_at (am_m 426) 6 = some (.lload_n 2, 0) := by decide +kernel
theorem at_426_7 : am_at (am_m 426) 7 = some (.lconst 0, 0) := by decide +kernel
theorem at_426_8 : am_at (am_m 426) 8 = some (.lcmp, 0) := by decide +kernel
theorem at_426_9 : am_at (am_m 426) 9 = some (.ifCond .ge 8, 17) := by decide +kernel
theorem at_426_12 : am_at (am_m 426) 12 = some (.lload_n 2, 0) := by decide +kernel
theorem at_426_13 : am_at (am_m 426) 13 = some (.lneg, 0) := by decide +kernel
theorem at_426_14 : am_at (am_m 426) 14 = some (.goto 4, 18) := by decide +kernel
theorem at_426_17 : am_at (am_m 426) 17 = some (.lload_n 2, 0) := by decide +kernel
theorem at_426_18 : am_at (am_m 426) 18 = some (.lstore_n 2, 0) := by decide +kernel
theorem at_426_19 : am_at (am_m 426) 19 = some (.lload_n 2, 0) := by decide +kernel
theorem at_426_20 : am_at (am_m 426) 20 = some (.ldc2_w 678, 19) := by decide +kernel
theorem at_426_23 : am_at (am_m 426) 23 = some (.lcmp, 0) := by decide +kernel
theorem at_426_24 : am_at (am_m 426) 24 = some (.ifCond .le 9, 33) := by decide +kernel
theorem at_426_27 : am_at (am_m 426) 27 = some (.ldc2_w 678, 19) := by decide +kernel
theorem at_426_30 : am_at (am_m 426) 30 = some (.goto 4, 34) := by decide +kernel
theorem at_426_33 : am_at (am_m 426) 33 = some (.lload_n 2, 0) := by decide +kernel
theorem at_426_34 : am_at (am_m 426) 34 = some (.lreturn, 0) := by decide +kernel
theorem at_427_0 : am_at (am_m 427) 0 = some (.aload_n 0, 0) := by decide +kernel
theorem at_427_1 : am_at (am_m 427) 1 = some (.aload_n 0, 0) := by decide +kernel
theorem at_427_2 : am_at (am_m 427) 2 = some (.iload_n 1, 0) := by decide +kernel
theorem at_427_3 : am_at (am_m 427) 3 = some (.invokevirtual 568, 358) := by decide +kernel
theorem at_427_6 : am_at (am_m 427) 6 = some (.ifCond .ne 7, 13) := by decide +kernel
theorem at_427_9 : am_at (am_m 427) 9 = some (.iconst 1, 0) := by decide +kernel
theorem at_427_10 : am_at (am_m 427) 10 = some (.goto 18, 28) := by decide +kernel
theorem at_427_13 : am_at (am_m 427) 13 = some (.iload_n 3, 0) := by decide +kernel
theorem at_427_14 : am_at (am_m 427) 14 = some (.i2l, 0) := by decide +kernel
theorem at_427_15 : am_at (am_m 427) 15 = some (.lconst 0, 0) := by decide +kernel
theorem at_427_16 : am_at (am_m 427) 16 = some (.lconst 1, 0) := by decide +kernel
theorem at_427_17 : am_at (am_m 427) 17 = some (.invokestatic 299, 327) := by decide +kernel
theorem at_427_20 : am_at (am_m 427) 20 = some (.ifCond .ne 7, 27) := by decide +kernel
theorem at_427_23 : am_at (am_m 427) 23 = some (.iconst 2, 0) := by decide +kernel
theorem at_427_24 : am_at (am_m 427) 24 = some (.goto 4, 28) := by decide +kernel
theorem at_427_27 : am_at (am_m 427) 27 = some (.iconst 0, 0) := by decide +kernel
theorem at_427_28 : am_at (am_m 427) 28 = some (.putfield 292, 3072) := by decide +kernel
theorem at_427_31 : am_at (am_m 427) 31 = some (.aload_n 0, 0) := by decide +kernel
theorem at_427_32 : am_at (am_m 427) 32 = some (.getfield 292, 3072) := by decide +kernel
theorem at_427_35 : am_at (am_m 427) 35 = some (.ifCond .le 5, 40) := by decide +kernel
theorem at_427_38 : am_at (am_m 427) 38 = some (.lconst 0, 0) := by decide +kernel
theorem at_427_39 : am_at (am_m 427) 39 = some (.lreturn, 0) := by decide +kernel
theorem at_427_40 : am_at (am_m 427) 40 = some (.aload_n 0, 0) := by decide +kernel
theorem at_427_41 : am_at (am_m 427) 41 = some (.iload_n 1, 0) := by decide +kernel
theorem at_427_42 : am_at (am_m 427) 42 = some (.invokevirtual 571, 359) := by decide +kernel
theorem at_427_45 : am_at (am_m 427) 45 = some (.aload_n 0, 0) := by decide +kernel
theorem at_427_46 : am_at (am_m 427) 46 = some (.iload_n 2, 0) := by decide +kernel
theorem at_427_47 : am_at (am_m 427) 47 = some (.invokevirtual 703, 428) := by decide +kernel
theorem at_427_50 : am_at (am_m 427) 50 = some (.iload_n 3, 0) := by decide +kernel
theorem at_427_51 : am_at (am_m 427) 51 = some (.ifCond .ne 10, 61) := by decide +kernel
theorem at_427_54 : am_at (am_m 427) 54 = some (.aload_n 0, 0) := by decide +kernel
theorem at_427_55 : am_at (am_m 427) 55 = some (.getfield 689, 3163) := by decide +kernel
theorem at_427_58 : am_at (am_m 427) 58 = some (.goto 7, 65) := by decide +kernel
theorem at_427_61 : am_at (am_m 427) 61 = some (.aload_n 0, 0) := by decide +kernel
theorem at_427_62 : am_at (am_m 427) 62 = some (.getfield 693, 3164) := by decide +kernel
theorem at_427_65 : am_at (am_m 427) 65 = some (.lreturn, 0) := by decide +kernel
theorem at_428_0 : am_at (am_m 428) 0 = some (.aload_n 0, 0) := by decide +kernel
theorem at_428_1 : am_at (am_m 428) 1 = some (.lconst 0, 0) := by decide +kernel
theorem at_428_2 : am_at (am_m 428) 2 = some (.putfield 689, 3163) := by decide +kernel
theorem at_428_5 : am_at (am_m 428) 5 = some (.aload_n 0, 0) := by decide +kernel
theorem at_428_6 : am_at (am_m 428) 6 = some (.lconst 0, 0) := by decide +kernel
theorem at_428_7 : am_at (am_m 428) 7 = some (.putfield 693, 3164) := by decide +kernel
theorem at_428_10 : am_at (am_m 428) 10 = some (.iconst 0, 0) := by decide +kernel
theorem at_428_11 : am_at (am_m 428) 11 = some (.istore_n 2, 0) := by decide +kernel
theorem at_428_12 : am_at (am_m 428) 12 = some (.iload_n 2, 0) := by decide +kernel
theorem at_428_13 : am_at (am_m 428) 13 = some (.aload_n 0, 0) := by decide +kernel
theorem at_428_14 : am_at (am_m 428) 14 = some (.getfield 652, 3103) := by decide +kernel
theorem at_428_17 : am_at (am_m 428) 17 = some (.if_icmp .ge 60, 77) := by decide +kernel
theorem at_428_20 : am_at (am_m 428) 20 = some (.aload_n 0, 0) := by decide +kernel
theorem at_428_21 : am_at (am_m 428) 21 = some (.getfield 93, 3109) := by decide +kernel
theorem at_428_24 : am_at (am_m 428) 24 = some (.iload_n 2, 0) := by decide +kernel
theorem at_428_25 : am_at (am_m 428) 25 = some (.baload, 0) := by decide +kernel
theorem at_428_26 : am_at (am_m 428) 26 = some (.iload_n 1, 0) := by decide +kernel
theorem at_428_27 : am_at (am_m 428) 27 = some (.if_icmp .eq 6, 33) := by decide +kernel
theorem at_428_30 : am_at (am_m 428) 30 = some (.goto 41, 71) := by decide +kernel
theorem at_428_33 : am_at (am_m 428) 33 = some (.aload_n 0, 0) := by decide +kernel
theorem at_428_34 : am_at (am_m 428) 34 = some (.dup, 0) := by decide +kernel
theorem at_428_35 : am_at (am_m 428) 35 = some (.getfield 689, 3163) := by decide +kernel
theorem at_428_38 : am_at (am_m 428) 38 = some (.aload_n 0, 0) := by decide +kernel
theorem at_428_39 : am_at (am_m 428) 39 = some (.getfield 90, 3108) := by decide +kernel
theorem at_428_42 : am_at (am_m 428) 42 = some (.iload_n 2, 0) := by decide +kernel
theorem at_428_43 : am_at (am_m 428) 43 = some (.iaload, 0) := by decide +kernel
theorem at_428_44 : am_at (am_m 428) 44 = some (.i2l, 0) := by decide +kernel
theorem at_428_45 : am_at (am_m 428) 45 = some (.aload_n 0, 0) := by decide +kernel
theorem at_428_46 : am_at (am_m 428) 46 = some (.iload_n 2, 0) := by decide +kernel
theorem at_428_47 : am_at (am_m 428) 47 = some (.invokevirtual 686, 425) := by decide +kernel
theorem at_428_50 : am_at (am_m 428) 50 = some (.lmul, 0) := by decide +kernel
theorem at_428_51 : am_at (am_m 428) 51 = some (.ladd, 0) := by decide +kernel
theorem at_428_52 : am_at (am_m 428) 52 = some (.putfield 689, 3163) := by decide +kernel
theorem at_428_55 : am_at (am_m 428) 55 = some (.aload_n 0, 0) := by decide +kernel
theorem at_428_56 : am_at (am_m 428) 56 = some (.dup, 0) := by decide +kernel
theorem at_428_57 : am_at (am_m 428) 57 = some (.getfield 693, 3164) := by decide +kernel
theorem at_428_60 : am_at (am_m 428) 60 = some (.aload_n 0, 0) := by decide +kernel
theorem at_428_61 : am_at (am_m 428) 61 = some (.getfield 90, 3108) := by decide +kernel
theorem at_428_64 : am_at (am_m 428) 64 = some (.iload_n 2, 0) := by decide +kernel
theorem at_428_65 : am_at (am_m 428) 65 = some (.iaload, 0) := by decide +kernel
theorem at_428_66 : am_at (am_m 428) 66 = some (.i2l, 0) := by decide +kernel
theorem at_428_67 : am_at (am_m 428) 67 = some (.ladd, 0) := by decide +kernel
theorem at_428_68 : am_at (am_m 428) 68 = some (.putfield 693, 3164) := by decide +kernel
theorem at_428_71 : am_at (am_m 428) 71 = some (.iinc 2 1, 0) := by decide +kernel
theorem at_428_74 : am_at (am_m 428) 74 = some (.goto (-62), 12) := by decide +kernel
theorem at_428_77 : am_at (am_m 428) 77 = some (.aload_n 0, 0) := by decide +kernel
theorem at_428_78 : am_at (am_m 428) 78 = some (.aload_n 0, 0) := by decide +kernel
theorem at_428_79 : am_at (am_m 428) 79 = some (.getfield 693, 3164) := by decide +kernel
theorem at_428_82 : am_at (am_m 428) 82 = some (.lconst 0, 0) := by decide +kernel
theorem at_428_83 : am_at (am_m 428) 83 = some (.lcmp, 0) := by decide +kernel
theorem at_428_84 : am_at (am_m 428) 84 = some (.ifCond .ne 7, 91) := by decide +kernel
theorem at_428_87 : am_at (am_m 428) 87 = some (.lconst 1, 0) := by decide +kernel
theorem at_428_88 : am_at (am_m 428) 88 = some (.goto 7, 95) := by decide +kernel
theorem at_428_91 : am_at (am_m 428) 91 = some (.aload_n 0, 0) := by decide +kernel
theorem at_428_92 : am_at (am_m 428) 92 = some (.getfield 693, 3164) := by decide +kernel
theorem at_428_95 : am_at (am_m 428) 95 = some (.putfield 693, 3164) := by decide +kernel
theorem at_428_98 : am_at (am_m 428) 98 = some (.aload_n 0, 0) := by decide +kernel
theorem at_428_99 : am_at (am_m 428) 99 = some (.invokevirtual 700, 429) := by decide +kernel
theorem at_428_102 : am_at (am_m 428) 102 = some (.return_, 0) := by decide +kernel
theorem at_429_0 : am_at (am_m 429) 0 = some (.aload_n 0, 0) := by decide +kernel
theorem at_429_1 : am_at (am_m 429) 1 = some (.getfield 689, 3163) := by decide +kernel
theorem at_429_4 : am_at (am_m 429) 4 = some (.aload_n 0, 0) := by decide +kernel
theorem at_429_5 : am_at (am_m 429) 5 = some (.getfield 693, 3164) := by decide +kernel
theorem at_429_8 : am_at (am_m 429) 8 = some (.invokestatic 696, 430) := by decide +kernel
theorem at_429_11 : am_at (am_m 429) 11 = some (.lstore_n 1, 0) := by decide +kernel
theorem at_429_12 : am_at (am_m 429) 12 = some (.aload_n 0, 0) := by decide +kernel
theorem at_429_13 : am_at (am_m 429) 13 = some (.aload_n 0, 0) := by decide +kernel
theorem at_429_14 : am_at (am_m 429) 14 = some (.getfield 689, 3163) := by decide +kernel
theorem at_429_17 : am_at (am_m 429) 17 = some (.lload_n 1, 0) := by decide +kernel
theorem at_429_18 : am_at (am_m 429) 18 = some (.ldiv, 0) := by decide +kernel
theorem at_429_19 : am_at (am_m 429) 19 = some (.putfield 689, 3163) := by decide +kernel
theorem at_429_22 : am_at (am_m 429) 22 = some (.aload_n 0, 0) := by decide +kernel
theorem at_429_23 : am_at (am_m 429) 23 = some (.aload_n 0, 0) := by decide +kernel
theorem at_429_24 : am_at (am_m 429) 24 = some (.getfield 693, 3164) := by decide +kernel
theorem at_429_27 : am_at (am_m 429) 27 = some (.lload_n 1, 0) := by decide +kernel
theorem at_429_28 : am_at (am_m 429) 28 = some (.ldiv, 0) := by decide +kernel
theorem at_429_29 : am_at (am_m 429) 29 = some (.putfield 693, 3164) := by decide +kernel
theorem at_429_32 : am_at (am_m 429) 32 = some (.return_, 0) := by decide +kernel
theorem at_430_0 : am_at (am_m 430) 0 = some (.lload_n 0, 0) := by decide +kernel
theorem at_430_1 : am_at (am_m 430) 1 = some (.lconst 0, 0) := by decide +kernel
theorem at_430_2 : am_at (am_m 430) 2 = some (.lcmp, 0) := by decide +kernel
theorem at_430_3 : am_at (am_m 430) 3 = some (.ifCond .ge 8, 11) := by decide +kernel
theorem at_430_6 : am_at (am_m 430) 6 = some (.lload_n 0, 0) := by decide +kernel
theorem at_430_7 : am_at (am_m 430) 7 = some (.lneg, 0) := by decide +kernel
theorem at_430_8 : am_at (am_m 430) 8 = some (.goto 4, 12) := by decide +kernel
theorem at_430_11 : am_at (am_m 430) 11 = some (.lload_n 0, 0) := by decide +kernel
theorem at_430_12 : am_at (am_m 430) 12 = some (.lstore 4, 0) := by decide +kernel
theorem at_430_14 : am_at (am_m 430) 14 = some (.lload_n 2, 0) := by decide +kernel
theorem at_430_15 : am_at (am_m 430) 15 = some (.lstore 6, 0) := by decide +kernel
theorem at_430_17 : am_at (am_m 430) 17 = some (.lload 6, 0) := by decide +kernel
theorem at_430_19 : am_at (am_m 430) 19 = some (.lconst 0, 0) := by decide +kernel
theorem at_430_20 : am_at (am_m 430) 20 = some (.lcmp, 0) := by decide +kernel
theorem at_430_21 : am_at (am_m 430) 21 = some (.ifCond .eq 21, 42) := by decide +kernel
theorem at_430_24 : am_at (am_m 430) 24 = some (.lload 4, 0) := by decide +kernel
theorem at_430_26 : am_at (am_m 430) 26 = some (.lload 6, 0) := by decide +kernel
theorem at_430_28 : am_at (am_m 430) 28 = some (.lrem, 0) := by decide +kernel
theorem at_430_29 : am_at (am_m 430) 29 = some (.lstore 8, 0) := by decide +kernel
theorem at_430_31 : am_at (am_m 430) 31 = some (.lload 6, 0) := by decide +kernel
theorem at_430_33 : am_at (am_m 430) 33 = some (.lstore 4, 0) := by decide +kernel
theorem at_430_35 : am_at (am_m 430) 35 = some (.lload 8, 0) := by decide +kernel
theorem at_430_37 : am_at (am_m 430) 37 = some (.lstore 6, 0) := by decide +kernel
theorem at_430_39 : am_at (am_m 430) 39 = some (.goto (-22), 17) := by decide +kernel
theorem at_430_42 : am_at (am_m 430) 42 = some (.lload 4, 0) := by decide +kernel
theorem at_430_44 : am_at (am_m 430) 44 = some (.lreturn, 0) := by decide +kernel
theorem at_431_0 : am_at (am_m 431) 0 = some (.aload_n 0, 0) := by decide +kernel
theorem at_431_1 : am_at (am_m 431) 1 = some (.aload_n 0, 0) := by decide +kernel
theorem at_431_2 : am_at (am_m 431) 2 = some (.iload_n 1, 0) := by decide +kernel
theorem at_431_3 : am_at (am_m 431) 3 = some (.invokevirtual 568, 358) := by decide +kernel
theorem at_431_6 : am_at (am_m 431) 6 = some (.ifCond .ne 7, 13) := by decide +kernel
theorem at_431_9 : am_at (am_m 431) 9 = some (.iconst 1, 0) := by decide +kernel
theorem at_431_10 : am_at (am_m 431) 10 = some (.goto 18, 28) := by decide +kernel
theorem at_431_13 : am_at (am_m 431) 13 = some (.iload_n 2, 0) := by decide +kernel
theorem at_431_14 : am_at (am_m 431) 14 = some (.i2l, 0) := by decide +kernel
theorem at_431_15 : am_at (am_m 431) 15 = some (.lconst 0, 0) := by decide +kernel
theorem at_431_16 : am_at (am_m 431) 16 = some (.lconst 1, 0) := by decide +kernel
theorem at_431_17 : am_at (am_m 431) 17 = some (.invokestatic 299, 327) := by decide +kernel
theorem at_431_20 : am_at (am_m 431) 20 = some (.ifCond .ne 7, 27) := by decide +kernel
theorem at_431_23 : am_at (am_m 431) 23 = some (.iconst 2, 0) := by decide +kernel
theorem at_431_24 : am_at (am_m 431) 24 = some (.goto 4, 28) := by decide +kernel
theorem at_431_27 : am_at (am_m 431) 27 = some (.iconst 0, 0) := by decide +kernel
theorem at_431_28 : am_at (am_m 431) 28 = some (.putfield 292, 3072) := by decide +kernel
theorem at_431_31 : am_at (am_m 431) 31 = some (.aload_n 0, 0) := by decide +kernel
theorem at_431_32 : am_at (am_m 431) 32 = some (.getfield 292, 3072) := by decide +kernel
theorem at_431_35 : am_at (am_m 431) 35 = some (.ifCond .le 5, 40) := by decide +kernel
theorem at_431_38 : am_at (am_m 431) 38 = some (.lconst 0, 0) := by decide +kernel
theorem at_431_39 : am_at (am_m 431) 39 = some (.lreturn, 0) := by decide +kernel
theorem at_431_40 : am_at (am_m 431) 40 = some (.aload_n 0, 0) := by decide +kernel
theorem at_431_41 : am_at (am_m 431) 41 = some (.iload_n 1, 0) := by decide +kernel
theorem at_431_42 : am_at (am_m 431) 42 = some (.invokevirtual 571, 359) := by decide +kernel
theorem at_431_45 : am_at (am_m 431) 45 = some (.aload_n 0, 0) := by decide +kernel
theorem at_431_46 : am_at (am_m 431) 46 = some (.iconst 1, 0) := by decide +kernel
theorem at_431_47 : am_at (am_m 431) 47 = some (.invokevirtual 703, 428) := by decide +kernel
theorem at_431_50 : am_at (am_m 431) 50 = some (.aload_n 0, 0) := by decide +kernel
theorem at_431_51 : am_at (am_m 431) 51 = some (.getfield 689, 3163) := by decide +kernel
theorem at_431_54 : am_at (am_m 431) 54 = some (.lstore_n 3, 0) := by decide +kernel
theorem at_431_55 : am_at (am_m 431) 55 = some (.aload_n 0, 0) := by decide +kernel
theorem at_431_56 : am_at (am_m 431) 56 = some (.getfield 693, 3164) := by decide +kernel
theorem at_431_59 : am_at (am_m 431) 59 = some (.lstore 5, 0) := by decide +kernel
theorem at_431_61 : am_at (am_m 431) 61 = some (.aload_n 0, 0) := by decide +kernel
theorem at_431_62 : am_at (am_m 431) 62 = some (.iconst 0, 0) := by decide +kernel
theorem at_431_63 : am_at (am_m 431) 63 = some (.invokevirtual 703, 428) := by decide +kernel
theorem at_431_66 : am_at (am_m 431) 66 = some (.aload_n 0, 0) := by decide +kernel
theorem at_431_67 : am_at (am_m 431) 67 = some (.lload_n 3, 0) := by decide +kernel
theorem at_431_68 : am_at (am_m 431) 68 = some (.lload 5, 0) := by decide +kernel
theorem at_431_70 : am_at (am_m 431) 70 = some (.aload_n 0, 0) := by decide +kernel
theorem at_431_71 : am_at (am_m 431) 71 = some (.getfield 689, 3163) := by decide +kernel
theorem at_431_74 : am_at (am_m 431) 74 = some (.aload_n 0, 0) := by decide +kernel
theorem at_431_75 : am_at (am_m 431) 75 = some (.getfield 693, 3164) := by decide +kernel
theorem at_431_78 : am_at (am_m 431) 78 = some (.iload_n 2, 0) := by decide +kernel
theorem at_431_79 : am_at (am_m 431) 79 = some (.invokevirtual 707, 432) := by decide +kernel
theorem at_431_82 : am_at (am_m 431) 82 = some (.lreturn, 0) := by decide +kernel
theorem at_432_0 : am_at (am_m 432) 0 = some (.aload_n 0, 0) := by decide +kernel
theorem at_432_1 : am_at (am_m 432) 1 = some (.lload_n 1, 0) := by decide +kernel
theorem at_432_2 : am_at (am_m 432) 2 = some (.lload 7, 0) := by decide +kernel
theorem at_432_4 : am_at (am_m 432) 4 = some (.lmul, 0) := by decide +kernel
theorem at_432_5 : am_at (am_m 432) 5 = some (.lload 5, 0) := by decide +kernel
theorem at_432_7 : am_at (am_m 432) 7 = some (.lload_n 3, 0) := by decide +kernel
theorem at_432_8 : am_at (am_m 432) 8 = some (.lmul, 0) := by decide +kernel
theorem at_432_9 : am_at (am_m 432) 9 = some (.lsub, 0) := by decide +kernel
theorem at_432_10 : am_at (am_m 432) 10 = some (.putfield 689, 3163) := by decide +kernel
theorem at_432_13 : am_at (am_m 432) 13 = some (.aload_n 0, 0) := by decide +kernel
theorem at_432_14 : am_at (am_m 432) 14 = some (.lload_n 3, 0) := by decide +kernel
theorem at_432_15 : am_at (am_m 432) 15 = some (.lload 7, 0) := by decide +kernel
theorem at_432_17 : am_at (am_m 432) 17 = some (.lmul, 0) := by decide +kernel
theorem at_432_18 : am_at (am_m 432) 18 = some (.putfield 693, 3164) := by decide +kernel
theorem at_432_21 : am_at (am_m 432) 21 = some (.aload_n 0, 0) := by decide +kernel
theorem at_432_22 : am_at (am_m 432) 22 = some (.invokevirtual 700, 429) := by decide +kernel
theorem at_432_25 : am_at (am_m 432) 25 = some (.iload 9, 0) := by decide +kernel
theorem at_432_27 : am_at (am_m 432) 27 = some (.ifCond .ne 10, 37) := by decide +kernel
theorem at_432_30 : am_at (am_m 432) 30 = some (.aload_n 0, 0) := by decide +kernel
theorem at_432_31 : am_at (am_m 432) 31 = some (.getfield 689, 3163) := by decide +kernel
theorem at_432_34 : am_at (am_m 432) 34 = some (.goto 7, 41) := by decide +kernel
theorem at_432_37 : am_at (am_m 432) 37 = some (.aload_n 0, 0) := by decide +kernel
theorem at_432_38 : am_at (am_m 432) 38 = some (.getfield 693, 3164) := by decide +kernel
theorem at_432_41 : am_at (am_m 432) 41 = some (.lreturn, 0) := by decide +kernel
theorem at_433_0 : am_at (am_m 433) 0 = some (.aload_n 0, 0) := by decide +kernel
theorem at_433_1 : am_at (am_m 433) 1 = some (.aload_n 0, 0) := by decide +kernel
theorem at_433_2 : am_at (am_m 433) 2 = some (.iload_n 1, 0) := by decide +kernel
theorem at_433_3 : am_at (am_m 433) 3 = some (.invokevirtual 568, 358) := by decide +kernel
theorem at_433_6 : am_at (am_m 433) 6 = some (.ifCond .eq 7, 13) := by decide +kernel
theorem at_433_9 : am_at (am_m 433) 9 = some (.iconst 0, 0) := by decide +kernel
theorem at_433_10 : am_at (am_m 433) 10 = some (.goto 4, 14) := by decide +kernel
theorem at_433_13 : am_at (am_m 433) 13 = some (.iconst 1, 0) := by decide +kernel
theorem at_433_14 : am_at (am_m 433) 14 = some (.putfield 292, 3072) := by decide +kernel
theorem at_433_17 : am_at (am_m 433) 17 = some (.aload_n 0, 0) := by decide +kernel
theorem at_433_18 : am_at (am_m 433) 18 = some (.getfield 292, 3072) := by decide +kernel
theorem at_433_21 : am_at (am_m 433) 21 = some (.ifCond .le 5, 26) := by decide +kernel
theorem at_433_24 : am_at (am_m 433) 24 = some (.iconst 0, 0) := by decide +kernel
theorem at_433_25 : am_at (am_m 433) 25 = some (.ireturn, 0) := by decide +kernel
theorem at_433_26 : am_at (am_m 433) 26 = some (.aload_n 0, 0) := by decide +kernel
theorem at_433_27 : am_at (am_m 433) 27 = some (.iload_n 1, 0) := by decide +kernel
theorem at_433_28 : am_at (am_m 433) 28 = some (.invokevirtual 571, 359) := by decide +kernel
theorem at_433_31 : am_at (am_m 433) 31 = some (.iconst 0, 0) := by decide +kernel
theorem at_433_32 : am_at (am_m 433) 32 = some (.istore_n 3, 0) := by decide +kernel
theorem at_433_33 : am_at (am_m 433) 33 = some (.iconst 0, 0) := by decide +kernel
theorem at_433_34 : am_at (am_m 433) 34 = some (.istore 4, 0) := by decide +kernel
theorem at_433_36 : am_at (am_m 433) 36 = some (.iload 4, 0) := by decide +kernel
theorem at_433_38 : am_at (am_m 433) 38 = some (.aload_n 0, 0) := by decide +kernel
theorem at_433_39 : am_at (am_m 433) 39 = some (.getfield 652, 3103) := by decide +kernel
theorem at_433_42 : am_at (am_m 433) 42 = some (.if_icmp .ge 39, 81) := by decide +kernel
theorem at_433_45 : am_at (am_m 433) 45 = some (.iload_n 3, 0) := by decide +kernel
theorem at_433_46 : am_at (am_m 433) 46 = some (.aload_n 0, 0) := by decide +kernel
theorem at_433_47 : am_at (am_m 433) 47 = some (.getfield 93, 3109) := by decide +kernel
theorem at_433_50 : am_at (am_m 433) 50 = some (.iload 4, 0) := by decide +kernel
theorem at_433_52 : am_at (am_m 433) 52 = some (.baload, 0) := by decide +kernel
theorem at_433_53 : am_at (am_m 433) 53 = some (.iload_n 2, 0) := by decide +kernel
theorem at_433_54 : am_at (am_m 433) 54 = some (.if_icmp .ne 18, 72) := by decide +kernel
theorem at_433_57 : am_at (am_m 433) 57 = some (.aload_n 0, 0) := by decide +kernel
theorem at_433_58 : am_at (am_m 433) 58 = some (.iload 4, 0) := by decide +kernel
theorem at_433_60 : am_at (am_m 433) 60 = some (.invokevirtual 686, 425) := by decide +kernel
theorem at_433_63 : am_at (am_m 433) 63 = some (.lconst 0, 0) := by decide +kernel
theorem at_433_64 : am_at (am_m 433) 64 = some (.lcmp, 0) := by decide +kernel
theorem at_433_65 : am_at (am_m 433) 65 = some (.ifCond .ne 7, 72) := by decide +kernel
theorem at_433_68 : am_at (am_m 433) 68 = some (.iconst 1, 0) := by decide +kernel
theorem at_433_69 : am_at (am_m 433) 69 = some (.goto 4, 73) := by decide +kernel
theorem at_433_72 : am_at (am_m 433) 72 = some (.iconst 0, 0) := by decide +kernel
theorem at_433_73 : am_at (am_m 433) 73 = some (.iadd, 0) := by decide +kernel
theorem at_433_74 : am_at (am_m 433) 74 = some (.istore_n 3, 0) := by decide +kernel
theorem at_433_75 : am_at (am_m 433) 75 = some (.iinc 4 1, 0) := by decide +kernel
theorem at_433_78 : am_at (am_m 433) 78 = some (.goto (-42), 36) := by decide +kernel
theorem at_433_81 : am_at (am_m 433) 81 = some (.iload_n 3, 0) := by decide +kernel
theorem at_433_82 : am_at (am_m 433) 82 = some (.ireturn, 0) := by decide +kernel
theorem at_434_0 : am_at (am_m 434) 0 = some (.aload_n 0, 0) := by decide +kernel
theorem at_434_1 : am_at (am_m 434) 1 = some (.aload_n 0, 0) := by decide +kernel
theorem at_434_2 : am_at (am_m 434) 2 = some (.iload_n 1, 0) := by decide +kernel
theorem at_434_3 : am_at (am_m 434) 3 = some (.invokevirtual 568, 358) := by decide +kernel
theorem at_434_6 : am_at (am_m 434) 6 = some (.ifCond .eq 15, 21) := by decide +kernel
theorem at_434_9 : am_at (am_m 434) 9 = some (.aload_n 0, 0) := by decide +kernel
theorem at_434_10 : am_at (am_m 434) 10 = some (.iload_n 2, 0) := by decide +kernel
theorem at_434_11 : am_at (am_m 434) 11 = some (.invokevirtual 568, 358) := by decide +kernel
theorem at_434_14 : am_at (am_m 434) 14 = some (.ifCond .eq 7, 21) := by decide +kernel
theorem at_434_17 : am_at (am_m 434) 17 = some (.iconst 0, 0) := by decide +kernel
theorem at_434_18 : am_at (am_m 434) 18 = some (.goto 4, 22) := by decide +kernel
theorem at_434_21 : am_at (am_m 434) 21 = some (.iconst 1, 0) := by decide +kernel
theorem at_434_22 : am_at (am_m 434) 22 = some (.putfield 292, 3072) := by decide +kernel
theorem at_434_25 : am_at (am_m 434) 25 = some (.aload_n 0, 0) := by decide +kernel
theorem at_434_26 : am_at (am_m 434) 26 = some (.getfield 292, 3072) := by decide +kernel
theorem at_434_29 : am_at (am_m 434) 29 = some (.ifCond .le 7, 36) := by decide +kernel
theorem at_434_32 : am_at (am_m 434) 32 = some (.iconst 0, 0) := by decide +kernel
theorem at_434_33 : am_at (am_m 434) 33 = some (.goto 9, 42) := by decide +kernel
theorem at_434_36 : am_at (am_m 434) 36 = some (.aload_n 0, 0) := by decide +kernel
theorem at_434_37 : am_at (am_m 434) 37 = some (.iload_n 1, 0) := by decide +kernel
theorem at_434_38 : am_at (am_m 434) 38 = some (.iload_n 2, 0) := by decide +kernel
theorem at_434_39 : am_at (am_m 434) 39 = some (.invokevirtual 711, 435) := by decide +kernel
theorem at_434_42 : am_at (am_m 434) 42 = some (.ireturn, 0) := by decide +kernel
theorem at_435_0 : am_at (am_m 435) 0 = some (.iload_n 1, 0) := by decide +kernel
theorem at_435_1 : am_at (am_m 435) 1 = some (.iload_n 2, 0) := by decide +kernel
theorem at_435_2 : am_at (am_m 435) 2 = some (.if_icmp .ne 5, 7) := by decide +kernel
theorem at_435_5 : am_at (am_m 435) 5 = some (.iconst 0, 0) := by decide +kernel
theorem at_435_6 : am_at (am_m 435) 6 = some (.ireturn, 0) := by decide +kernel
theorem at_435_7 : am_at (am_m 435) 7 = some (.aload_n 0, 0) := by decide +kernel
theorem at_435_8 : am_at (am_m 435) 8 = some (.iload_n 1, 0) := by decide +kernel
theorem at_435_9 : am_at (am_m 435) 9 = some (.invokevirtual 571, 359) := by decide +kernel
theorem at_435_12 : am_at (am_m 435) 12 = some (.aload_n 0, 0) := by decide +kernel
theorem at_435_13 : am_at (am_m 435) 13 = some (.iconst 0, 0) := by decide +kernel
theorem at_435_14 : am_at (am_m 435) 14 = some (.invokevirtual 703, 428) := by decide +kernel
theorem at_435_17 : am_at (am_m 435) 17 = some (.aload_n 0, 0) := by decide +kernel
theorem at_435_18 : am_at (am_m 435) 18 = some (.getfield 689, 3163) := by decide +kernel
theorem at_435_21 : am_at (am_m 435) 21 = some (.lstore_n 3, 0) := by decide +kernel
theorem at_435_22 : am_at (am_m 435) 22 = some (.aload_n 0, 0) := by decide +kernel
theorem at_435_23 : am_at (am_m 435) 23 = some (.getfield 693, 3164) := by decide +kernel
theorem at_435_26 : am_at (am_m 435) 26 = some (.lstore 5, 0) := by decide +kernel
theorem at_435_28 : am_at (am_m 435) 28 = some (.aload_n 0, 0) := by decide +kernel
theorem at_435_29 : am_at (am_m 435) 29 = some (.iload_n 2, 0) := by decide +kernel
theorem at_435_30 : am_at (am_m 435) 30 = some (.invokevirtual 571, 359) := by decide +kernel
theorem at_435_33 : am_at (am_m 435) 33 = some (.aload_n 0, 0) := by decide +kernel
theorem at_435_34 : am_at (am_m 435) 34 = some (.iconst 0, 0) := by decide +kernel
theorem at_435_35 : am_at (am_m 435) 35 = some (.invokevirtual 703, 428) := by decide +kernel
theorem at_435_38 : am_at (am_m 435) 38 = some (.lload_n 3, 0) := by decide +kernel
theorem at_435_39 : am_at (am_m 435) 39 = some (.aload_n 0, 0) := by decide +kernel
theorem at_435_40 : am_at (am_m 435) 40 = some (.getfield 693, 3164) := by decide +kernel
theorem at_435_43 : am_at (am_m 435) 43 = some (.lmul, 0) := by decide +kernel
theorem at_435_44 : am_at (am_m 435) 44 = some (.aload_n 0, 0) := by decide +kernel
theorem at_435_45 : am_at (am_m 435) 45 = some (.getfield 689, 3163) := by decide +kernel
theorem at_435_48 : am_at (am_m 435) 48 = some (.lload 5, 0) := by decide +kernel
theorem at_435_50 : am_at (am_m 435) 50 = some (.lmul, 0) := by decide +kernel
theorem at_435_51 : am_at (am_m 435) 51 = some (.lsub, 0) := by decide +kernel
theorem at_435_52 : am_at (am_m 435) 52 = some (.lstore 7, 0) := by decide +kernel
theorem at_435_54 : am_at (am_m 435) 54 = some (.lload 7, 0) := by decide +kernel
theorem at_435_56 : am_at (am_m 435) 56 = some (.lconst 0, 0) := by decide +kernel
theorem at_435_57 : am_at (am_m 435) 57 = some (.lcmp, 0) := by decide +kernel
theorem at_435_58 : am_at (am_m 435) 58 = some (.ifCond .eq 16, 74) := by decide +kernel
theorem at_435_61 : am_at (am_m 435) 61 = some (.lload 7, 0) := by decide +kernel
theorem at_435_63 : am_at (am_m 435) 63 = some (.lconst 0, 0) := by decide +kernel
theorem at_435_64 : am_at (am_m 435) 64 = some (.lcmp, 0) := by decide +kernel
theorem at_435_65 : am_at (am_m 435) 65 = some (.ifCond .ge 7, 72) := by decide +kernel
theorem at_435_68 : am_at (am_m 435) 68 = some (.iconst (-1), 0) := by decide +kernel
theorem at_435_69 : am_at (am_m 435) 69 = some (.goto 4, 73) := by decide +kernel
theorem at_435_72 : am_at (am_m 435) 72 = some (.iconst 1, 0) := by decide +kernel
theorem at_435_73 : am_at (am_m 435) 73 = some (.ireturn, 0) := by decide +kernel
theorem at_435_74 : am_at (am_m 435) 74 = some (.aload_n 0, 0) := by decide +kernel
theorem at_435_75 : am_at (am_m 435) 75 = some (.getfield 13, 3075) := by decide +kernel
theorem at_435_78 : am_at (am_m 435) 78 = some (.iload_n 1, 0) := by decide +kernel
theorem at_435_79 : am_at (am_m 435) 79 = some (.iaload, 0) := by decide +kernel
theorem at_435_80 : am_at (am_m 435) 80 = some (.aload_n 0, 0) := by decide +kernel
theorem at_435_81 : am_at (am_m 435) 81 = some (.getfield 13, 3075) := by decide +kernel
theorem at_435_84 : am_at (am_m 435) 84 = some (.iload_n 2, 0) := by decide +kernel
theorem at_435_85 : am_at (am_m 435) 85 = some (.iaload, 0) := by decide +kernel
theorem at_435_86 : am_at (am_m 435) 86 = some (.if_icmp .eq 24, 110) := by decide +kernel
theorem at_435_89 : am_at (am_m 435) 89 = some (.aload_n 0, 0) := by decide +kernel
theorem at_435_90 : am_at (am_m 435) 90 = some (.getfield 13, 3075) := by decide +kernel
theorem at_435_93 : am_at (am_m 435) 93 = some (.iload_n 1, 0) := by decide +kernel
theorem at_435_94 : am_at (am_m 435) 94 = some (.iaload, 0) := by decide +kernel
theorem at_435_95 : am_at (am_m 435) 95 = some (.aload_n 0, 0) := by decide +kernel
theorem at_435_96 : am_at (am_m 435) 96 = some (.getfield 13, 3075) := by decide +kernel
theorem at_435_99 : am_at (am_m 435) 99 = some (.iload_n 2, 0) := by decide +kernel
theorem at_435_100 : am_at (am_m 435) 100 = some (.iaload, 0) := by decide +kernel
theorem at_435_101 : am_at (am_m 435) 101 = some (.if_icmp .ge 7, 108) := by decide +kernel
theorem at_435_104 : am_at (am_m 435) 104 = some (.iconst (-1), 0) := by decide +kernel
theorem at_435_105 : am_at (am_m 435) 105 = some (.goto 4, 109) := by decide +kernel
theorem at_435_108 : am_at (am_m 435) 108 = some (.iconst 1, 0) := by decide +kernel
theorem at_435_109 : am_at (am_m 435) 109 = some (.ireturn, 0) := by decide +kernel
theorem at_435_110 : am_at (am_m 435) 110 = some (.iload_n 1, 0) := by decide +kernel
theorem at_435_111 : am_at (am_m 435) 111 = some (.iload_n 2, 0) := by decide +kernel
theorem at_435_112 : am_at (am_m 435) 112 = some (.if_icmp .ge 7, 119) := by decide +kernel
theorem at_435_115 : am_at (am_m 435) 115 = some (.iconst (-1), 0) := by decide +kernel
theorem at_435_116 : am_at (am_m 435) 116 = some (.goto 4, 120) := by decide +kernel
theorem at_435_119 : am_at (am_m 435) 119 = some (.iconst 1, 0) := by decide +kernel
theorem at_435_120 : am_at (am_m 435) 120 = some (.ireturn, 0) := by decide +kernel
theorem at_436_0 : am_at (am_m 436) 0 = some (.aload_n 0, 0) := by decide +kernel
theorem at_436_1 : am_at (am_m 436) 1 = some (.iload_n 1, 0) := by decide +kernel
theorem at_436_2 : am_at (am_m 436) 2 = some (.iload_n 2, 0) := by decide +kernel
theorem at_436_3 : am_at (am_m 436) 3 = some (.invokestatic 720, 437) := by decide +kernel
theorem at_436_6 : am_at (am_m 436) 6 = some (.ifCond .eq 7, 13) := by decide +kernel
theorem at_436_9 : am_at (am_m 436) 9 = some (.iconst 0, 0) := by decide +kernel
theorem at_436_10 : am_at (am_m 436) 10 = some (.goto 4, 14) := by decide +kernel
theorem at_436_13 : am_at (am_m 436) 13 = some (.iconst 1, 0) := by decide +kernel
theorem at_436_14 : am_at (am_m 436) 14 = some (.putfield 292, 3072) := by decide +kernel
theorem at_436_17 : am_at (am_m 436) 17 = some (.aload_n 0, 0) := by decide +kernel
theorem at_436_18 : am_at (am_m 436) 18 = some (.getfield 292, 3072) := by decide +kernel
theorem at_436_21 : am_at (am_m 436) 21 = some (.ifCond .le 5, 26) := by decide +kernel
theorem at_436_24 : am_at (am_m 436) 24 = some (.iconst 0, 0) := by decide +kernel
theorem at_436_25 : am_at (am_m 436) 25 = some (.ireturn, 0) := by decide +kernel
theorem at_436_26 : am_at (am_m 436) 26 = some (.aload_n 0, 0) := by decide +kernel
theorem at_436_27 : am_at (am_m 436) 27 = some (.getfield 106, 3114) := by decide +kernel
theorem at_436_30 : am_at (am_m 436) 30 = some (.iload_n 1, 0) := by decide +kernel
theorem at_436_31 : am_at (am_m 436) 31 = some (.iaload, 0) := by decide +kernel
theorem at_436_32 : am_at (am_m 436) 32 = some (.istore_n 3, 0) := by decide +kernel
theorem at_436_33 : am_at (am_m 436) 33 = some (.aload_n 0, 0) := by decide +kernel
theorem at_436_34 : am_at (am_m 436) 34 = some (.getfield 106, 3114) := by decide +kernel
theorem at_436_37 : am_at (am_m 436) 37 = some (.iload_n 1, 0) := by decide +kernel
theorem at_436_38 : am_at (am_m 436) 38 = some (.iload_n 2, 0) := by decide +kernel
theorem at_436_39 : am_at (am_m 436) 39 = some (.iastore, 0) := by decide +kernel
theorem at_436_40 : am_at (am_m 436) 40 = some (.iload_n 3, 0) := by decide +kernel
theorem at_436_41 : am_at (am_m 436) 41 = some (.ireturn, 0) := by decide +kernel
theorem at_437_0 : am_at (am_m 437) 0 = some (.iload_n 0, 0) := by decide +kernel
theorem at_437_1 : am_at (am_m 437) 1 = some (.ifCond .ne 17, 18) := by decide +kernel
theorem at_437_4 : am_at (am_m 437) 4 = some (.iload_n 1, 0) := by decide +kernel
theorem at_437_5 : am_at (am_m 437) 5 = some (.i2l, 0) := by decide +kernel
theorem at_437_6 : am_at (am_m 437) 6 = some (.ldc2_w 588, 1) := by decide +kernel
theorem at_437_9 : am_at (am_m 437) 9 = some (.ldc2_w 714, 58) := by decide +kernel
theorem at_437_12 : am_at (am_m 437) 12 = some (.invokestatic 299, 327) := by decide +kernel
theorem at_437_15 : am_at (am_m 437) 15 = some (.goto 76, 91) := by decide +kernel
theorem at_437_18 : am_at (am_m 437) 18 = some (.iload_n 0, 0) := by decide +kernel
theorem at_437_19 : am_at (am_m 437) 19 = some (.iconst 1, 0) := by decide +kernel
theorem at_437_20 : am_at (am_m 437) 20 = some (.if_icmp .ne 15, 35) := by decide +kernel
theorem at_437_23 : am_at (am_m 437) 23 = some (.iload_n 1, 0) := by decide +kernel
theorem at_437_24 : am_at (am_m 437) 24 = some (.i2l, 0) := by decide +kernel
theorem at_437_25 : am_at (am_m 437) 25 = some (.lconst 0, 0) := by decide +kernel
theorem at_437_26 : am_at (am_m 437) 26 = some (.ldc2_w 580, 53) := by decide +kernel
theorem at_437_29 : am_at (am_m 437) 29 = some (.invokestatic 299, 327) := by decide +kernel
theorem at_437_32 : am_at (am_m 437) 32 = some (.goto 59, 91) := by decide +kernel
theorem at_437_35 : am_at (am_m 437) 35 = some (.iload_n 0, 0) := by decide +kernel
theorem at_437_36 : am_at (am_m 437) 36 = some (.iconst 2, 0) := by decide +kernel
theorem at_437_37 : am_at (am_m 437) 37 = some (.if_icmp .ne 15, 52) := by decide +kernel
theorem at_437_40 : am_at (am_m 437) 40 = some (.iload_n 1, 0) := by decide +kernel
theorem at_437_41 : am_at (am_m 437) 41 = some (.i2l, 0) := by decide +kernel
theorem at_437_42 : am_at (am_m 437) 42 = some (.lconst 1, 0) := by decide +kernel
theorem at_437_43 : am_at (am_m 437) 43 = some (.ldc2_w 716, 59) := by decide +kernel
theorem at_437_46 : am_at (am_m 437) 46 = some (.invokestatic 299, 327) := by decide +kernel
theorem at_437_49 : am_at (am_m 437) 49 = some (.goto 42, 91) := by decide +kernel
theorem at_437_52 : am_at (am_m 437) 52 = some (.iload_n 0, 0) := by decide +kernel
theorem at_437_53 : am_at (am_m 437) 53 = some (.iconst 3, 0) := by decide +kernel
theorem at_437_54 : am_at (am_m 437) 54 = some (.if_icmp .ne 15, 69) := by decide +kernel
theorem at_437_57 : am_at (am_m 437) 57 = some (.iload_n 1, 0) := by decide +kernel
theorem at_437_58 : am_at (am_m 437) 58 = some (.i2l, 0) := by decide +kernel
theorem at_437_59 : am_at (am_m 437) 59 = some (.lconst 0, 0) := by decide +kernel
theorem at_437_60 : am_at (am_m 437) 60 = some (.ldc2_w 718, 60) := by decide +kernel
theorem at_437_63 : am_at (am_m 437) 63 = some (.invokestatic 299, 327) := by decide +kernel
theorem at_437_66 : am_at (am_m 437) 66 = some (.goto 25, 91) := by decide +kernel
theorem at_437_69 : am_at (am_m 437) 69 = some (.iload_n 0, 0) := by decide +kernel
theorem at_437_70 : am_at (am_m 437) 70 = some (.iconst 4, 0) := by decide +kernel
theorem at_437_71 : am_at (am_m 437) 71 = some (.if_icmp .ne 19, 90) := by decide +kernel
theorem at_437_74 : am_at (am_m 437) 74 = some (.iload_n 1, 0) := by decide +kernel
theorem at_437_75 : am_at (am_m 437) 75 = some (.i2l, 0) := by decide +kernel
theorem at_437_76 : am_at (am_m 437) 76 = some (.lconst 0, 0) := by decide +kernel
theorem at_437_77 : am_at (am_m 437) 77 = some (.ldc2_w 522, 51) := by decide +kernel
theorem at_437_80 : am_at (am_m 437) 80 = some (.invokestatic 299, 327) := by decide +kernel
theorem at_437_83 : am_at (am_m 437) 83 = some (.ifCond .eq 7, 90) := by decide +kernel
theorem at_437_86 : am_at (am_m 437) 86 = some (.iconst 1, 0) := by decide +kernel
theorem at_437_87 : am_at (am_m 437) 87 = some (.goto 4, 91) := by decide +kernel
theorem at_437_90 : am_at (am_m 437) 90 = some (.iconst 0, 0) := by decide +kernel
theorem at_437_91 : am_at (am_m 437) 91 = some (.ireturn, 0) := by decide +kernel
theorem at_438_0 : am_at (am_m 438) 0 = some (.aload_n 0, 0) := by decide +kernel
theorem at_438_1 : am_at (am_m 438) 1 = some (.aload_n 0, 0) := by decide +kernel
theorem at_438_2 : am_at (am_m 438) 2 = some (.iload_n 1, 0) := by decide +kernel
theorem at_438_3 : am_at (am_m 438) 3 = some (.invokevirtual 568, 358) := by decide +kernel
theorem at_438_6 : am_at (am_m 438) 6 = some (.ifCond .ne 7, 13) := by decide +kernel
theorem at_438_9 : am_at (am_m 438) 9 = some (.iconst 1, 0) := by decide +kernel
theorem at_438_10 : am_at (am_m 438) 10 = some (.goto 20, 30) := by decide +kernel
theorem at_438_13 : am_at (am_m 438) 13 = some (.iload_n 2, 0) := by decide +kernel
theorem at_438_14 : am_at (am_m 438) 14 = some (.i2l, 0) := by decide +kernel
theorem at_438_15 : am_at (am_m 438) 15 = some (.lconst 0, 0) := by decide +kernel
theorem at_438_16 : am_at (am_m 438) 16 = some (.ldc2_w 529, 48) := by decide +kernel
theorem at_438_19 : am_at (am_m 438) 19 = some (.invokestatic 299, 327) := by decide +kernel
theorem at_438_22 : am_at (am_m 438) 22 = some (.ifCond .ne 7, 29) := by decide +kernel
theorem at_438_25 : am_at (am_m 438) 25 = some (.iconst 2, 0) := by decide +kernel
theorem at_438_26 : am_at (am_m 438) 26 = some (.goto 4, 30) := by decide +kernel
theorem at_438_29 : am_at (am_m 438) 29 = some (.iconst 0, 0) := by decide +kernel
theorem at_438_30 : am_at (am_m 438) 30 = some (.putfield 292, 3072) := by decide +kernel
theorem at_438_33 : am_at (am_m 438) 33 = some (.aload_n 0, 0) := by decide +kernel
theorem at_438_34 : am_at (am_m 438) 34 = some (.getfield 292, 3072) := by decide +kernel
theorem at_438_37 : am_at (am_m 438) 37 = some (.ifCond .le 5, 42) := by decide +kernel
theorem at_438_40 : am_at (am_m 438) 40 = some (.iconst 0, 0) := by decide +kernel
theorem at_438_41 : am_at (am_m 438) 41 = some (.ireturn, 0) := by decide +kernel
theorem at_438_42 : am_at (am_m 438) 42 = some (.aload_n 0, 0) := by decide +kernel
theorem at_438_43 : am_at (am_m 438) 43 = some (.iload_n 1, 0) := by decide +kernel
theorem at_438_44 : am_at (am_m 438) 44 = some (.invokevirtual 635, 391) := by decide +kernel
theorem at_438_47 : am_at (am_m 438) 47 = some (.aload_n 0, 0) := by decide +kernel
theorem at_438_48 : am_at (am_m 438) 48 = some (.iload_n 2, 0) := by decide +kernel
theorem at_438_49 : am_at (am_m 438) 49 = some (.iconst (-1), 0) := by decide +kernel
theorem at_438_50 : am_at (am_m 438) 50 = some (.invokevirtual 817, 439) := by decide +kernel
theorem at_438_53 : am_at (am_m 438) 53 = some (.ireturn, 0) := by decide +kernel
theorem at_439_0 : am_at (am_m 439) 0 = some (.aload_n 0, 0) := by decide +kernel
theorem at_439_1 : am_at (am_m 439) 1 = some (.iload_n 2, 0) := by decide +kernel
theorem at_439_2 : am_at (am_m 439) 2 = some (.putfield 729, 3165) := by decide +kernel
theorem at_439_5 : am_at (am_m 439) 5 = some (.aload_n 0, 0) := by decide +kernel
theorem at_439_6 : am_at (am_m 439) 6 = some (.iconst 0, 0) := by decide +kernel
theorem at_439_7 : am_at (am_m 439) 7 = some (.putfield 726, 3166) := by decide +kernel
theorem at_439_10 : am_at (am_m 439) 10 = some (.aload_n 0, 0) := by decide +kernel
theorem at_439_11 : am_at (am_m 439) 11 = some (.iconst 0, 0) := by decide +kernel
theorem at_439_12 : am_at (am_m 439) 12 = some (.putfield 732, 3167) := by decide +kernel
theorem at_439_15 : am_at (am_m 439) 15 = some (.bipush 10, 0) := by decide +kernel
theorem at_439_17 : am_at (am_m 439) 17 = some (.aload_n 0, 0) := by decide +kernel
theorem at_439_18 : am_at (am_m 439) 18 = some (.getfield 312, 3092) := by decide +kernel
theorem at_439_21 : am_at (am_m 439) 21 = some (.imul, 0) := by decide +kernel
theorem at_439_22 : am_at (am_m 439) 22 = some (.iload_n 1, 0) := by decide +kernel
theorem at_439_23 : am_at (am_m 439) 23 = some (.iadd, 0) := by decide +kernel
theorem at_439_24 : am_at (am_m 439) 24 = some (.tableswitch 246 0 32 #[148, 155, 162, 169, 246, 246, 246, 246, 246, 246, 148, 176, 183, 190, 246, 246, 246, 246, 246, 246, 197, 204, 211, 218, 246, 246, 246, 246, 246, 246, 225, 232, 239], 0) := by decide +kernel
theorem at_439_172 : am_at (am_m 439) 172 = some (.aload_n 0, 0) := by decide +kernel
theorem at_439_173 : am_at (am_m 439) 173 = some (.invokevirtual 772, 440) := by decide +kernel
theorem at_439_176 : am_at (am_m 439) 176 = some (.goto 98, 274) := by decide +kernel
theorem at_439_179 : am_at (am_m 439) 179 = some (.aload_n 0, 0) := by decide +kernel
theorem at_439_180 : am_at (am_m 439) 180 = some (.invokevirtual 775, 447) := by decide +kernel
theorem at_439_183 : am_at (am_m 439) 183 = some (.goto 91, 274) := by decide +kernel
theorem at_439_186 : am_at (am_m 439) 186 = some (.aload_n 0, 0) := by decide +kernel
theorem at_439_187 : am_at (am_m 439) 187 = some (.invokevirtual 778, 449) := by decide +kernel
theorem at_439_190 : am_at (am_m 439) 190 = some (.goto 84, 274) := by decide +kernel
theorem at_439_193 : am_at (am_m 439) 193 = some (.aload_n 0, 0) := by decide +kernel
theorem at_439_194 : am_at (am_m 439) 194 = some (.invokevirtual 781, 452) := by decide +kernel
theorem at_439_197 : am_at (am_m 439) 197 = some (.goto 77, 274) := by decide +kernel
theorem at_439_200 : am_at (am_m 439) 200 = some (.aload_n 0, 0) := by decide +kernel
theorem at_439_201 : am_at (am_m 439) 201 = some (.invokevirtual 784, 453) := by decide +kernel
theorem at_439_204 : am_at (am_m 439) 204 = some (.goto 70, 274) := by decide +kernel
theorem at_439_207 : am_at (am_m 439) 207 = some (.aload_n 0, 0) := by decide +kernel
theorem at_439_208 : am_at (am_m 439) 208 = some (.invokevirtual 787, 455) := by decide +kernel
theorem at_439_211 : am_at (am_m 439) 211 = some (.goto 63, 274) := by decide +kernel
theorem at_439_214 : am_at (am_m 439) 214 = some (.aload_n 0, 0) := by decide +kernel
theorem at_439_215 : am_at (am_m 439) 215 = some (.invokevirtual 790, 457) := by decide +kernel
theorem at_439_218 : am_at (am_m 439) 218 = some (.goto 56, 274) := by decide +kernel
theorem at_439_221 : am_at (am_m 439) 221 = some (.aload_n 0, 0) := by decide +kernel
theorem at_439_222 : am_at (am_m 439) 222 = some (.invokevirtual 793, 460) := by decide +kernel
theorem at_439_225 : am_at (am_m 439) 225 = some (.goto 49, 274) := by decide +kernel
theorem at_439_228 : am_at (am_m 439) 228 = some (.aload_n 0, 0) := by decide +kernel
theorem at_439_229 : am_at (am_m 439) 229 = some (.invokevirtual 796, 462) := by decide +kernel
theorem at_439_232 : am_at (am_m 439) 232 = some (.goto 42, 274) := by decide +kernel
theorem at_439_235 : am_at (am_m 439) 235 = some (.aload_n 0, 0) := by decide +kernel
theorem at_439_236 : am_at (am_m 439) 236 = some (.invokevirtual 799, 463) := by decide +kernel
theorem at_439_239 : am_at (am_m 439) 239 = some (.goto 35, 274) := by decide +kernel
theorem at_439_242 : am_at (am_m 439) 242 = some (.aload_n 0, 0) := by decide +kernel
theorem at_439_243 : am_at (am_m 439) 243 = some (.invokevirtual 802, 464) := by decide +kernel
theorem at_439_246 : am_at (am_m 439) 246 = some (.goto 28, 274) := by decide +kernel
theorem at_439_249 : am_at (am_m 439) 249 = some (.aload_n 0, 0) := by decide +kernel
theorem at_439_250 : am_at (am_m 439) 250 = some (.invokevirtual 805, 465) := by decide +kernel
theorem at_439_253 : am_at (am_m 439) 253 = some (.goto 21, 274) := by decide +kernel
theorem at_439_256 : am_at (am_m 439) 256 = some (.aload_n 0, 0) := by decide +kernel
theorem at_439_257 : am_at (am_m 439) 257 = some (.invokevirtual 808, 466) := by decide +kernel
theorem at_439_260 : am_at (am_m 439) 260 = some (.goto 14, 274) := by decide +kernel
theorem at_439_263 : am_at (am_m 439) 263 = some (.aload_n 0, 0) := by decide +kernel
theorem at_439_264 : am_at (am_m 439) 264 = some (.invokevirtual 811, 467) := by decide +kernel
theorem at_439_267 : am_at (am_m 439) 267 = some (.goto 7, 274) := by decide +kernel
theorem at_439_270 : am_at (am_m 439) 270 = some (.aload_n 0, 0) := by decide +kernel
theorem at_439_271 : am_at (am_m 439) 271 = some (.invokevirtual 814, 468) := by decide +kernel
theorem at_439_274 : am_at (am_m 439) 274 = some (.aload_n 0, 0) := by decide +kernel
theorem at_439_275 : am_at (am_m 439) 275 = some (.getfield 726, 3166) := by decide +kernel
theorem at_439_278 : am_at (am_m 439) 278 = some (.ireturn, 0) := by decide +kernel
theorem at_440_0 : am_at (am_m 440) 0 = some (.iconst 0, 0) := by decide +kernel
theorem at_440_1 : am_at (am_m 440) 1 = some (.istore_n 1, 0) := by decide +kernel
theorem at_440_2 : am_at (am_m 440) 2 = some (.iload_n 1, 0) := by decide +kernel
theorem at_440_3 : am_at (am_m 440) 3 = some (.aload_n 0, 0) := by decide +kernel
theorem at_440_4 : am_at (am_m 440) 4 = some (.getfield 315, 3090) := by decide +kernel
theorem at_440_7 : am_at (am_m 440) 7 = some (.if_icmp .ge 89, 96) := by decide +kernel
theorem at_440_10 : am_at (am_m 440) 10 = some (.aload_n 0, 0) := by decide +kernel
theorem at_440_11 : am_at (am_m 440) 11 = some (.getfield 732, 3167) := by decide +kernel
theorem at_440_14 : am_at (am_m 440) 14 = some (.ifCond .ne 82, 96) := by decide +kernel
theorem at_440_17 : am_at (am_m 440) 17 = some (.aload_n 0, 0) := by decide +kernel
theorem at_440_18 : am_at (am_m 440) 18 = some (.getfield 54, 3094) := by decide +kernel
theorem at_440_21 : am_at (am_m 440) 21 = some (.iload_n 1, 0) := by decide +kernel
theorem at_440_22 : am_at (am_m 440) 22 = some (.iaload, 0) := by decide +kernel
theorem at_440_23 : am_at (am_m 440) 23 = some (.istore_n 2, 0) := by decide +kernel
theorem at_440_24 : am_at (am_m 440) 24 = some (.aload_n 0, 0) := by decide +kernel
theorem at_440_25 : am_at (am_m 440) 25 = some (.getfield 51, 3093) := by decide +kernel
theorem at_440_28 : am_at (am_m 440) 28 = some (.iload_n 1, 0) := by decide +kernel
theorem at_440_29 : am_at (am_m 440) 29 = some (.iaload, 0) := by decide +kernel
theorem at_440_30 : am_at (am_m 440) 30 = some (.ifCond .ne 60, 90) := by decide +kernel
theorem at_440_33 : am_at (am_m 440) 33 = some (.aload_n 0, 0) := by decide +kernel
theorem at_440_34 : am_at (am_m 440) 34 = some (.iload_n 1, 0) := by decide +kernel
theorem at_440_35 : am_at (am_m 440) 35 = some (.iload_n 2, 0) := by decide +kernel
theorem at_440_36 : am_at (am_m 440) 36 = some (.iconst 1, 0) := by decide +kernel
theorem at_440_37 : am_at (am_m 440) 37 = some (.iadd, 0) := by decide +kernel
theorem at_440_38 : am_at (am_m 440) 38 = some (.invokevirtual 744, 441) := by decide +kernel
theorem at_440_41 : am_at (am_m 440) 41 = some (.ifCond .ne 49, 90) := by decide +kernel
theorem at_440_44 : am_at (am_m 440) 44 = some (.aload_n 0, 0) := by decide +kernel
theorem at_440_45 : am_at (am_m 440) 45 = some (.iload_n 1, 0) := by decide +kernel
theorem at_440_46 : am_at (am_m 440) 46 = some (.iload_n 2, 0) := by decide +kernel
theorem at_440_47 : am_at (am_m 440) 47 = some (.iconst 1, 0) := by decide +kernel
theorem at_440_48 : am_at (am_m 440) 48 = some (.isub, 0) := by decide +kernel
theorem at_440_49 : am_at (am_m 440) 49 = some (.invokevirtual 744, 441) := by decide +kernel
theorem at_440_52 : am_at (am_m 440) 52 = some (.ifCond .ne 38, 90) := by decide +kernel
theorem at_440_55 : am_at (am_m 440) 55 = some (.aload_n 0, 0) := by decide +kernel
theorem at_440_56 : am_at (am_m 440) 56 = some (.iload_n 1, 0) := by decide +kernel
theorem at_440_57 : am_at (am_m 440) 57 = some (.iload_n 2, 0) := by decide +kernel
theorem at_440_58 : am_at (am_m 440) 58 = some (.bipush 10, 0) := by decide +kernel
theorem at_440_60 : am_at (am_m 440) 60 = some (.iadd, 0) := by decide +kernel
theorem at_440_61 : am_at (am_m 440) 61 = some (.invokevirtual 744, 441) := by decide +kernel
theorem at_440_64 : am_at (am_m 440) 64 = some (.ifCond .ne 26, 90) := by decide +kernel
theorem at_440_67 : am_at (am_m 440) 67 = some (.aload_n 0, 0) := by decide +kernel
theorem at_440_68 : am_at (am_m 440) 68 = some (.iload_n 1, 0) := by decide +kernel
theorem at_440_69 : am_at (am_m 440) 69 = some (.iload_n 2, 0) := by decide +kernel
theorem at_440_70 : am_at (am_m 440) 70 = some (.bipush 10, 0) := by decide +kernel
theorem at_440_72 : am_at (am_m 440) 72 = some (.isub, 0) := by decide +kernel
theorem at_440_73 : am_at (am_m 440) 73 = some (.invokevirtual 744, 441) := by decide +kernel
theorem at_440_76 : am_at (am_m 440) 76 = some (.ifCond .ne 14, 90) := by decide +kernel
theorem at_440_79 : am_at (am_m 440) 79 = some (.aload_n 0, 0) := by decide +kernel
theorem at_440_80 : am_at (am_m 440) 80 = some (.aload_n 0, 0) := by decide +kernel
theorem at_440_81 : am_at (am_m 440) 81 = some (.iload_n 1, 0) := by decide +kernel
theorem at_440_82 : am_at (am_m 440) 82 = some (.iload_n 2, 0) := by decide +kernel
theorem at_440_83 : am_at (am_m 440) 83 = some (.ineg, 0) := by decide +kernel
theorem at_440_84 : am_at (am_m 440) 84 = some (.invokevirtual 744, 441) := by decide +kernel
theorem at_440_87 : am_at (am_m 440) 87 = some (.putfield 732, 3167) := by decide +kernel
theorem at_440_90 : am_at (am_m 440) 90 = some (.iinc 1 1, 0) := by decide +kernel
theorem at_440_93 : am_at (am_m 440) 93 = some (.goto (-91), 2) := by decide +kernel
theorem at_440_96 : am_at (am_m 440) 96 = some (.return_, 0) := by decide +kernel
theorem at_441_0 : am_at (am_m 441) 0 = some (.iload_n 2, 0) := by decide +kernel
theorem at_441_1 : am_at (am_m 441) 1 = some (.i2l, 0) := by decide +kernel
theorem at_441_2 : am_at (am_m 441) 2 = some (.ldc2_w 735, 61) := by decide +kernel
theorem at_441_5 : am_at (am_m 441) 5 = some (.ldc2_w 737, 62) := by decide +kernel
theorem at_441_8 : am_at (am_m 441) 8 = some (.invokestatic 299, 327) := by decide +kernel
theorem at_441_11 : am_at (am_m 441) 11 = some (.ifCond .eq 13, 24) := by decide +kernel
theorem at_441_14 : am_at (am_m 441) 14 = some (.iload_n 2, 0) := by decide +kernel
theorem at_441_15 : am_at (am_m 441) 15 = some (.aload_n 0, 0) := by decide +kernel
theorem at_441_16 : am_at (am_m 441) 16 = some (.getfield 54, 3094) := by decide +kernel
theorem at_441_19 : am_at (am_m 441) 19 = some (.iload_n 1, 0) := by decide +kernel
theorem at_441_20 : am_at (am_m 441) 20 = some (.iaload, 0) := by decide +kernel
theorem at_441_21 : am_at (am_m 441) 21 = some (.if_icmp .ne 5, 26) := by decide +kernel
theorem at_441_24 : am_at (am_m 441) 24 = some (.iconst 0, 0) := by decide +kernel
theorem at_441_25 : am_at (am_m 441) 25 = some (.ireturn, 0) := by decide +kernel
theorem at_441_26 : am_at (am_m 441) 26 = some (.aload_n 0, 0) := by decide +kernel
theorem at_441_27 : am_at (am_m 441) 27 = some (.invokevirtual 739, 442) := by decide +kernel
theorem at_441_30 : am_at (am_m 441) 30 = some (.aload_n 0, 0) := by decide +kernel
theorem at_441_31 : am_at (am_m 441) 31 = some (.getfield 48, 3089) := by decide +kernel
theorem at_441_34 : am_at (am_m 441) 34 = some (.iload_n 1, 0) := by decide +kernel
theorem at_441_35 : am_at (am_m 441) 35 = some (.iload_n 2, 0) := by decide +kernel
theorem at_441_36 : am_at (am_m 441) 36 = some (.iastore, 0) := by decide +kernel
theorem at_441_37 : am_at (am_m 441) 37 = some (.aload_n 0, 0) := by decide +kernel
theorem at_441_38 : am_at (am_m 441) 38 = some (.invokevirtual 742, 444) := by decide +kernel
theorem at_441_41 : am_at (am_m 441) 41 = some (.ireturn, 0) := by decide +kernel
theorem at_442_0 : am_at (am_m 442) 0 = some (.aload_n 0, 0) := by decide +kernel
theorem at_442_1 : am_at (am_m 442) 1 = some (.aload_n 0, 0) := by decide +kernel
theorem at_442_2 : am_at (am_m 442) 2 = some (.getfield 312, 3092) := by decide +kernel
theorem at_442_5 : am_at (am_m 442) 5 = some (.putfield 303, 3085) := by decide +kernel
theorem at_442_8 : am_at (am_m 442) 8 = some (.aload_n 0, 0) := by decide +kernel
theorem at_442_9 : am_at (am_m 442) 9 = some (.iconst 0, 0) := by decide +kernel
theorem at_442_10 : am_at (am_m 442) 10 = some (.putfield 306, 3086) := by decide +kernel
theorem at_442_13 : am_at (am_m 442) 13 = some (.aload_n 0, 0) := by decide +kernel
theorem at_442_14 : am_at (am_m 442) 14 = some (.aload_n 0, 0) := by decide +kernel
theorem at_442_15 : am_at (am_m 442) 15 = some (.getfield 318, 3091) := by decide +kernel
theorem at_442_18 : am_at (am_m 442) 18 = some (.putfield 309, 3087) := by decide +kernel
theorem at_442_21 : am_at (am_m 442) 21 = some (.aload_n 0, 0) := by decide +kernel
theorem at_442_22 : am_at (am_m 442) 22 = some (.iconst 0, 0) := by decide +kernel
theorem at_442_23 : am_at (am_m 442) 23 = some (.aload_n 0, 0) := by decide +kernel
theorem at_442_24 : am_at (am_m 442) 24 = some (.getfield 315, 3090) := by decide +kernel
theorem at_442_27 : am_at (am_m 442) 27 = some (.invokevirtual 331, 443) := by decide +kernel
theorem at_442_30 : am_at (am_m 442) 30 = some (.return_, 0) := by decide +kernel
theorem at_443_0 : am_at (am_m 443) 0 = some (.iload_n 1, 0) := by decide +kernel
theorem at_443_1 : am_at (am_m 443) 1 = some (.istore_n 3, 0) := by decide +kernel
theorem at_443_2 : am_at (am_m 443) 2 = some (.iload_n 3, 0) := by decide +kernel
theorem at_443_3 : am_at (am_m 443) 3 = some (.iload_n 2, 0) := by decide +kernel
theorem at_443_4 : am_at (am_m 443) 4 = some (.if_icmp .ge 25, 29) := by decide +kernel
theorem at_443_7 : am_at (am_m 443) 7 = some (.aload_n 0, 0) := by decide +kernel
theorem at_443_8 : am_at (am_m 443) 8 = some (.aload_n 0, 0) := by decide +kernel
theorem at_443_9 : am_at (am_m 443) 9 = some (.getfield 51, 3093) := by decide +kernel
theorem at_443_12 : am_at (am_m 443) 12 = some (.iload_n 3, 0) := by decide +kernel
theorem at_443_13 : am_at (am_m 443) 13 = some (.iaload, 0) := by decide +kernel
theorem at_443_14 : am_at (am_m 443) 14 = some (.aload_n 0, 0) := by decide +kernel
theorem at_443_15 : am_at (am_m 443) 15 = some (.getfield 54, 3094) := by decide +kernel
theorem at_443_18 : am_at (am_m 443) 18 = some (.iload_n 3, 0) := by decide +kernel
theorem at_443_19 : am_at (am_m 443) 19 = some (.iaload, 0) := by decide +kernel
theorem at_443_20 : am_at (am_m 443) 20 = some (.invokevirtual 335, 335) := by decide +kernel
theorem at_443_23 : am_at (am_m 443) 23 = some (.iinc 3 1, 0) := by decide +kernel
theorem at_443_26 : am_at (am_m 443) 26 = some (.goto (-24), 2) := by decide +kernel
theorem at_443_29 : am_at (am_m 443) 29 = some (.return_, 0) := by decide +kernel
theorem at_444_0 : am_at (am_m 444) 0 = some (.aload_n 0, 0) := by decide +kernel
theorem at_444_1 : am_at (am_m 444) 1 = some (.invokevirtual 723, 445) := by decide +kernel
theorem at_444_4 : am_at (am_m 444) 4 = some (.ifCond .ne 5, 9) := by decide +kernel
theorem at_444_7 : am_at (am_m 444) 7 = some (.iconst 0, 0) := by decide +kernel
theorem at_444_8 : am_at (am_m 444) 8 = some (.ireturn, 0) := by decide +kernel
theorem at_444_9 : am_at (am_m 444) 9 = some (.aload_n 0, 0) := by decide +kernel
theorem at_444_10 : am_at (am_m 444) 10 = some (.dup, 0) := by decide +kernel
theorem at_444_11 : am_at (am_m 444) 11 = some (.getfield 726, 3166) := by decide +kernel
theorem at_444_14 : am_at (am_m 444) 14 = some (.iconst 1, 0) := by decide +kernel
theorem at_444_15 : am_at (am_m 444) 15 = some (.iadd, 0) := by decide +kernel
theorem at_444_16 : am_at (am_m 444) 16 = some (.putfield 726, 3166) := by decide +kernel
theorem at_444_19 : am_at (am_m 444) 19 = some (.aload_n 0, 0) := by decide +kernel
theorem at_444_20 : am_at (am_m 444) 20 = some (.aload_n 0, 0) := by decide +kernel
theorem at_444_21 : am_at (am_m 444) 21 = some (.getfield 726, 3166) := by decide +kernel
theorem at_444_24 : am_at (am_m 444) 24 = some (.iconst 1, 0) := by decide +kernel
theorem at_444_25 : am_at (am_m 444) 25 = some (.isub, 0) := by decide +kernel
theorem at_444_26 : am_at (am_m 444) 26 = some (.aload_n 0, 0) := by decide +kernel
theorem at_444_27 : am_at (am_m 444) 27 = some (.getfield 729, 3165) := by decide +kernel
theorem at_444_30 : am_at (am_m 444) 30 = some (.if_icmp .ne 7, 37) := by decide +kernel
theorem at_444_33 : am_at (am_m 444) 33 = some (.iconst 1, 0) := by decide +kernel
theorem at_444_34 : am_at (am_m 444) 34 = some (.goto 4, 38) := by decide +kernel
theorem at_444_37 : am_at (am_m 444) 37 = some (.iconst 0, 0) := by decide +kernel
theorem at_444_38 : am_at (am_m 444) 38 = some (.putfield 732, 3167) := by decide +kernel
theorem at_444_41 : am_at (am_m 444) 41 = some (.aload_n 0, 0) := by decide +kernel
theorem at_444_42 : am_at (am_m 444) 42 = some (.getfield 732, 3167) := by decide +kernel
theorem at_444_45 : am_at (am_m 444) 45 = some (.ireturn, 0) := by decide +kernel
theorem at_445_0 : am_at (am_m 445) 0 = some (.aload_n 0, 0) := by decide +kernel
theorem at_445_1 : am_at (am_m 445) 1 = some (.getfield 303, 3085) := by decide +kernel
theorem at_445_4 : am_at (am_m 445) 4 = some (.ifCond .ne 10, 14) := by decide +kernel
theorem at_445_7 : am_at (am_m 445) 7 = some (.aload_n 0, 0) := by decide +kernel
theorem at_445_8 : am_at (am_m 445) 8 = some (.iconst 0, 0) := by decide +kernel
theorem at_445_9 : am_at (am_m 445) 9 = some (.iconst 0, 0) := by decide +kernel
theorem at_445_10 : am_at (am_m 445) 10 = some (.invokevirtual 355, 446) := by decide +kernel
theorem at_445_13 : am_at (am_m 445) 13 = some (.ireturn, 0) := by decide +kernel
theorem at_445_14 : am_at (am_m 445) 14 = some (.aload_n 0, 0) := by decide +kernel
theorem at_445_15 : am_at (am_m 445) 15 = some (.getfield 303, 3085) := by decide +kernel
theorem at_445_18 : am_at (am_m 445) 18 = some (.iconst 1, 0) := by decide +kernel
theorem at_445_19 : am_at (am_m 445) 19 = some (.if_icmp .ne 32, 51) := by decide +kernel
theorem at_445_22 : am_at (am_m 445) 22 = some (.aload_n 0, 0) := by decide +kernel
theorem at_445_23 : am_at (am_m 445) 23 = some (.getfield 306, 3086) := by decide +kernel
theorem at_445_26 : am_at (am_m 445) 26 = some (.i2l, 0) := by decide +kernel
theorem at_445_27 : am_at (am_m 445) 27 = some (.lconst 1, 0) := by decide +kernel
theorem at_445_28 : am_at (am_m 445) 28 = some (.ldc2_w 359, 63) := by decide +kernel
theorem at_445_31 : am_at (am_m 445) 31 = some (.invokestatic 299, 327) := by decide +kernel
theorem at_445_34 : am_at (am_m 445) 34 = some (.ifCond .eq 15, 49) := by decide +kernel
theorem at_445_37 : am_at (am_m 445) 37 = some (.aload_n 0, 0) := by decide +kernel
theorem at_445_38 : am_at (am_m 445) 38 = some (.invokevirtual 361, 347) := by decide +kernel
theorem at_445_41 : am_at (am_m 445) 41 = some (.iconst (-1), 0) := by decide +kernel
theorem at_445_42 : am_at (am_m 445) 42 = some (.if_icmp .ne 7, 49) := by decide +kernel
theorem at_445_45 : am_at (am_m 445) 45 = some (.iconst 1, 0) := by decide +kernel
theorem at_445_46 : am_at (am_m 445) 46 = some (.goto 4, 50) := by decide +kernel
theorem at_445_49 : am_at (am_m 445) 49 = some (.iconst 0, 0) := by decide +kernel
theorem at_445_50 : am_at (am_m 445) 50 = some (.ireturn, 0) := by decide +kernel
theorem at_445_51 : am_at (am_m 445) 51 = some (.aload_n 0, 0) := by decide +kernel
theorem at_445_52 : am_at (am_m 445) 52 = some (.getfield 303, 3085) := by decide +kernel
theorem at_445_55 : am_at (am_m 445) 55 = some (.iconst 2, 0) := by decide +kernel
theorem at_445_56 : am_at (am_m 445) 56 = some (.if_icmp .ne 16, 72) := by decide +kernel
theorem at_445_59 : am_at (am_m 445) 59 = some (.aload_n 0, 0) := by decide +kernel
theorem at_445_60 : am_at (am_m 445) 60 = some (.getfield 306, 3086) := by decide +kernel
theorem at_445_63 : am_at (am_m 445) 63 = some (.i2l, 0) := by decide +kernel
theorem at_445_64 : am_at (am_m 445) 64 = some (.lconst 1, 0) := by decide +kernel
theorem at_445_65 : am_at (am_m 445) 65 = some (.ldc2_w 365, 64) := by decide +kernel
theorem at_445_68 : am_at (am_m 445) 68 = some (.invokestatic 299, 327) := by decide +kernel
theorem at_445_71 : am_at (am_m 445) 71 = some (.ireturn, 0) := by decide +kernel
theorem at_445_72 : am_at (am_m 445) 72 = some (.aload_n 0, 0) := by decide +kernel
theorem at_445_73 : am_at (am_m 445) 73 = some (.getfield 306, 3086) := by decide +kernel
theorem at_445_76 : am_at (am_m 445) 76 = some (.bipush 40, 0) := by decide +kernel
theorem at_445_78 : am_at (am_m 445) 78 = some (.if_icmp .gt 7, 85) := by decide +kernel
theorem at_445_81 : am_at (am_m 445) 81 = some (.iconst 1, 0) := by decide +kernel
theorem at_445_82 : am_at (am_m 445) 82 = some (.goto 4, 86) := by decide +kernel
theorem at_445_85 : am_at (am_m 445) 85 = some (.iconst 0, 0) := by decide +kernel
theorem at_445_86 : am_at (am_m 445) 86 = some (.ireturn, 0) := by decide +kernel
theorem at_446_0 : am_at (am_m 446) 0 = some (.aload_n 0, 0) := by decide +kernel
theorem at_446_1 : am_at (am_m 446) 1 = some (.getfield 306, 3086) := by decide +kernel
theorem at_446_4 : am_at (am_m 446) 4 = some (.bipush 60, 0) := by decide +kernel
theorem at_446_6 : am_at (am_m 446) 6 = some (.if_icmp .le 5, 11) := by decide +kernel
theorem at_446_9 : am_at (am_m 446) 9 = some (.iconst 0, 0) := by decide +kernel
theorem at_446_10 : am_at (am_m 446) 10 = some (.ireturn, 0) := by decide +kernel
theorem at_446_11 : am_at (am_m 446) 11 = some (.iconst 1, 0) := by decide +kernel
theorem at_446_12 : am_at (am_m 446) 12 = some (.istore_n 3, 0) := by decide +kernel
theorem at_446_13 : am_at (am_m 446) 13 = some (.aload_n 0, 0) := by decide +kernel
theorem at_446_14 : am_at (am_m 446) 14 = some (.getfield 69, 3100) := by decide +kernel
theorem at_446_17 : am_at (am_m 446) 17 = some (.iconst 0, 0) := by decide +kernel
theorem at_446_18 : am_at (am_m 446) 18 = some (.iload_n 1, 0) := by decide +kernel
theorem at_446_19 : am_at (am_m 446) 19 = some (.ifCond .eq 7, 26) := by decide +kernel
theorem at_446_22 : am_at (am_m 446) 22 = some (.iconst 1, 0) := by decide +kernel
theorem at_446_23 : am_at (am_m 446) 23 = some (.goto 4, 27) := by decide +kernel
theorem at_446_26 : am_at (am_m 446) 26 = some (.iconst 0, 0) := by decide +kernel
theorem at_446_27 : am_at (am_m 446) 27 = some (.iastore, 0) := by decide +kernel
theorem at_446_28 : am_at (am_m 446) 28 = some (.aload_n 0, 0) := by decide +kernel
theorem at_446_29 : am_at (am_m 446) 29 = some (.getfield 72, 3101) := by decide +kernel
theorem at_446_32 : am_at (am_m 446) 32 = some (.iconst 0, 0) := by decide +kernel
theorem at_446_33 : am_at (am_m 446) 33 = some (.iconst 1, 0) := by decide +kernel
theorem at_446_34 : am_at (am_m 446) 34 = some (.iastore, 0) := by decide +kernel
theorem at_446_35 : am_at (am_m 446) 35 = some (.aload_n 0, 0) := by decide +kernel
theorem at_446_36 : am_at (am_m 446) 36 = some (.getfield 75, 3102) := by decide +kernel
theorem at_446_39 : am_at (am_m 446) 39 = some (.iconst 0, 0) := by decide +kernel
theorem at_446_40 : am_at (am_m 446) 40 = some (.iload_n 2, 0) := by decide +kernel
theorem at_446_41 : am_at (am_m 446) 41 = some (.ifCond .eq 7, 48) := by decide +kernel
theorem at_446_44 : am_at (am_m 446) 44 = some (.iconst 1, 0) := by decide +kernel
theorem at_446_45 : am_at (am_m 446) 45 = some (.goto 4, 49) := by decide +kernel
theorem at_446_48 : am_at (am_m 446) 48 = some (.iconst 0, 0) := by decide +kernel
theorem at_446_49 : am_at (am_m 446) 49 = some (.iastore, 0) := by decide +kernel
theorem at_446_50 : am_at (am_m 446) 50 = some (.iconst 0, 0) := by decide +kernel
theorem at_446_51 : am_at (am_m 446) 51 = some (.istore 4, 0) := by decide +kernel
theorem at_446_53 : am_at (am_m 446) 53 = some (.iload 4, 0) := by decide +kernel
theorem at_446_55 : am_at (am_m 446) 55 = some (.aload_n 0, 0) := by decide +kernel
theorem at_446_56 : am_at (am_m 446) 56 = some (.getfield 306, 3086) := by decide +kernel
theorem at_446_59 : am_at (am_m 446) 59 = some (.if_icmp .ge 195, 254) := by decide +kernel
theorem at_446_62 : am_at (am_m 446) 62 = some (.iinc 3 (-1), 0) := by decide +kernel
theorem at_446_65 : am_at (am_m 446) 65 = some (.aload_n 0, 0) := by decide +kernel
theorem at_446_66 : am_at (am_m 446) 66 = some (.getfield 69, 3100) := by decide +kernel
theorem at_446_69 : am_at (am_m 446) 69 = some (.iload_n 3, 0) := by decide +kernel
theorem at_446_70 : am_at (am_m 446) 70 = some (.iaload, 0) := by decide +kernel
theorem at_446_71 : am_at (am_m 446) 71 = some (.iconst 1, 0) := by decide +kernel
theorem at_446_72 : am_at (am_m 446) 72 = some (.if_icmp .ne 7, 79) := by decide +kernel
theorem at_446_75 : am_at (am_m 446) 75 = some (.iconst 1, 0) := by decide +kernel
theorem at_446_76 : am_at (am_m 446) 76 = some (.goto 4, 80) := by decide +kernel
theorem at_446_79 : am_at (am_m 446) 79 = some (.iconst 0, 0) := by decide +kernel
theorem at_446_80 : am_at (am_m 446) 80 = some (.istore 5, 0) := by decide +kernel
theorem at_446_82 : am_at (am_m 446) 82 = some (.aload_n 0, 0) := by decide +kernel
theorem at_446_83 : am_at (am_m 446) 83 = some (.getfield 72, 3101) := by decide +kernel
theorem at_446_86 : am_at (am_m 446) 86 = some (.iload_n 3, 0) := by decide +kernel
theorem at_446_87 : am_at (am_m 446) 87 = some (.iaload, 0) := by decide +kernel
theorem at_446_88 : am_at (am_m 446) 88 = some (.istore 6, 0) := by decide +kernel
theorem at_446_90 : am_at (am_m 446) 90 = some (.aload_n 0, 0) := by decide +kernel
theorem at_446_91 : am_at (am_m 446) 91 = some (.getfield 75, 3102) := by decide +kernel
theorem at_446_94 : am_at (am_m 446) 94 = some (.iload_n 3, 0) := by decide +kernel
theorem at_446_95 : am_at (am_m 446) 95 = some (.iaload, 0) := by decide +kernel
theorem at_446_96 : am_at (am_m 446) 96 = some (.iconst 1, 0) := by decide +kernel
theorem at_446_97 : am_at (am_m 446) 97 = some (.if_icmp .ne 7, 104) := by decide +kernel
theorem at_446_100 : am_at (am_m 446) 100 = some (.iconst 1, 0) := by decide +kernel
theorem at_446_101 : am_at (am_m 446) 101 = some (.goto 4, 105) := by decide +kernel
theorem at_446_104 : am_at (am_m 446) 104 = some (.iconst 0, 0) := by decide +kernel
theorem at_446_105 : am_at (am_m 446) 105 = some (.istore 7, 0) := by decide +kernel
theorem at_446_107 : am_at (am_m 446) 107 = some (.aload_n 0, 0) := by decide +kernel
theorem at_446_108 : am_at (am_m 446) 108 = some (.getfield 45, 3088) := by decide +kernel
theorem at_446_111 : am_at (am_m 446) 111 = some (.iload 4, 0) := by decide +kernel
theorem at_446_113 : am_at (am_m 446) 113 = some (.iaload, 0) := by decide +kernel
theorem at_446_114 : am_at (am_m 446) 114 = some (.istore 8, 0) := by decide +kernel
theorem at_446_116 : am_at (am_m 446) 116 = some (.iload 8, 0) := by decide +kernel
theorem at_446_118 : am_at (am_m 446) 118 = some (.invokestatic 338, 334) := by decide +kernel
theorem at_446_121 : am_at (am_m 446) 121 = some (.iload 5, 0) := by decide +kernel
theorem at_446_123 : am_at (am_m 446) 123 = some (.if_icmp .ne 40, 163) := by decide +kernel
theorem at_446_126 : am_at (am_m 446) 126 = some (.iload 6, 0) := by decide +kernel
theorem at_446_128 : am_at (am_m 446) 128 = some (.bipush 12, 0) := by decide +kernel
theorem at_446_130 : am_at (am_m 446) 130 = some (.if_icmp .gt 33, 163) := by decide +kernel
theorem at_446_133 : am_at (am_m 446) 133 = some (.iload 7, 0) := by decide +kernel
theorem at_446_135 : am_at (am_m 446) 135 = some (.ifCond .ne 16, 151) := by decide +kernel
theorem at_446_138 : am_at (am_m 446) 138 = some (.iload 8, 0) := by decide +kernel
theorem at_446_140 : am_at (am_m 446) 140 = some (.iconst 5, 0) := by decide +kernel
theorem at_446_141 : am_at (am_m 446) 141 = some (.if_icmp .eq 22, 163) := by decide +kernel
theorem at_446_144 : am_at (am_m 446) 144 = some (.iload 8, 0) := by decide +kernel
theorem at_446_146 : am_at (am_m 446) 146 = some (.bipush 6, 0) := by decide +kernel
theorem at_446_148 : am_at (am_m 446) 148 = some (.if_icmp .eq 15, 163) := by decide +kernel
theorem at_446_151 : am_at (am_m 446) 151 = some (.iload 7, 0) := by decide +kernel
theorem at_446_153 : am_at (am_m 446) 153 = some (.ifCond .eq 12, 165) := by decide +kernel
theorem at_446_156 : am_at (am_m 446) 156 = some (.iload 8, 0) := by decide +kernel
theorem at_446_158 : am_at (am_m 446) 158 = some (.bipush 19, 0) := by decide +kernel
theorem at_446_160 : am_at (am_m 446) 160 = some (.if_icmp .ne 5, 165) := by decide +kernel
theorem at_446_163 : am_at (am_m 446) 163 = some (.iconst 0, 0) := by decide +kernel
theorem at_446_164 : am_at (am_m 446) 164 = some (.ireturn, 0) := by decide +kernel
theorem at_446_165 : am_at (am_m 446) 165 = some (.iload 8, 0) := by decide +kernel
theorem at_446_167 : am_at (am_m 446) 167 = some (.invokestatic 327, 343) := by decide +kernel
theorem at_446_170 : am_at (am_m 446) 170 = some (.iconst 1, 0) := by decide +kernel
theorem at_446_171 : am_at (am_m 446) 171 = some (.isub, 0) := by decide +kernel
theorem at_446_172 : am_at (am_m 446) 172 = some (.istore 9, 0) := by decide +kernel
theorem at_446_174 : am_at (am_m 446) 174 = some (.iload 9, 0) := by decide +kernel
theorem at_446_176 : am_at (am_m 446) 176 = some (.ifCond .lt 72, 248) := by decide +kernel
theorem at_446_179 : am_at (am_m 446) 179 = some (.aload_n 0, 0) := by decide +kernel
theorem at_446_180 : am_at (am_m 446) 180 = some (.getfield 69, 3100) := by decide +kernel
theorem at_446_183 : am_at (am_m 446) 183 = some (.iload_n 3, 0) := by decide +kernel
theorem at_446_184 : am_at (am_m 446) 184 = some (.iload 8, 0) := by decide +kernel
theorem at_446_186 : am_at (am_m 446) 186 = some (.iload 9, 0) := by decide +kernel
theorem at_446_188 : am_at (am_m 446) 188 = some (.invokestatic 342, 330) := by decide +kernel
theorem at_446_191 : am_at (am_m 446) 191 = some (.ifCond .eq 7, 198) := by decide +kernel
theorem at_446_194 : am_at (am_m 446) 194 = some (.iconst 1, 0) := by decide +kernel
theorem at_446_195 : am_at (am_m 446) 195 = some (.goto 4, 199) := by decide +kernel
theorem at_446_198 : am_at (am_m 446) 198 = some (.iconst 0, 0) := by decide +kernel
theorem at_446_199 : am_at (am_m 446) 199 = some (.iastore, 0) := by decide +kernel
theorem at_446_200 : am_at (am_m 446) 200 = some (.aload_n 0, 0) := by decide +kernel
theorem at_446_201 : am_at (am_m 446) 201 = some (.getfield 72, 3101) := by decide +kernel
theorem at_446_204 : am_at (am_m 446) 204 = some (.iload_n 3, 0) := by decide +kernel
theorem at_446_205 : am_at (am_m 446) 205 = some (.iload 6, 0) := by decide +kernel
theorem at_446_207 : am_at (am_m 446) 207 = some (.iconst 1, 0) := by decide +kernel
theorem at_446_208 : am_at (am_m 446) 208 = some (.iadd, 0) := by decide +kernel
theorem at_446_209 : am_at (am_m 446) 209 = some (.iastore, 0) := by decide +kernel
theorem at_446_210 : am_at (am_m 446) 210 = some (.aload_n 0, 0) := by decide +kernel
theorem at_446_211 : am_at (am_m 446) 211 = some (.getfield 75, 3102) := by decide +kernel
theorem at_446_214 : am_at (am_m 446) 214 = some (.iload_n 3, 0) := by decide +kernel
theorem at_446_215 : am_at (am_m 446) 215 = some (.iload 7, 0) := by decide +kernel
theorem at_446_217 : am_at (am_m 446) 217 = some (.ifCond .ne 16, 233) := by decide +kernel
theorem at_446_220 : am_at (am_m 446) 220 = some (.iload 8, 0) := by decide +kernel
theorem at_446_222 : am_at (am_m 446) 222 = some (.bipush 19, 0) := by decide +kernel
theorem at_446_224 : am_at (am_m 446) 224 = some (.if_icmp .ne 13, 237) := by decide +kernel
theorem at_446_227 : am_at (am_m 446) 227 = some (.iload 9, 0) := by decide +kernel
theorem at_446_229 : am_at (am_m 446) 229 = some (.iconst 1, 0) := by decide +kernel
theorem at_446_230 : am_at (am_m 446) 230 = some (.if_icmp .ne 7, 237) := by decide +kernel
theorem at_446_233 : am_at (am_m 446) 233 = some (.iconst 1, 0) := by decide +kernel
theorem at_446_234 : am_at (am_m 446) 234 = some (.goto 4, 238) := by decide +kernel
theorem at_446_237 : am_at (am_m 446) 237 = some (.iconst 0, 0) := by decide +kernel
theorem at_446_238 : am_at (am_m 446) 238 = some (.iastore, 0) := by decide +kernel
theorem at_446_239 : am_at (am_m 446) 239 = some (.iinc 3 1, 0) := by decide +kernel
theorem at_446_242 : am_at (am_m 446) 242 = some (.iinc 9 (-1), 0) := by decide +kernel
theorem at_446_245 : am_at (am_m 446) 245 = some (.goto (-71), 174) := by decide +kernel
theorem at_446_248 : am_at (am_m 446) 248 = some (.iinc 4 1, 0) := by decide +kernel
theorem at_446_251 : am_at (am_m 446) 251 = some (.goto (-198), 53) := by decide +kernel
theorem at_446_254 : am_at (am_m 446) 254 = some (.iload_n 3, 0) := by decide +kernel
theorem at_446_255 : am_at (am_m 446) 255 = some (.ifCond .ne 7, 262) := by decide +kernel
theorem at_446_258 : am_at (am_m 446) 258 = some (.iconst 1, 0) := by decide +kernel
theorem at_446_259 : am_at (am_m 446) 259 = some (.goto 4, 263) := by decide +kernel
theorem at_446_262 : am_at (am_m 446) 262 = some (.iconst 0, 0) := by decide +kernel
theorem at_446_263 : am_at (am_m 446) 263 = some (.ireturn, 0) := by decide +kernel
theorem at_447_0 : am_at (am_m 447) 0 = some (.iconst 0, 0) := by decide +kernel
theorem at_447_1 : am_at (am_m 447) 1 = some (.istore_n 1, 0) := by decide +kernel
theorem at_447_2 : am_at (am_m 447) 2 = some (.iload_n 1, 0) := by decide +kernel
theorem at_447_3 : am_at (am_m 447) 3 = some (.aload_n 0, 0) := by decide +kernel
theorem at_447_4 : am_at (am_m 447) 4 = some (.getfield 315, 3090) := by decide +kernel
theorem at_447_7 : am_at (am_m 447) 7 = some (.if_icmp .ge 97, 104) := by decide +kernel
theorem at_447_10 : am_at (am_m 447) 10 = some (.aload_n 0, 0) := by decide +kernel
theorem at_447_11 : am_at (am_m 447) 11 = some (.getfield 732, 3167) := by decide +kernel
theorem at_447_14 : am_at (am_m 447) 14 = some (.ifCond .ne 90, 104) := by decide +kernel
theorem at_447_17 : am_at (am_m 447) 17 = some (.iconst 0, 0) := by decide +kernel
theorem at_447_18 : am_at (am_m 447) 18 = some (.istore_n 2, 0) := by decide +kernel
theorem at_447_19 : am_at (am_m 447) 19 = some (.iload_n 2, 0) := by decide +kernel
theorem at_447_20 : am_at (am_m 447) 20 = some (.bipush 21, 0) := by decide +kernel
theorem at_447_22 : am_at (am_m 447) 22 = some (.if_icmp .ge 76, 98) := by decide +kernel
theorem at_447_25 : am_at (am_m 447) 25 = some (.aload_n 0, 0) := by decide +kernel
theorem at_447_26 : am_at (am_m 447) 26 = some (.getfield 732, 3167) := by decide +kernel
theorem at_447_29 : am_at (am_m 447) 29 = some (.ifCond .ne 69, 98) := by decide +kernel
theorem at_447_32 : am_at (am_m 447) 32 = some (.iload_n 2, 0) := by decide +kernel
theorem at_447_33 : am_at (am_m 447) 33 = some (.aload_n 0, 0) := by decide +kernel
theorem at_447_34 : am_at (am_m 447) 34 = some (.getfield 51, 3093) := by decide +kernel
theorem at_447_37 : am_at (am_m 447) 37 = some (.iload_n 1, 0) := by decide +kernel
theorem at_447_38 : am_at (am_m 447) 38 = some (.iaload, 0) := by decide +kernel
theorem at_447_39 : am_at (am_m 447) 39 = some (.if_icmp .eq 53, 92) := by decide +kernel
theorem at_447_42 : am_at (am_m 447) 42 = some (.iload_n 2, 0) := by decide +kernel
theorem at_447_43 : am_at (am_m 447) 43 = some (.aload_n 0, 0) := by decide +kernel
theorem at_447_44 : am_at (am_m 447) 44 = some (.getfield 51, 3093) := by decide +kernel
theorem at_447_47 : am_at (am_m 447) 47 = some (.iload_n 1, 0) := by decide +kernel
theorem at_447_48 : am_at (am_m 447) 48 = some (.iaload, 0) := by decide +kernel
theorem at_447_49 : am_at (am_m 447) 49 = some (.invokestatic 750, 448) := by decide +kernel
theorem at_447_52 : am_at (am_m 447) 52 = some (.ifCond .ne 6, 58) := by decide +kernel
theorem at_447_55 : am_at (am_m 447) 55 = some (.goto 37, 92) := by decide +kernel
theorem at_447_58 : am_at (am_m 447) 58 = some (.aload_n 0, 0) := by decide +kernel
theorem at_447_59 : am_at (am_m 447) 59 = some (.invokevirtual 739, 442) := by decide +kernel
theorem at_447_62 : am_at (am_m 447) 62 = some (.aload_n 0, 0) := by decide +kernel
theorem at_447_63 : am_at (am_m 447) 63 = some (.getfield 45, 3088) := by decide +kernel
theorem at_447_66 : am_at (am_m 447) 66 = some (.iload_n 1, 0) := by decide +kernel
theorem at_447_67 : am_at (am_m 447) 67 = some (.iload_n 2, 0) := by decide +kernel
theorem at_447_68 : am_at (am_m 447) 68 = some (.iastore, 0) := by decide +kernel
theorem at_447_69 : am_at (am_m 447) 69 = some (.aload_n 0, 0) := by decide +kernel
theorem at_447_70 : am_at (am_m 447) 70 = some (.getfield 48, 3089) := by decide +kernel
theorem at_447_73 : am_at (am_m 447) 73 = some (.iload_n 1, 0) := by decide +kernel
theorem at_447_74 : am_at (am_m 447) 74 = some (.iload_n 2, 0) := by decide +kernel
theorem at_447_75 : am_at (am_m 447) 75 = some (.ifCond .ne 7, 82) := by decide +kernel
theorem at_447_78 : am_at (am_m 447) 78 = some (.iconst 1, 0) := by decide +kernel
theorem at_447_79 : am_at (am_m 447) 79 = some (.goto 4, 83) := by decide +kernel
theorem at_447_82 : am_at (am_m 447) 82 = some (.iconst 0, 0) := by decide +kernel
theorem at_447_83 : am_at (am_m 447) 83 = some (.iastore, 0) := by decide +kernel
theorem at_447_84 : am_at (am_m 447) 84 = some (.aload_n 0, 0) := by decide +kernel
theorem at_447_85 : am_at (am_m 447) 85 = some (.aload_n 0, 0) := by decide +kernel
theorem at_447_86 : am_at (am_m 447) 86 = some (.invokevirtual 742, 444) := by decide +kernel
theorem at_447_89 : am_at (am_m 447) 89 = some (.putfield 732, 3167) := by decide +kernel
theorem at_447_92 : am_at (am_m 447) 92 = some (.iinc 2 1, 0) := by decide +kernel
theorem at_447_95 : am_at (am_m 447) 95 = some (.goto (-76), 19) := by decide +kernel
theorem at_447_98 : am_at (am_m 447) 98 = some (.iinc 1 1, 0) := by decide +kernel
theorem at_447_101 : am_at (am_m 447) 101 = some (.goto (-99), 2) := by decide +kernel
theorem at_447_104 : am_at (am_m 447) 104 = some (.return_, 0) := by decide +kernel
theorem at_448_0 : am_at (am_m 448) 0 = some (.iload_n 0, 0) := by decide +kernel
theorem at_448_1 : am_at (am_m 448) 1 = some (.invokestatic 327, 343) := by decide +kernel
theorem at_448_4 : am_at (am_m 448) 4 = some (.iload_n 1, 0) := by decide +kernel
theorem at_448_5 : am_at (am_m 448) 5 = some (.invokestatic 327, 343) := by decide +kernel
theorem at_448_8 : am_at (am_m 448) 8 = some (.if_icmp .ne 18, 26) := by decide +kernel
theorem at_448_11 : am_at (am_m 448) 11 = some (.iload_n 0, 0) := by decide +kernel
theorem at_448_12 : am_at (am_m 448) 12 = some (.invokestatic 338, 334) := by decide +kernel
theorem at_448_15 : am_at (am_m 448) 15 = some (.iload_n 1, 0) := by decide +kernel
theorem at_448_16 : am_at (am_m 448) 16 = some (.invokestatic 338, 334) := by decide +kernel
theorem at_448_19 : am_at (am_m 448) 19 = some (.if_icmp .ne 7, 26) := by decide +kernel
theorem at_448_22 : am_at (am_m 448) 22 = some (.iconst 1, 0) := by decide +kernel
theorem at_448_23 : am_at (am_m 448) 23 = some (.goto 4, 27) := by decide +kernel
theorem at_448_26 : am_at (am_m 448) 26 = some (.iconst 0, 0) := by decide +kernel
theorem at_448_27 : am_at (am_m 448) 27 = some (.istore_n 2, 0) := by decide +kernel
theorem at_448_28 : am_at (am_m 448) 28 = some (.iconst 0, 0) := by decide +kernel
theorem at_448_29 : am_at (am_m 448) 29 = some (.istore_n 3, 0) := by decide +kernel
theorem at_448_30 : am_at (am_m 448) 30 = some (.iload_n 3, 0) := by decide +kernel
theorem at_448_31 : am_at (am_m 448) 31 = some (.iload_n 0, 0) := by decide +kernel
theorem at_448_32 : am_at (am_m 448) 32 = some (.invokestatic 327, 343) := by decide +kernel
theorem at_448_35 : am_at (am_m 448) 35 = some (.if_icmp .ge 32, 67) := by decide +kernel
theorem at_448_38 : am_at (am_m 448) 38 = some (.iload_n 2, 0) := by decide +kernel
theorem at_448_39 : am_at (am_m 448) 39 = some (.ifCond .eq 20, 59) := by decide +kernel
theorem at_448_42 : am_at (am_m 448) 42 = some (.iload_n 0, 0) := by decide +kernel
theorem at_448_43 : am_at (am_m 448) 43 = some (.iload_n 3, 0) := by decide +kernel
theorem at_448_44 : am_at (am_m 448) 44 = some (.invokestatic 342, 330) := by decide +kernel
theorem at_448_47 : am_at (am_m 448) 47 = some (.iload_n 1, 0) := by decide +kernel
theorem at_448_48 : am_at (am_m 448) 48 = some (.iload_n 3, 0) := by decide +kernel
theorem at_448_49 : am_at (am_m 448) 49 = some (.invokestatic 342, 330) := by decide +kernel
theorem at_448_52 : am_at (am_m 448) 52 = some (.if_icmp .ne 7, 59) := by decide +kernel
theorem at_448_55 : am_at (am_m 448) 55 = some (.iconst 1, 0) := by decide +kernel
theorem at_448_56 : am_at (am_m 448) 56 = some (.goto 4, 60) := by decide +kernel
theorem at_448_59 : am_at (am_m 448) 59 = some (.iconst 0, 0) := by decide +kernel
theorem at_448_60 : am_at (am_m 448) 60 = some (.istore_n 2, 0) := by decide +kernel
theorem at_448_61 : am_at (am_m 448) 61 = some (.iinc 3 1, 0) := by decide +kernel
theorem at_448_64 : am_at (am_m 448) 64 = some (.goto (-34), 30) := by decide +kernel
theorem at_448_67 : am_at (am_m 448) 67 = some (.iload_n 2, 0) := by decide +kernel
theorem at_448_68 : am_at (am_m 448) 68 = some (.ireturn, 0) := by decide +kernel
theorem at_449_0 : am_at (am_m 449) 0 = some (.iconst 0, 0) := by decide +kernel
theorem at_449_1 : am_at (am_m 449) 1 = some (.istore_n 1, 0) := by decide +kernel
theorem at_449_2 : am_at (am_m 449) 2 = some (.iload_n 1, 0) := by decide +kernel
theorem at_449_3 : am_at (am_m 449) 3 = some (.aload_n 0, 0) := by decide +kernel
theorem at_449_4 : am_at (am_m 449) 4 = some (.getfield 315, 3090) := by decide +kernel
theorem at_449_7 : am_at (am_m 449) 7 = some (.if_icmp .ge 47, 54) := by decide +kernel
theorem at_449_10 : am_at (am_m 449) 10 = some (.aload_n 0, 0) := by decide +kernel
theorem at_449_11 : am_at (am_m 449) 11 = some (.getfield 732, 3167) := by decide +kernel
theorem at_449_14 : am_at (am_m 449) 14 = some (.ifCond .ne 40, 54) := by decide +kernel
theorem at_449_17 : am_at (am_m 449) 17 = some (.aload_n 0, 0) := by decide +kernel
theorem at_449_18 : am_at (am_m 449) 18 = some (.iload_n 1, 0) := by decide +kernel
theorem at_449_19 : am_at (am_m 449) 19 = some (.iconst 0, 0) := by decide +kernel
theorem at_449_20 : am_at (am_m 449) 20 = some (.iconst 0, 0) := by decide +kernel
theorem at_449_21 : am_at (am_m 449) 21 = some (.invokevirtual 756, 450) := by decide +kernel
theorem at_449_24 : am_at (am_m 449) 24 = some (.ifCond .ne 24, 48) := by decide +kernel
theorem at_449_27 : am_at (am_m 449) 27 = some (.aload_n 0, 0) := by decide +kernel
theorem at_449_28 : am_at (am_m 449) 28 = some (.iload_n 1, 0) := by decide +kernel
theorem at_449_29 : am_at (am_m 449) 29 = some (.iconst 1, 0) := by decide +kernel
theorem at_449_30 : am_at (am_m 449) 30 = some (.iconst 0, 0) := by decide +kernel
theorem at_449_31 : am_at (am_m 449) 31 = some (.invokevirtual 756, 450) := by decide +kernel
theorem at_449_34 : am_at (am_m 449) 34 = some (.ifCond .ne 14, 48) := by decide +kernel
theorem at_449_37 : am_at (am_m 449) 37 = some (.aload_n 0, 0) := by decide +kernel
theorem at_449_38 : am_at (am_m 449) 38 = some (.aload_n 0, 0) := by decide +kernel
theorem at_449_39 : am_at (am_m 449) 39 = some (.iload_n 1, 0) := by decide +kernel
theorem at_449_40 : am_at (am_m 449) 40 = some (.iconst 0, 0) := by decide +kernel
theorem at_449_41 : am_at (am_m 449) 41 = some (.iconst 1, 0) := by decide +kernel
theorem at_449_42 : am_at (am_m 449) 42 = some (.invokevirtual 756, 450) := by decide +kernel
theorem at_449_45 : am_at (am_m 449) 45 = some (.putfield 732, 3167) := by decide +kernel
theorem at_449_48 : am_at (am_m 449) 48 = some (.iinc 1 1, 0) := by decide +kernel
theorem at_449_51 : am_at (am_m 449) 51 = some (.goto (-49), 2) := by decide +kernel
theorem at_449_54 : am_at (am_m 449) 54 = some (.return_, 0) := by decide +kernel
theorem at_450_0 : am_at (am_m 450) 0 = some (.aload_n 0, 0) := by decide +kernel
theorem at_450_1 : am_at (am_m 450) 1 = some (.getfield 51, 3093) := by decide +kernel
theorem at_450_4 : am_at (am_m 450) 4 = some (.iload_n 1, 0) := by decide +kernel
theorem at_450_5 : am_at (am_m 450) 5 = some (.iaload, 0) := by decide +kernel
theorem at_450_6 : am_at (am_m 450) 6 = some (.invokestatic 338, 334) := by decide +kernel
theorem at_450_9 : am_at (am_m 450) 9 = some (.ifCond .ne 23, 32) := by decide +kernel
theorem at_450_12 : am_at (am_m 450) 12 = some (.aload_n 0, 0) := by decide +kernel
theorem at_450_13 : am_at (am_m 450) 13 = some (.getfield 51, 3093) := by decide +kernel
theorem at_450_16 : am_at (am_m 450) 16 = some (.iload_n 1, 0) := by decide +kernel
theorem at_450_17 : am_at (am_m 450) 17 = some (.iaload, 0) := by decide +kernel
theorem at_450_18 : am_at (am_m 450) 18 = some (.iload_n 2, 0) := by decide +kernel
theorem at_450_19 : am_at (am_m 450) 19 = some (.if_icmp .ne 15, 34) := by decide +kernel
theorem at_450_22 : am_at (am_m 450) 22 = some (.aload_n 0, 0) := by decide +kernel
theorem at_450_23 : am_at (am_m 450) 23 = some (.getfield 54, 3094) := by decide +kernel
theorem at_450_26 : am_at (am_m 450) 26 = some (.iload_n 1, 0) := by decide +kernel
theorem at_450_27 : am_at (am_m 450) 27 = some (.iaload, 0) := by decide +kernel
theorem at_450_28 : am_at (am_m 450) 28 = some (.iload_n 3, 0) := by decide +kernel
theorem at_450_29 : am_at (am_m 450) 29 = some (.if_icmp .ne 5, 34) := by decide +kernel
theorem at_450_32 : am_at (am_m 450) 32 = some (.iconst 0, 0) := by decide +kernel
theorem at_450_33 : am_at (am_m 450) 33 = some (.ireturn, 0) := by decide +kernel
theorem at_450_34 : am_at (am_m 450) 34 = some (.aload_n 0, 0) := by decide +kernel
theorem at_450_35 : am_at (am_m 450) 35 = some (.invokevirtual 753, 451) := by decide +kernel
theorem at_450_38 : am_at (am_m 450) 38 = some (.aload_n 0, 0) := by decide +kernel
theorem at_450_39 : am_at (am_m 450) 39 = some (.iconst 0, 0) := by decide +kernel
theorem at_450_40 : am_at (am_m 450) 40 = some (.iload_n 1, 0) := by decide +kernel
theorem at_450_41 : am_at (am_m 450) 41 = some (.invokevirtual 331, 443) := by decide +kernel
theorem at_450_44 : am_at (am_m 450) 44 = some (.aload_n 0, 0) := by decide +kernel
theorem at_450_45 : am_at (am_m 450) 45 = some (.iload_n 2, 0) := by decide +kernel
theorem at_450_46 : am_at (am_m 450) 46 = some (.iload_n 3, 0) := by decide +kernel
theorem at_450_47 : am_at (am_m 450) 47 = some (.invokevirtual 335, 335) := by decide +kernel
theorem at_450_50 : am_at (am_m 450) 50 = some (.aload_n 0, 0) := by decide +kernel
theorem at_450_51 : am_at (am_m 450) 51 = some (.iload_n 1, 0) := by decide +kernel
theorem at_450_52 : am_at (am_m 450) 52 = some (.aload_n 0, 0) := by decide +kernel
theorem at_450_53 : am_at (am_m 450) 53 = some (.getfield 63, 3098) := by decide +kernel
theorem at_450_56 : am_at (am_m 450) 56 = some (.iload_n 1, 0) := by decide +kernel
theorem at_450_57 : am_at (am_m 450) 57 = some (.iaload, 0) := by decide +kernel
theorem at_450_58 : am_at (am_m 450) 58 = some (.iadd, 0) := by decide +kernel
theorem at_450_59 : am_at (am_m 450) 59 = some (.aload_n 0, 0) := by decide +kernel
theorem at_450_60 : am_at (am_m 450) 60 = some (.getfield 315, 3090) := by decide +kernel
theorem at_450_63 : am_at (am_m 450) 63 = some (.invokevirtual 331, 443) := by decide +kernel
theorem at_450_66 : am_at (am_m 450) 66 = some (.aload_n 0, 0) := by decide +kernel
theorem at_450_67 : am_at (am_m 450) 67 = some (.invokevirtual 742, 444) := by decide +kernel
theorem at_450_70 : am_at (am_m 450) 70 = some (.ireturn, 0) := by decide +kernel
theorem at_451_0 : am_at (am_m 451) 0 = some (.aload_n 0, 0) := by decide +kernel
theorem at_451_1 : am_at (am_m 451) 1 = some (.aload_n 0, 0) := by decide +kernel
theorem at_451_2 : am_at (am_m 451) 2 = some (.getfield 312, 3092) := by decide +kernel
theorem at_451_5 : am_at (am_m 451) 5 = some (.putfield 303, 3085) := by decide +kernel
theorem at_451_8 : am_at (am_m 451) 8 = some (.aload_n 0, 0) := by decide +kernel
theorem at_451_9 : am_at (am_m 451) 9 = some (.aload_n 0, 0) := by decide +kernel
theorem at_451_10 : am_at (am_m 451) 10 = some (.getfield 318, 3091) := by decide +kernel
theorem at_451_13 : am_at (am_m 451) 13 = some (.putfield 309, 3087) := by decide +kernel
theorem at_451_16 : am_at (am_m 451) 16 = some (.aload_n 0, 0) := by decide +kernel
theorem at_451_17 : am_at (am_m 451) 17 = some (.iconst 0, 0) := by decide +kernel
theorem at_451_18 : am_at (am_m 451) 18 = some (.putfield 306, 3086) := by decide +kernel
theorem at_451_21 : am_at (am_m 451) 21 = some (.return_, 0) := by decide +kernel
theorem at_452_0 : am_at (am_m 452) 0 = some (.iconst 0, 0) := by decide +kernel
theorem at_452_1 : am_at (am_m 452) 1 = some (.istore_n 1, 0) := by decide +kernel
theorem at_452_2 : am_at (am_m 452) 2 = some (.iload_n 1, 0) := by decide +kernel
theorem at_452_3 : am_at (am_m 452) 3 = some (.aload_n 0, 0) := by decide +kernel
theorem at_452_4 : am_at (am_m 452) 4 = some (.getfield 315, 3090) := by decide +kernel
theorem at_452_7 : am_at (am_m 452) 7 = some (.if_icmp .ge 123, 130) := by decide +kernel
theorem at_452_10 : am_at (am_m 452) 10 = some (.aload_n 0, 0) := by decide +kernel
theorem at_452_11 : am_at (am_m 452) 11 = some (.getfield 732, 3167) := by decide +kernel
theorem at_452_14 : am_at (am_m 452) 14 = some (.ifCond .ne 116, 130) := by decide +kernel
theorem at_452_17 : am_at (am_m 452) 17 = some (.iconst 0, 0) := by decide +kernel
theorem at_452_18 : am_at (am_m 452) 18 = some (.istore_n 2, 0) := by decide +kernel
theorem at_452_19 : am_at (am_m 452) 19 = some (.iload_n 2, 0) := by decide +kernel
theorem at_452_20 : am_at (am_m 452) 20 = some (.aload_n 0, 0) := by decide +kernel
theorem at_452_21 : am_at (am_m 452) 21 = some (.getfield 51, 3093) := by decide +kernel
theorem at_452_24 : am_at (am_m 452) 24 = some (.iload_n 1, 0) := by decide +kernel
theorem at_452_25 : am_at (am_m 452) 25 = some (.iaload, 0) := by decide +kernel
theorem at_452_26 : am_at (am_m 452) 26 = some (.invokestatic 327, 343) := by decide +kernel
theorem at_452_29 : am_at (am_m 452) 29 = some (.if_icmp .ge 95, 124) := by decide +kernel
theorem at_452_32 : am_at (am_m 452) 32 = some (.aload_n 0, 0) := by decide +kernel
theorem at_452_33 : am_at (am_m 452) 33 = some (.getfield 732, 3167) := by decide +kernel
theorem at_452_36 : am_at (am_m 452) 36 = some (.ifCond .ne 88, 124) := by decide +kernel
theorem at_452_39 : am_at (am_m 452) 39 = some (.aload_n 0, 0) := by decide +kernel
theorem at_452_40 : am_at (am_m 452) 40 = some (.getfield 51, 3093) := by decide +kernel
theorem at_452_43 : am_at (am_m 452) 43 = some (.iload_n 1, 0) := by decide +kernel
theorem at_452_44 : am_at (am_m 452) 44 = some (.iaload, 0) := by decide +kernel
theorem at_452_45 : am_at (am_m 452) 45 = some (.iload_n 2, 0) := by decide +kernel
theorem at_452_46 : am_at (am_m 452) 46 = some (.invokestatic 342, 330) := by decide +kernel
theorem at_452_49 : am_at (am_m 452) 49 = some (.aload_n 0, 0) := by decide +kernel
theorem at_452_50 : am_at (am_m 452) 50 = some (.getfield 51, 3093) := by decide +kernel
theorem at_452_53 : am_at (am_m 452) 53 = some (.iload_n 1, 0) := by decide +kernel
theorem at_452_54 : am_at (am_m 452) 54 = some (.iaload, 0) := by decide +kernel
theorem at_452_55 : am_at (am_m 452) 55 = some (.invokestatic 338, 334) := by decide +kernel
theorem at_452_58 : am_at (am_m 452) 58 = some (.if_icmp .eq 6, 64) := by decide +kernel
theorem at_452_61 : am_at (am_m 452) 61 = some (.goto 57, 118) := by decide +kernel
theorem at_452_64 : am_at (am_m 452) 64 = some (.aload_n 0, 0) := by decide +kernel
theorem at_452_65 : am_at (am_m 452) 65 = some (.iload_n 1, 0) := by decide +kernel
theorem at_452_66 : am_at (am_m 452) 66 = some (.iload_n 2, 0) := by decide +kernel
theorem at_452_67 : am_at (am_m 452) 67 = some (.invokevirtual 642, 393) := by decide +kernel
theorem at_452_70 : am_at (am_m 452) 70 = some (.istore_n 3, 0) := by decide +kernel
theorem at_452_71 : am_at (am_m 452) 71 = some (.aload_n 0, 0) := by decide +kernel
theorem at_452_72 : am_at (am_m 452) 72 = some (.invokevirtual 753, 451) := by decide +kernel
theorem at_452_75 : am_at (am_m 452) 75 = some (.aload_n 0, 0) := by decide +kernel
theorem at_452_76 : am_at (am_m 452) 76 = some (.iconst 0, 0) := by decide +kernel
theorem at_452_77 : am_at (am_m 452) 77 = some (.iload_n 1, 0) := by decide +kernel
theorem at_452_78 : am_at (am_m 452) 78 = some (.invokevirtual 331, 443) := by decide +kernel
theorem at_452_81 : am_at (am_m 452) 81 = some (.aload_n 0, 0) := by decide +kernel
theorem at_452_82 : am_at (am_m 452) 82 = some (.iload_n 3, 0) := by decide +kernel
theorem at_452_83 : am_at (am_m 452) 83 = some (.iload_n 3, 0) := by decide +kernel
theorem at_452_84 : am_at (am_m 452) 84 = some (.aload_n 0, 0) := by decide +kernel
theorem at_452_85 : am_at (am_m 452) 85 = some (.getfield 63, 3098) := by decide +kernel
theorem at_452_88 : am_at (am_m 452) 88 = some (.iload_n 3, 0) := by decide +kernel
theorem at_452_89 : am_at (am_m 452) 89 = some (.iaload, 0) := by decide +kernel
theorem at_452_90 : am_at (am_m 452) 90 = some (.iadd, 0) := by decide +kernel
theorem at_452_91 : am_at (am_m 452) 91 = some (.invokevirtual 331, 443) := by decide +kernel
theorem at_452_94 : am_at (am_m 452) 94 = some (.aload_n 0, 0) := by decide +kernel
theorem at_452_95 : am_at (am_m 452) 95 = some (.iload_n 1, 0) := by decide +kernel
theorem at_452_96 : am_at (am_m 452) 96 = some (.aload_n 0, 0) := by decide +kernel
theorem at_452_97 : am_at (am_m 452) 97 = some (.getfield 63, 3098) := by decide +kernel
theorem at_452_100 : am_at (am_m 452) 100 = some (.iload_n 1, 0) := by decide +kernel
theorem at_452_101 : am_at (am_m 452) 101 = some (.iaload, 0) := by decide +kernel
theorem at_452_102 : am_at (am_m 452) 102 = some (.iadd, 0) := by decide +kernel
theorem at_452_103 : am_at (am_m 452) 103 = some (.aload_n 0, 0) := by decide +kernel
theorem at_452_104 : am_at (am_m 452) 104 = some (.getfield 315, 3090) := by decide +kernel
theorem at_452_107 : am_at (am_m 452) 107 = some (.invokevirtual 331, 443) := by decide +kernel
theorem at_452_110 : am_at (am_m 452) 110 = some (.aload_n 0, 0) := by decide +kernel
theorem at_452_111 : am_at (am_m 452) 111 = some (.aload_n 0, 0) := by decide +kernel
theorem at_452_112 : am_at (am_m 452) 112 = some (.invokevirtual 742, 444) := by decide +kernel
theorem at_452_115 : am_at (am_m 452) 115 = some (.putfield 732, 3167) := by decide +kernel
theorem at_452_118 : am_at (am_m 452) 118 = some (.iinc 2 1, 0) := by decide +kernel
theorem at_452_121 : am_at (am_m 452) 121 = some (.goto (-102), 19) := by decide +kernel
theorem at_452_124 : am_at (am_m 452) 124 = some (.iinc 1 1, 0) := by decide +kernel
theorem at_452_127 : am_at (am_m 452) 127 = some (.goto (-125), 2) := by decide +kernel
theorem at_452_130 : am_at (am_m 452) 130 = some (.return_, 0) := by decide +kernel
theorem at_453_0 : am_at (am_m 453) 0 = some (.iconst 0, 0) := by decide +kernel
theorem at_453_1 : am_at (am_m 453) 1 = some (.istore_n 1, 0) := by decide +kernel
theorem at_453_2 : am_at (am_m 453) 2 = some (.iload_n 1, 0) := by decide +kernel
theorem at_453_3 : am_at (am_m 453) 3 = some (.aload_n 0, 0) := by decide +kernel
theorem at_453_4 : am_at (am_m 453) 4 = some (.getfield 315, 3090) := by decide +kernel
theorem at_453_7 : am_at (am_m 453) 7 = some (.if_icmp .ge 100, 107) := by decide +kernel
theorem at_453_10 : am_at (am_m 453) 10 = some (.aload_n 0, 0) := by decide +kernel
theorem at_453_11 : am_at (am_m 453) 11 = some (.getfield 732, 3167) := by decide +kernel
theorem at_453_14 : am_at (am_m 453) 14 = some (.ifCond .ne 93, 107) := by decide +kernel
theorem at_453_17 : am_at (am_m 453) 17 = some (.iconst 0, 0) := by decide +kernel
theorem at_453_18 : am_at (am_m 453) 18 = some (.istore_n 2, 0) := by decide +kernel
theorem at_453_19 : am_at (am_m 453) 19 = some (.iload_n 2, 0) := by decide +kernel
theorem at_453_20 : am_at (am_m 453) 20 = some (.bipush 14, 0) := by decide +kernel
theorem at_453_22 : am_at (am_m 453) 22 = some (.if_icmp .ge 79, 101) := by decide +kernel
theorem at_453_25 : am_at (am_m 453) 25 = some (.aload_n 0, 0) := by decide +kernel
theorem at_453_26 : am_at (am_m 453) 26 = some (.getfield 732, 3167) := by decide +kernel
theorem at_453_29 : am_at (am_m 453) 29 = some (.ifCond .ne 72, 101) := by decide +kernel
theorem at_453_32 : am_at (am_m 453) 32 = some (.iload_n 2, 0) := by decide +kernel
theorem at_453_33 : am_at (am_m 453) 33 = some (.aload_n 0, 0) := by decide +kernel
theorem at_453_34 : am_at (am_m 453) 34 = some (.getfield 51, 3093) := by decide +kernel
theorem at_453_37 : am_at (am_m 453) 37 = some (.iload_n 1, 0) := by decide +kernel
theorem at_453_38 : am_at (am_m 453) 38 = some (.iaload, 0) := by decide +kernel
theorem at_453_39 : am_at (am_m 453) 39 = some (.if_icmp .eq 56, 95) := by decide +kernel
theorem at_453_42 : am_at (am_m 453) 42 = some (.iload_n 2, 0) := by decide +kernel
theorem at_453_43 : am_at (am_m 453) 43 = some (.invokestatic 760, 454) := by decide +kernel
theorem at_453_46 : am_at (am_m 453) 46 = some (.aload_n 0, 0) := by decide +kernel
theorem at_453_47 : am_at (am_m 453) 47 = some (.getfield 51, 3093) := by decide +kernel
theorem at_453_50 : am_at (am_m 453) 50 = some (.iload_n 1, 0) := by decide +kernel
theorem at_453_51 : am_at (am_m 453) 51 = some (.iaload, 0) := by decide +kernel
theorem at_453_52 : am_at (am_m 453) 52 = some (.invokestatic 760, 454) := by decide +kernel
theorem at_453_55 : am_at (am_m 453) 55 = some (.if_icmp .eq 6, 61) := by decide +kernel
theorem at_453_58 : am_at (am_m 453) 58 = some (.goto 37, 95) := by decide +kernel
theorem at_453_61 : am_at (am_m 453) 61 = some (.aload_n 0, 0) := by decide +kernel
theorem at_453_62 : am_at (am_m 453) 62 = some (.invokevirtual 739, 442) := by decide +kernel
theorem at_453_65 : am_at (am_m 453) 65 = some (.aload_n 0, 0) := by decide +kernel
theorem at_453_66 : am_at (am_m 453) 66 = some (.getfield 45, 3088) := by decide +kernel
theorem at_453_69 : am_at (am_m 453) 69 = some (.iload_n 1, 0) := by decide +kernel
theorem at_453_70 : am_at (am_m 453) 70 = some (.iload_n 2, 0) := by decide +kernel
theorem at_453_71 : am_at (am_m 453) 71 = some (.iastore, 0) := by decide +kernel
theorem at_453_72 : am_at (am_m 453) 72 = some (.aload_n 0, 0) := by decide +kernel
theorem at_453_73 : am_at (am_m 453) 73 = some (.getfield 48, 3089) := by decide +kernel
theorem at_453_76 : am_at (am_m 453) 76 = some (.iload_n 1, 0) := by decide +kernel
theorem at_453_77 : am_at (am_m 453) 77 = some (.iload_n 2, 0) := by decide +kernel
theorem at_453_78 : am_at (am_m 453) 78 = some (.ifCond .ne 7, 85) := by decide +kernel
theorem at_453_81 : am_at (am_m 453) 81 = some (.iconst 1, 0) := by decide +kernel
theorem at_453_82 : am_at (am_m 453) 82 = some (.goto 4, 86) := by decide +kernel
theorem at_453_85 : am_at (am_m 453) 85 = some (.iconst 0, 0) := by decide +kernel
theorem at_453_86 : am_at (am_m 453) 86 = some (.iastore, 0) := by decide +kernel
theorem at_453_87 : am_at (am_m 453) 87 = some (.aload_n 0, 0) := by decide +kernel
theorem at_453_88 : am_at (am_m 453) 88 = some (.aload_n 0, 0) := by decide +kernel
theorem at_453_89 : am_at (am_m 453) 89 = some (.invokevirtual 742, 444) := by decide +kernel
theorem at_453_92 : am_at (am_m 453) 92 = some (.putfield 732, 3167) := by decide +kernel
theorem at_453_95 : am_at (am_m 453) 95 = some (.iinc 2 1, 0) := by decide +kernel
theorem at_453_98 : am_at (am_m 453) 98 = some (.goto (-79), 19) := by decide +kernel
theorem at_453_101 : am_at (am_m 453) 101 = some (.iinc 1 1, 0) := by decide +kernel
theorem at_453_104 : am_at (am_m 453) 104 = some (.goto (-102), 2) := by decide +kernel
theorem at_453_107 : am_at (am_m 453) 107 = some (.return_, 0) := by decide +kernel
theorem at_454_0 : am_at (am_m 454) 0 = some (.iload_n 0, 0) := by decide +kernel
theorem at_454_1 : am_at (am_m 454) 1 = some (.iconst 5, 0) := by decide +kernel
theorem at_454_2 : am_at (am_m 454) 2 = some (.if_icmp .ge 7, 9) := by decide +kernel
theorem at_454_5 : am_at (am_m 454) 5 = some (.iconst 0, 0) := by decide +kernel
theorem at_454_6 : am_at (am_m 454) 6 = some (.goto 26, 32) := by decide +kernel
theorem at_454_9 : am_at (am_m 454) 9 = some (.iload_n 0, 0) := by decide +kernel
theorem at_454_10 : am_at (am_m 454) 10 = some (.bipush 7, 0) := by decide +kernel
theorem at_454_12 : am_at (am_m 454) 12 = some (.if_icmp .ge 7, 19) := by decide +kernel
theorem at_454_15 : am_at (am_m 454) 15 = some (.iconst 1, 0) := by decide +kernel
theorem at_454_16 : am_at (am_m 454) 16 = some (.goto 16, 32) := by decide +kernel
theorem at_454_19 : am_at (am_m 454) 19 = some (.iload_n 0, 0) := by decide +kernel
theorem at_454_20 : am_at (am_m 454) 20 = some (.bipush 14, 0) := by decide +kernel
theorem at_454_22 : am_at (am_m 454) 22 = some (.if_icmp .ge 7, 29) := by decide +kernel
theorem at_454_25 : am_at (am_m 454) 25 = some (.iconst 2, 0) := by decide +kernel
theorem at_454_26 : am_at (am_m 454) 26 = some (.goto 6, 32) := by decide +kernel
theorem at_454_29 : am_at (am_m 454) 29 = some (.iconst 3, 0) := by decide +kernel
theorem at_454_30 : am_at (am_m 454) 30 = some (.iload_n 0, 0) := by decide +kernel
theorem at_454_31 : am_at (am_m 454) 31 = some (.iadd, 0) := by decide +kernel
theorem at_454_32 : am_at (am_m 454) 32 = some (.ireturn, 0) := by decide +kernel
theorem at_455_0 : am_at (am_m 455) 0 = some (.iconst 0, 0) := by decide +kernel
theorem at_455_1 : am_at (am_m 455) 1 = some (.istore_n 1, 0) := by decide +kernel
theorem at_455_2 : am_at (am_m 455) 2 = some (.iload_n 1, 0) := by decide +kernel
theorem at_455_3 : am_at (am_m 455) 3 = some (.aload_n 0, 0) := by decide +kernel
theorem at_455_4 : am_at (am_m 455) 4 = some (.getfield 315, 3090) := by decide +kernel
theorem at_455_7 : am_at (am_m 455) 7 = some (.if_icmp .ge 63, 70) := by decide +kernel
theorem at_455_10 : am_at (am_m 455) 10 = some (.aload_n 0, 0) := by decide +kernel
theorem at_455_11 : am_at (am_m 455) 11 = some (.getfield 732, 3167) := by decide +kernel
theorem at_455_14 : am_at (am_m 455) 14 = some (.ifCond .ne 56, 70) := by decide +kernel
theorem at_455_17 : am_at (am_m 455) 17 = some (.iconst 1, 0) := by decide +kernel
theorem at_455_18 : am_at (am_m 455) 18 = some (.istore_n 2, 0) := by decide +kernel
theorem at_455_19 : am_at (am_m 455) 19 = some (.iload_n 2, 0) := by decide +kernel
theorem at_455_20 : am_at (am_m 455) 20 = some (.iconst 4, 0) := by decide +kernel
theorem at_455_21 : am_at (am_m 455) 21 = some (.if_icmp .ge 43, 64) := by decide +kernel
theorem at_455_24 : am_at (am_m 455) 24 = some (.aload_n 0, 0) := by decide +kernel
theorem at_455_25 : am_at (am_m 455) 25 = some (.getfield 732, 3167) := by decide +kernel
theorem at_455_28 : am_at (am_m 455) 28 = some (.ifCond .ne 36, 64) := by decide +kernel
theorem at_455_31 : am_at (am_m 455) 31 = some (.iload_n 1, 0) := by decide +kernel
theorem at_455_32 : am_at (am_m 455) 32 = some (.iload_n 2, 0) := by decide +kernel
theorem at_455_33 : am_at (am_m 455) 33 = some (.iadd, 0) := by decide +kernel
theorem at_455_34 : am_at (am_m 455) 34 = some (.aload_n 0, 0) := by decide +kernel
theorem at_455_35 : am_at (am_m 455) 35 = some (.getfield 315, 3090) := by decide +kernel
theorem at_455_38 : am_at (am_m 455) 38 = some (.if_icmp .gt 20, 58) := by decide +kernel
theorem at_455_41 : am_at (am_m 455) 41 = some (.aload_n 0, 0) := by decide +kernel
theorem at_455_42 : am_at (am_m 455) 42 = some (.iload_n 1, 0) := by decide +kernel
theorem at_455_43 : am_at (am_m 455) 43 = some (.iload_n 2, 0) := by decide +kernel
theorem at_455_44 : am_at (am_m 455) 44 = some (.invokevirtual 763, 456) := by decide +kernel
theorem at_455_47 : am_at (am_m 455) 47 = some (.ifCond .eq 11, 58) := by decide +kernel
theorem at_455_50 : am_at (am_m 455) 50 = some (.aload_n 0, 0) := by decide +kernel
theorem at_455_51 : am_at (am_m 455) 51 = some (.aload_n 0, 0) := by decide +kernel
theorem at_455_52 : am_at (am_m 455) 52 = some (.invokevirtual 742, 444) := by decide +kernel
theorem at_455_55 : am_at (am_m 455) 55 = some (.putfield 732, 3167) := by decide +kernel
theorem at_455_58 : am_at (am_m 455) 58 = some (.iinc 2 1, 0) := by decide +kernel
theorem at_455_61 : am_at (am_m 455) 61 = some (.goto (-42), 19) := by decide +kernel
theorem at_455_64 : am_at (am_m 455) 64 = some (.iinc 1 1, 0) := by decide +kernel
theorem at_455_67 : am_at (am_m 455) 67 = some (.goto (-65), 2) := by decide +kernel
theorem at_455_70 : am_at (am_m 455) 70 = some (.return_, 0) := by decide +kernel
theorem at_456_0 : am_at (am_m 456) 0 = some (.aload_n 0, 0) := by decide +kernel
theorem at_456_1 : am_at (am_m 456) 1 = some (.invokevirtual 753, 451) := by decide +kernel
theorem at_456_4 : am_at (am_m 456) 4 = some (.iconst 0, 0) := by decide +kernel
theorem at_456_5 : am_at (am_m 456) 5 = some (.istore_n 3, 0) := by decide +kernel
theorem at_456_6 : am_at (am_m 456) 6 = some (.iload_n 3, 0) := by decide +kernel
theorem at_456_7 : am_at (am_m 456) 7 = some (.aload_n 0, 0) := by decide +kernel
theorem at_456_8 : am_at (am_m 456) 8 = some (.getfield 315, 3090) := by decide +kernel
theorem at_456_11 : am_at (am_m 456) 11 = some (.if_icmp .ge 103, 114) := by decide +kernel
theorem at_456_14 : am_at (am_m 456) 14 = some (.iload_n 3, 0) := by decide +kernel
theorem at_456_15 : am_at (am_m 456) 15 = some (.iload_n 1, 0) := by decide +kernel
theorem at_456_16 : am_at (am_m 456) 16 = some (.if_icmp .lt 13, 29) := by decide +kernel
theorem at_456_19 : am_at (am_m 456) 19 = some (.iload_n 3, 0) := by decide +kernel
theorem at_456_20 : am_at (am_m 456) 20 = some (.iload_n 1, 0) := by decide +kernel
theorem at_456_21 : am_at (am_m 456) 21 = some (.iload_n 2, 0) := by decide +kernel
theorem at_456_22 : am_at (am_m 456) 22 = some (.iadd, 0) := by decide +kernel
theorem at_456_23 : am_at (am_m 456) 23 = some (.if_icmp .ge 6, 29) := by decide +kernel
theorem at_456_26 : am_at (am_m 456) 26 = some (.goto 82, 108) := by decide +kernel
theorem at_456_29 : am_at (am_m 456) 29 = some (.aload_n 0, 0) := by decide +kernel
theorem at_456_30 : am_at (am_m 456) 30 = some (.getfield 54, 3094) := by decide +kernel
theorem at_456_33 : am_at (am_m 456) 33 = some (.iload_n 3, 0) := by decide +kernel
theorem at_456_34 : am_at (am_m 456) 34 = some (.iaload, 0) := by decide +kernel
theorem at_456_35 : am_at (am_m 456) 35 = some (.istore 4, 0) := by decide +kernel
theorem at_456_37 : am_at (am_m 456) 37 = some (.aload_n 0, 0) := by decide +kernel
theorem at_456_38 : am_at (am_m 456) 38 = some (.getfield 51, 3093) := by decide +kernel
theorem at_456_41 : am_at (am_m 456) 41 = some (.iload_n 3, 0) := by decide +kernel
theorem at_456_42 : am_at (am_m 456) 42 = some (.iaload, 0) := by decide +kernel
theorem at_456_43 : am_at (am_m 456) 43 = some (.bipush 16, 0) := by decide +kernel
theorem at_456_45 : am_at (am_m 456) 45 = some (.if_icmp .le 51, 96) := by decide +kernel
theorem at_456_48 : am_at (am_m 456) 48 = some (.iload_n 3, 0) := by decide +kernel
theorem at_456_49 : am_at (am_m 456) 49 = some (.iload_n 1, 0) := by decide +kernel
theorem at_456_50 : am_at (am_m 456) 50 = some (.if_icmp .ge 46, 96) := by decide +kernel
theorem at_456_53 : am_at (am_m 456) 53 = some (.iload_n 3, 0) := by decide +kernel
theorem at_456_54 : am_at (am_m 456) 54 = some (.iconst 1, 0) := by decide +kernel
theorem at_456_55 : am_at (am_m 456) 55 = some (.iadd, 0) := by decide +kernel
theorem at_456_56 : am_at (am_m 456) 56 = some (.iload 4, 0) := by decide +kernel
theorem at_456_58 : am_at (am_m 456) 58 = some (.iadd, 0) := by decide +kernel
theorem at_456_59 : am_at (am_m 456) 59 = some (.istore 5, 0) := by decide +kernel
theorem at_456_61 : am_at (am_m 456) 61 = some (.iload 5, 0) := by decide +kernel
theorem at_456_63 : am_at (am_m 456) 63 = some (.iload_n 1, 0) := by decide +kernel
theorem at_456_64 : am_at (am_m 456) 64 = some (.if_icmp .le 13, 77) := by decide +kernel
theorem at_456_67 : am_at (am_m 456) 67 = some (.iload 5, 0) := by decide +kernel
theorem at_456_69 : am_at (am_m 456) 69 = some (.iload_n 1, 0) := by decide +kernel
theorem at_456_70 : am_at (am_m 456) 70 = some (.iload_n 2, 0) := by decide +kernel
theorem at_456_71 : am_at (am_m 456) 71 = some (.iadd, 0) := by decide +kernel
theorem at_456_72 : am_at (am_m 456) 72 = some (.if_icmp .ge 5, 77) := by decide +kernel
theorem at_456_75 : am_at (am_m 456) 75 = some (.iconst 0, 0) := by decide +kernel
theorem at_456_76 : am_at (am_m 456) 76 = some (.ireturn, 0) := by decide +kernel
theorem at_456_77 : am_at (am_m 456) 77 = some (.iload 5, 0) := by decide +kernel
theorem at_456_79 : am_at (am_m 456) 79 = some (.iload_n 1, 0) := by decide +kernel
theorem at_456_80 : am_at (am_m 456) 80 = some (.iload_n 2, 0) := by decide +kernel
theorem at_456_81 : am_at (am_m 456) 81 = some (.iadd, 0) := by decide +kernel
theorem at_456_82 : am_at (am_m 456) 82 = some (.if_icmp .lt 10, 92) := by decide +kernel
theorem at_456_85 : am_at (am_m 456) 85 = some (.iload 4, 0) := by decide +kernel
theorem at_456_87 : am_at (am_m 456) 87 = some (.iload_n 2, 0) := by decide +kernel
theorem at_456_88 : am_at (am_m 456) 88 = some (.isub, 0) := by decide +kernel
theorem at_456_89 : am_at (am_m 456) 89 = some (.goto 5, 94) := by decide +kernel
theorem at_456_92 : am_at (am_m 456) 92 = some (.iload 4, 0) := by decide +kernel
theorem at_456_94 : am_at (am_m 456) 94 = some (.istore 4, 0) := by decide +kernel
theorem at_456_96 : am_at (am_m 456) 96 = some (.aload_n 0, 0) := by decide +kernel
theorem at_456_97 : am_at (am_m 456) 97 = some (.aload_n 0, 0) := by decide +kernel
theorem at_456_98 : am_at (am_m 456) 98 = some (.getfield 51, 3093) := by decide +kernel
theorem at_456_101 : am_at (am_m 456) 101 = some (.iload_n 3, 0) := by decide +kernel
theorem at_456_102 : am_at (am_m 456) 102 = some (.iaload, 0) := by decide +kernel
theorem at_456_103 : am_at (am_m 456) 103 = some (.iload 4, 0) := by decide +kernel
theorem at_456_105 : am_at (am_m 456) 105 = some (.invokevirtual 335, 335) := by decide +kernel
theorem at_456_108 : am_at (am_m 456) 108 = some (.iinc 3 1, 0) := by decide +kernel
theorem at_456_111 : am_at (am_m 456) 111 = some (.goto (-105), 6) := by decide +kernel
theorem at_456_114 : am_at (am_m 456) 114 = some (.iconst 1, 0) := by decide +kernel
theorem at_456_115 : am_at (am_m 456) 115 = some (.ireturn, 0) := by decide +kernel
theorem at_457_0 : am_at (am_m 457) 0 = some (.iconst 0, 0) := by decide +kernel
theorem at_457_1 : am_at (am_m 457) 1 = some (.istore_n 1, 0) := by decide +kernel
theorem at_457_2 : am_at (am_m 457) 2 = some (.iload_n 1, 0) := by decide +kernel
theorem at_457_3 : am_at (am_m 457) 3 = some (.aload_n 0, 0) := by decide +kernel
theorem at_457_4 : am_at (am_m 457) 4 = some (.getfield 315, 3090) := by decide +kernel
theorem at_457_7 : am_at (am_m 457) 7 = some (.if_icmp .gt 50, 57) := by decide +kernel
theorem at_457_10 : am_at (am_m 457) 10 = some (.aload_n 0, 0) := by decide +kernel
theorem at_457_11 : am_at (am_m 457) 11 = some (.getfield 732, 3167) := by decide +kernel
theorem at_457_14 : am_at (am_m 457) 14 = some (.ifCond .ne 43, 57) := by decide +kernel
theorem at_457_17 : am_at (am_m 457) 17 = some (.iconst 0, 0) := by decide +kernel
theorem at_457_18 : am_at (am_m 457) 18 = some (.istore_n 2, 0) := by decide +kernel
theorem at_457_19 : am_at (am_m 457) 19 = some (.iload_n 2, 0) := by decide +kernel
theorem at_457_20 : am_at (am_m 457) 20 = some (.iconst 5, 0) := by decide +kernel
theorem at_457_21 : am_at (am_m 457) 21 = some (.if_icmp .ge 30, 51) := by decide +kernel
theorem at_457_24 : am_at (am_m 457) 24 = some (.aload_n 0, 0) := by decide +kernel
theorem at_457_25 : am_at (am_m 457) 25 = some (.getfield 732, 3167) := by decide +kernel
theorem at_457_28 : am_at (am_m 457) 28 = some (.ifCond .ne 23, 51) := by decide +kernel
theorem at_457_31 : am_at (am_m 457) 31 = some (.aload_n 0, 0) := by decide +kernel
theorem at_457_32 : am_at (am_m 457) 32 = some (.iload_n 1, 0) := by decide +kernel
theorem at_457_33 : am_at (am_m 457) 33 = some (.iload_n 2, 0) := by decide +kernel
theorem at_457_34 : am_at (am_m 457) 34 = some (.invokevirtual 769, 458) := by decide +kernel
theorem at_457_37 : am_at (am_m 457) 37 = some (.aload_n 0, 0) := by decide +kernel
theorem at_457_38 : am_at (am_m 457) 38 = some (.aload_n 0, 0) := by decide +kernel
theorem at_457_39 : am_at (am_m 457) 39 = some (.invokevirtual 742, 444) := by decide +kernel
theorem at_457_42 : am_at (am_m 457) 42 = some (.putfield 732, 3167) := by decide +kernel
theorem at_457_45 : am_at (am_m 457) 45 = some (.iinc 2 1, 0) := by decide +kernel
theorem at_457_48 : am_at (am_m 457) 48 = some (.goto (-29), 19) := by decide +kernel
theorem at_457_51 : am_at (am_m 457) 51 = some (.iinc 1 1, 0) := by decide +kernel
theorem at_457_54 : am_at (am_m 457) 54 = some (.goto (-52), 2) := by decide +kernel
theorem at_457_57 : am_at (am_m 457) 57 = some (.return_, 0) := by decide +kernel
theorem at_458_0 : am_at (am_m 458) 0 = some (.iload_n 2, 0) := by decide +kernel
theorem at_458_1 : am_at (am_m 458) 1 = some (.ifCond .ne 7, 8) := by decide +kernel
theorem at_458_4 : am_at (am_m 458) 4 = some (.iconst 1, 0) := by decide +kernel
theorem at_458_5 : am_at (am_m 458) 5 = some (.goto 4, 9) := by decide +kernel
theorem at_458_8 : am_at (am_m 458) 8 = some (.iconst 2, 0) := by decide +kernel
theorem at_458_9 : am_at (am_m 458) 9 = some (.istore_n 3, 0) := by decide +kernel
theorem at_458_10 : am_at (am_m 458) 10 = some (.aload_n 0, 0) := by decide +kernel
theorem at_458_11 : am_at (am_m 458) 11 = some (.invokevirtual 753, 451) := by decide +kernel
theorem at_458_14 : am_at (am_m 458) 14 = some (.iconst 0, 0) := by decide +kernel
theorem at_458_15 : am_at (am_m 458) 15 = some (.istore 4, 0) := by decide +kernel
theorem at_458_17 : am_at (am_m 458) 17 = some (.iload 4, 0) := by decide +kernel
theorem at_458_19 : am_at (am_m 458) 19 = some (.aload_n 0, 0) := by decide +kernel
theorem at_458_20 : am_at (am_m 458) 20 = some (.getfield 315, 3090) := by decide +kernel
theorem at_458_23 : am_at (am_m 458) 23 = some (.if_icmp .ge 82, 105) := by decide +kernel
theorem at_458_26 : am_at (am_m 458) 26 = some (.iload 4, 0) := by decide +kernel
theorem at_458_28 : am_at (am_m 458) 28 = some (.iload_n 1, 0) := by decide +kernel
theorem at_458_29 : am_at (am_m 458) 29 = some (.if_icmp .ne 8, 37) := by decide +kernel
theorem at_458_32 : am_at (am_m 458) 32 = some (.aload_n 0, 0) := by decide +kernel
theorem at_458_33 : am_at (am_m 458) 33 = some (.iload_n 2, 0) := by decide +kernel
theorem at_458_34 : am_at (am_m 458) 34 = some (.invokevirtual 766, 459) := by decide +kernel
theorem at_458_37 : am_at (am_m 458) 37 = some (.aload_n 0, 0) := by decide +kernel
theorem at_458_38 : am_at (am_m 458) 38 = some (.getfield 54, 3094) := by decide +kernel
theorem at_458_41 : am_at (am_m 458) 41 = some (.iload 4, 0) := by decide +kernel
theorem at_458_43 : am_at (am_m 458) 43 = some (.iaload, 0) := by decide +kernel
theorem at_458_44 : am_at (am_m 458) 44 = some (.istore 5, 0) := by decide +kernel
theorem at_458_46 : am_at (am_m 458) 46 = some (.aload_n 0, 0) := by decide +kernel
theorem at_458_47 : am_at (am_m 458) 47 = some (.getfield 51, 3093) := by decide +kernel
theorem at_458_50 : am_at (am_m 458) 50 = some (.iload 4, 0) := by decide +kernel
theorem at_458_52 : am_at (am_m 458) 52 = some (.iaload, 0) := by decide +kernel
theorem at_458_53 : am_at (am_m 458) 53 = some (.bipush 16, 0) := by decide +kernel
theorem at_458_55 : am_at (am_m 458) 55 = some (.if_icmp .le 27, 82) := by decide +kernel
theorem at_458_58 : am_at (am_m 458) 58 = some (.iload 4, 0) := by decide +kernel
theorem at_458_60 : am_at (am_m 458) 60 = some (.iload_n 1, 0) := by decide +kernel
theorem at_458_61 : am_at (am_m 458) 61 = some (.if_icmp .ge 21, 82) := by decide +kernel
theorem at_458_64 : am_at (am_m 458) 64 = some (.iload 4, 0) := by decide +kernel
theorem at_458_66 : am_at (am_m 458) 66 = some (.iconst 1, 0) := by decide +kernel
theorem at_458_67 : am_at (am_m 458) 67 = some (.iadd, 0) := by decide +kernel
theorem at_458_68 : am_at (am_m 458) 68 = some (.iload 5, 0) := by decide +kernel
theorem at_458_70 : am_at (am_m 458) 70 = some (.iadd, 0) := by decide +kernel
theorem at_458_71 : am_at (am_m 458) 71 = some (.iload_n 1, 0) := by decide +kernel
theorem at_458_72 : am_at (am_m 458) 72 = some (.if_icmp .le 10, 82) := by decide +kernel
theorem at_458_75 : am_at (am_m 458) 75 = some (.iload 5, 0) := by decide +kernel
theorem at_458_77 : am_at (am_m 458) 77 = some (.iload_n 3, 0) := by decide +kernel
theorem at_458_78 : am_at (am_m 458) 78 = some (.iadd, 0) := by decide +kernel
theorem at_458_79 : am_at (am_m 458) 79 = some (.goto 5, 84) := by decide +kernel
theorem at_458_82 : am_at (am_m 458) 82 = some (.iload 5, 0) := by decide +kernel
theorem at_458_84 : am_at (am_m 458) 84 = some (.istore 5, 0) := by decide +kernel
theorem at_458_86 : am_at (am_m 458) 86 = some (.aload_n 0, 0) := by decide +kernel
theorem at_458_87 : am_at (am_m 458) 87 = some (.aload_n 0, 0) := by decide +kernel
theorem at_458_88 : am_at (am_m 458) 88 = some (.getfield 51, 3093) := by decide +kernel
theorem at_458_91 : am_at (am_m 458) 91 = some (.iload 4, 0) := by decide +kernel
theorem at_458_93 : am_at (am_m 458) 93 = some (.iaload, 0) := by decide +kernel
theorem at_458_94 : am_at (am_m 458) 94 = some (.iload 5, 0) := by decide +kernel
theorem at_458_96 : am_at (am_m 458) 96 = some (.invokevirtual 335, 335) := by decide +kernel
theorem at_458_99 : am_at (am_m 458) 99 = some (.iinc 4 1, 0) := by decide +kernel
theorem at_458_102 : am_at (am_m 458) 102 = some (.goto (-85), 17) := by decide +kernel
theorem at_458_105 : am_at (am_m 458) 105 = some (.iload_n 1, 0) := by decide +kernel
theorem at_458_106 : am_at (am_m 458) 106 = some (.aload_n 0, 0) := by decide +kernel
theorem at_458_107 : am_at (am_m 458) 107 = some (.getfield 315, 3090) := by decide +kernel
theorem at_458_110 : am_at (am_m 458) 110 = some (.if_icmp .ne 8, 118) := by decide +kernel
theorem at_458_113 : am_at (am_m 458) 113 = some (.aload_n 0, 0) := by decide +kernel
theorem at_458_114 : am_at (am_m 458) 114 = some (.iload_n 2, 0) := by decide +kernel
theorem at_458_115 : am_at (am_m 458) 115 = some (.invokevirtual 766, 459) := by decide +kernel
theorem at_458_118 : am_at (am_m 458) 118 = some (.return_, 0) := by decide +kernel
theorem at_459_0 : am_at (am_m 459) 0 = some (.iload_n 1, 0) := by decide +kernel
theorem at_459_1 : am_at (am_m 459) 1 = some (.ifCond .ne 10, 11) := by decide +kernel
theorem at_459_4 : am_at (am_m 459) 4 = some (.aload_n 0, 0) := by decide +kernel
theorem at_459_5 : am_at (am_m 459) 5 = some (.iconst 5, 0) := by decide +kernel
theorem at_459_6 : am_at (am_m 459) 6 = some (.iconst 0, 0) := by decide +kernel
theorem at_459_7 : am_at (am_m 459) 7 = some (.invokevirtual 335, 335) := by decide +kernel
theorem at_459_10 : am_at (am_m 459) 10 = some (.return_, 0) := by decide +kernel
theorem at_459_11 : am_at (am_m 459) 11 = some (.aload_n 0, 0) := by decide +kernel
theorem at_459_12 : am_at (am_m 459) 12 = some (.iload_n 1, 0) := by decide +kernel
theorem at_459_13 : am_at (am_m 459) 13 = some (.iconst 3, 0) := by decide +kernel
theorem at_459_14 : am_at (am_m 459) 14 = some (.if_icmp .ge 7, 21) := by decide +kernel
theorem at_459_17 : am_at (am_m 459) 17 = some (.iconst 0, 0) := by decide +kernel
theorem at_459_18 : am_at (am_m 459) 18 = some (.goto 14, 32) := by decide +kernel
theorem at_459_21 : am_at (am_m 459) 21 = some (.iload_n 1, 0) := by decide +kernel
theorem at_459_22 : am_at (am_m 459) 22 = some (.iconst 3, 0) := by decide +kernel
theorem at_459_23 : am_at (am_m 459) 23 = some (.if_icmp .ne 7, 30) := by decide +kernel
theorem at_459_26 : am_at (am_m 459) 26 = some (.iconst 1, 0) := by decide +kernel
theorem at_459_27 : am_at (am_m 459) 27 = some (.goto 5, 32) := by decide +kernel
theorem at_459_30 : am_at (am_m 459) 30 = some (.bipush 14, 0) := by decide +kernel
theorem at_459_32 : am_at (am_m 459) 32 = some (.iload_n 1, 0) := by decide +kernel
theorem at_459_33 : am_at (am_m 459) 33 = some (.iconst 3, 0) := by decide +kernel
theorem at_459_34 : am_at (am_m 459) 34 = some (.if_icmp .ge 7, 41) := by decide +kernel
theorem at_459_37 : am_at (am_m 459) 37 = some (.iconst 1, 0) := by decide +kernel
theorem at_459_38 : am_at (am_m 459) 38 = some (.goto 4, 42) := by decide +kernel
theorem at_459_41 : am_at (am_m 459) 41 = some (.iconst 0, 0) := by decide +kernel
theorem at_459_42 : am_at (am_m 459) 42 = some (.invokevirtual 335, 335) := by decide +kernel
theorem at_459_45 : am_at (am_m 459) 45 = some (.aload_n 0, 0) := by decide +kernel
theorem at_459_46 : am_at (am_m 459) 46 = some (.iload_n 1, 0) := by decide +kernel
theorem at_459_47 : am_at (am_m 459) 47 = some (.iconst 2, 0) := by decide +kernel
theorem at_459_48 : am_at (am_m 459) 48 = some (.if_icmp .ne 8, 56) := by decide +kernel
theorem at_459_51 : am_at (am_m 459) 51 = some (.bipush 8, 0) := by decide +kernel
theorem at_459_53 : am_at (am_m 459) 53 = some (.goto 15, 68) := by decide +kernel
theorem at_459_56 : am_at (am_m 459) 56 = some (.iload_n 1, 0) := by decide +kernel
theorem at_459_57 : am_at (am_m 459) 57 = some (.iconst 4, 0) := by decide +kernel
theorem at_459_58 : am_at (am_m 459) 58 = some (.if_icmp .ne 8, 66) := by decide +kernel
theorem at_459_61 : am_at (am_m 459) 61 = some (.bipush 9, 0) := by decide +kernel
theorem at_459_63 : am_at (am_m 459) 63 = some (.goto 5, 68) := by decide +kernel
theorem at_459_66 : am_at (am_m 459) 66 = some (.bipush 7, 0) := by decide +kernel
theorem at_459_68 : am_at (am_m 459) 68 = some (.iconst 0, 0) := by decide +kernel
theorem at_459_69 : am_at (am_m 459) 69 = some (.invokevirtual 335, 335) := by decide +kernel
theorem at_459_72 : am_at (am_m 459) 72 = some (.return_, 0) := by decide +kernel
theorem at_460_0 : am_at (am_m 460) 0 = some (.iconst 0, 0) := by decide +kernel
theorem at_460_1 : am_at (am_m 460) 1 = some (.istore_n 1, 0) := by decide +kernel
theorem at_460_2 : am_at (am_m 460) 2 = some (.iload_n 1, 0) := by decide +kernel
theorem at_460_3 : am_at (am_m 460) 3 = some (.aload_n 0, 0) := by decide +kernel
theorem at_460_4 : am_at (am_m 460) 4 = some (.getfield 315, 3090) := by decide +kernel
theorem at_460_7 : am_at (am_m 460) 7 = some (.if_icmp .ge 80, 87) := by decide +kernel
theorem at_460_10 : am_at (am_m 460) 10 = some (.aload_n 0, 0) := by decide +kernel
theorem at_460_11 : am_at (am_m 460) 11 = some (.getfield 732, 3167) := by decide +kernel
theorem at_460_14 : am_at (am_m 460) 14 = some (.ifCond .ne 73, 87) := by decide +kernel
theorem at_460_17 : am_at (am_m 460) 17 = some (.aload_n 0, 0) := by decide +kernel
theorem at_460_18 : am_at (am_m 460) 18 = some (.getfield 51, 3093) := by decide +kernel
theorem at_460_21 : am_at (am_m 460) 21 = some (.iload_n 1, 0) := by decide +kernel
theorem at_460_22 : am_at (am_m 460) 22 = some (.iaload, 0) := by decide +kernel
theorem at_460_23 : am_at (am_m 460) 23 = some (.istore_n 2, 0) := by decide +kernel
theorem at_460_24 : am_at (am_m 460) 24 = some (.aload_n 0, 0) := by decide +kernel
theorem at_460_25 : am_at (am_m 460) 25 = some (.iload_n 1, 0) := by decide +kernel
theorem at_460_26 : am_at (am_m 460) 26 = some (.iload_n 2, 0) := by decide +kernel
theorem at_460_27 : am_at (am_m 460) 27 = some (.iconst 1, 0) := by decide +kernel
theorem at_460_28 : am_at (am_m 460) 28 = some (.iadd, 0) := by decide +kernel
theorem at_460_29 : am_at (am_m 460) 29 = some (.invokevirtual 747, 461) := by decide +kernel
theorem at_460_32 : am_at (am_m 460) 32 = some (.ifCond .ne 49, 81) := by decide +kernel
theorem at_460_35 : am_at (am_m 460) 35 = some (.aload_n 0, 0) := by decide +kernel
theorem at_460_36 : am_at (am_m 460) 36 = some (.iload_n 1, 0) := by decide +kernel
theorem at_460_37 : am_at (am_m 460) 37 = some (.iload_n 2, 0) := by decide +kernel
theorem at_460_38 : am_at (am_m 460) 38 = some (.iconst 1, 0) := by decide +kernel
theorem at_460_39 : am_at (am_m 460) 39 = some (.isub, 0) := by decide +kernel
theorem at_460_40 : am_at (am_m 460) 40 = some (.invokevirtual 747, 461) := by decide +kernel
theorem at_460_43 : am_at (am_m 460) 43 = some (.ifCond .ne 38, 81) := by decide +kernel
theorem at_460_46 : am_at (am_m 460) 46 = some (.aload_n 0, 0) := by decide +kernel
theorem at_460_47 : am_at (am_m 460) 47 = some (.iload_n 1, 0) := by decide +kernel
theorem at_460_48 : am_at (am_m 460) 48 = some (.iload_n 2, 0) := by decide +kernel
theorem at_460_49 : am_at (am_m 460) 49 = some (.bipush 10, 0) := by decide +kernel
theorem at_460_51 : am_at (am_m 460) 51 = some (.iadd, 0) := by decide +kernel
theorem at_460_52 : am_at (am_m 460) 52 = some (.invokevirtual 747, 461) := by decide +kernel
theorem at_460_55 : am_at (am_m 460) 55 = some (.ifCond .ne 26, 81) := by decide +kernel
theorem at_460_58 : am_at (am_m 460) 58 = some (.aload_n 0, 0) := by decide +kernel
theorem at_460_59 : am_at (am_m 460) 59 = some (.iload_n 1, 0) := by decide +kernel
theorem at_460_60 : am_at (am_m 460) 60 = some (.iload_n 2, 0) := by decide +kernel
theorem at_460_61 : am_at (am_m 460) 61 = some (.bipush 10, 0) := by decide +kernel
theorem at_460_63 : am_at (am_m 460) 63 = some (.isub, 0) := by decide +kernel
theorem at_460_64 : am_at (am_m 460) 64 = some (.invokevirtual 747, 461) := by decide +kernel
theorem at_460_67 : am_at (am_m 460) 67 = some (.ifCond .ne 14, 81) := by decide +kernel
theorem at_460_70 : am_at (am_m 460) 70 = some (.aload_n 0, 0) := by decide +kernel
theorem at_460_71 : am_at (am_m 460) 71 = some (.aload_n 0, 0) := by decide +kernel
theorem at_460_72 : am_at (am_m 460) 72 = some (.iload_n 1, 0) := by decide +kernel
theorem at_460_73 : am_at (am_m 460) 73 = some (.iload_n 2, 0) := by decide +kernel
theorem at_460_74 : am_at (am_m 460) 74 = some (.ineg, 0) := by decide +kernel
theorem at_460_75 : am_at (am_m 460) 75 = some (.invokevirtual 747, 461) := by decide +kernel
theorem at_460_78 : am_at (am_m 460) 78 = some (.putfield 732, 3167) := by decide +kernel
theorem at_460_81 : am_at (am_m 460) 81 = some (.iinc 1 1, 0) := by decide +kernel
theorem at_460_84 : am_at (am_m 460) 84 = some (.goto (-82), 2) := by decide +kernel
theorem at_460_87 : am_at (am_m 460) 87 = some (.return_, 0) := by decide +kernel
theorem at_461_0 : am_at (am_m 461) 0 = some (.iload_n 2, 0) := by decide +kernel
theorem at_461_1 : am_at (am_m 461) 1 = some (.i2l, 0) := by decide +kernel
theorem at_461_2 : am_at (am_m 461) 2 = some (.ldc2_w 735, 61) := by decide +kernel
theorem at_461_5 : am_at (am_m 461) 5 = some (.ldc2_w 737, 62) := by decide +kernel
theorem at_461_8 : am_at (am_m 461) 8 = some (.invokestatic 299, 327) := by decide +kernel
theorem at_461_11 : am_at (am_m 461) 11 = some (.ifCond .eq 13, 24) := by decide +kernel
theorem at_461_14 : am_at (am_m 461) 14 = some (.iload_n 2, 0) := by decide +kernel
theorem at_461_15 : am_at (am_m 461) 15 = some (.aload_n 0, 0) := by decide +kernel
theorem at_461_16 : am_at (am_m 461) 16 = some (.getfield 51, 3093) := by decide +kernel
theorem at_461_19 : am_at (am_m 461) 19 = some (.iload_n 1, 0) := by decide +kernel
theorem at_461_20 : am_at (am_m 461) 20 = some (.iaload, 0) := by decide +kernel
theorem at_461_21 : am_at (am_m 461) 21 = some (.if_icmp .ne 5, 26) := by decide +kernel
theorem at_461_24 : am_at (am_m 461) 24 = some (.iconst 0, 0) := by decide +kernel
theorem at_461_25 : am_at (am_m 461) 25 = some (.ireturn, 0) := by decide +kernel
theorem at_461_26 : am_at (am_m 461) 26 = some (.aload_n 0, 0) := by decide +kernel
theorem at_461_27 : am_at (am_m 461) 27 = some (.invokevirtual 739, 442) := by decide +kernel
theorem at_461_30 : am_at (am_m 461) 30 = some (.aload_n 0, 0) := by decide +kernel
theorem at_461_31 : am_at (am_m 461) 31 = some (.getfield 45, 3088) := by decide +kernel
theorem at_461_34 : am_at (am_m 461) 34 = some (.iload_n 1, 0) := by decide +kernel
theorem at_461_35 : am_at (am_m 461) 35 = some (.iload_n 2, 0) := by decide +kernel
theorem at_461_36 : am_at (am_m 461) 36 = some (.iastore, 0) := by decide +kernel
theorem at_461_37 : am_at (am_m 461) 37 = some (.aload_n 0, 0) := by decide +kernel
theorem at_461_38 : am_at (am_m 461) 38 = some (.invokevirtual 742, 444) := by decide +kernel
theorem at_461_41 : am_at (am_m 461) 41 = some (.ireturn, 0) := by decide +kernel
theorem at_462_0 : am_at (am_m 462) 0 = some (.iconst 0, 0) := by decide +kernel
theorem at_462_1 : am_at (am_m 462) 1 = some (.istore_n 1, 0) := by decide +kernel
theorem at_462_2 : am_at (am_m 462) 2 = some (.iload_n 1, 0) := by decide +kernel
theorem at_462_3 : am_at (am_m 462) 3 = some (.aload_n 0, 0) := by decide +kernel
theorem at_462_4 : am_at (am_m 462) 4 = some (.getfield 315, 3090) := by decide +kernel
theorem at_462_7 : am_at (am_m 462) 7 = some (.if_icmp .ge 105, 112) := by decide +kernel
theorem at_462_10 : am_at (am_m 462) 10 = some (.aload_n 0, 0) := by decide +kernel
theorem at_462_11 : am_at (am_m 462) 11 = some (.getfield 732, 3167) := by decide +kernel
theorem at_462_14 : am_at (am_m 462) 14 = some (.ifCond .ne 98, 112) := by decide +kernel
theorem at_462_17 : am_at (am_m 462) 17 = some (.iconst 0, 0) := by decide +kernel
theorem at_462_18 : am_at (am_m 462) 18 = some (.istore_n 2, 0) := by decide +kernel
theorem at_462_19 : am_at (am_m 462) 19 = some (.iload_n 2, 0) := by decide +kernel
theorem at_462_20 : am_at (am_m 462) 20 = some (.iconst 4, 0) := by decide +kernel
theorem at_462_21 : am_at (am_m 462) 21 = some (.if_icmp .ge 85, 106) := by decide +kernel
theorem at_462_24 : am_at (am_m 462) 24 = some (.aload_n 0, 0) := by decide +kernel
theorem at_462_25 : am_at (am_m 462) 25 = some (.getfield 732, 3167) := by decide +kernel
theorem at_462_28 : am_at (am_m 462) 28 = some (.ifCond .ne 78, 106) := by decide +kernel
theorem at_462_31 : am_at (am_m 462) 31 = some (.iconst 0, 0) := by decide +kernel
theorem at_462_32 : am_at (am_m 462) 32 = some (.istore_n 3, 0) := by decide +kernel
theorem at_462_33 : am_at (am_m 462) 33 = some (.iload_n 3, 0) := by decide +kernel
theorem at_462_34 : am_at (am_m 462) 34 = some (.aload_n 0, 0) := by decide +kernel
theorem at_462_35 : am_at (am_m 462) 35 = some (.getfield 315, 3090) := by decide +kernel
theorem at_462_38 : am_at (am_m 462) 38 = some (.if_icmp .ge 62, 100) := by decide +kernel
theorem at_462_41 : am_at (am_m 462) 41 = some (.aload_n 0, 0) := by decide +kernel
theorem at_462_42 : am_at (am_m 462) 42 = some (.getfield 732, 3167) := by decide +kernel
theorem at_462_45 : am_at (am_m 462) 45 = some (.ifCond .ne 55, 100) := by decide +kernel
theorem at_462_48 : am_at (am_m 462) 48 = some (.iload_n 3, 0) := by decide +kernel
theorem at_462_49 : am_at (am_m 462) 49 = some (.aload_n 0, 0) := by decide +kernel
theorem at_462_50 : am_at (am_m 462) 50 = some (.getfield 54, 3094) := by decide +kernel
theorem at_462_53 : am_at (am_m 462) 53 = some (.iload_n 1, 0) := by decide +kernel
theorem at_462_54 : am_at (am_m 462) 54 = some (.iaload, 0) := by decide +kernel
theorem at_462_55 : am_at (am_m 462) 55 = some (.iload_n 2, 0) := by decide +kernel
theorem at_462_56 : am_at (am_m 462) 56 = some (.invokestatic 447, 367) := by decide +kernel
theorem at_462_59 : am_at (am_m 462) 59 = some (.if_icmp .ne 6, 65) := by decide +kernel
theorem at_462_62 : am_at (am_m 462) 62 = some (.goto 32, 94) := by decide +kernel
theorem at_462_65 : am_at (am_m 462) 65 = some (.aload_n 0, 0) := by decide +kernel
theorem at_462_66 : am_at (am_m 462) 66 = some (.invokevirtual 739, 442) := by decide +kernel
theorem at_462_69 : am_at (am_m 462) 69 = some (.aload_n 0, 0) := by decide +kernel
theorem at_462_70 : am_at (am_m 462) 70 = some (.getfield 48, 3089) := by decide +kernel
theorem at_462_73 : am_at (am_m 462) 73 = some (.iload_n 1, 0) := by decide +kernel
theorem at_462_74 : am_at (am_m 462) 74 = some (.aload_n 0, 0) := by decide +kernel
theorem at_462_75 : am_at (am_m 462) 75 = some (.getfield 48, 3089) := by decide +kernel
theorem at_462_78 : am_at (am_m 462) 78 = some (.iload_n 1, 0) := by decide +kernel
theorem at_462_79 : am_at (am_m 462) 79 = some (.iaload, 0) := by decide +kernel
theorem at_462_80 : am_at (am_m 462) 80 = some (.iload_n 2, 0) := by decide +kernel
theorem at_462_81 : am_at (am_m 462) 81 = some (.iload_n 3, 0) := by decide +kernel
theorem at_462_82 : am_at (am_m 462) 82 = some (.invokestatic 516, 353) := by decide +kernel
theorem at_462_85 : am_at (am_m 462) 85 = some (.iastore, 0) := by decide +kernel
theorem at_462_86 : am_at (am_m 462) 86 = some (.aload_n 0, 0) := by decide +kernel
theorem at_462_87 : am_at (am_m 462) 87 = some (.aload_n 0, 0) := by decide +kernel
theorem at_462_88 : am_at (am_m 462) 88 = some (.invokevirtual 742, 444) := by decide +kernel
theorem at_462_91 : am_at (am_m 462) 91 = some (.putfield 732, 3167) := by decide +kernel
theorem at_462_94 : am_at (am_m 462) 94 = some (.iinc 3 1, 0) := by decide +kernel
theorem at_462_97 : am_at (am_m 462) 97 = some (.goto (-64), 33) := by decide +kernel
theorem at_462_100 : am_at (am_m 462) 100 = some (.iinc 2 1, 0) := by decide +kernel
theorem at_462_103 : am_at (am_m 462) 103 = some (.goto (-84), 19) := by decide +kernel
theorem at_462_106 : am_at (am_m 462) 106 = some (.iinc 1 1, 0) := by decide +kernel
theorem at_462_109 : am_at (am_m 462) 109 = some (.goto (-107), 2) := by decide +kernel
theorem at_462_112 : am_at (am_m 462) 112 = some (.return_, 0) := by decide +kernel
theorem at_463_0 : am_at (am_m 463) 0 = some (.iconst 0, 0) := by decide +kernel
theorem at_463_1 : am_at (am_m 463) 1 = some (.istore_n 1, 0) := by decide +kernel
theorem at_463_2 : am_at (am_m 463) 2 = some (.iload_n 1, 0) := by decide +kernel
theorem at_463_3 : am_at (am_m 463) 3 = some (.aload_n 0, 0) := by decide +kernel
theorem at_463_4 : am_at (am_m 463) 4 = some (.getfield 315, 3090) := by decide +kernel
theorem at_463_7 : am_at (am_m 463) 7 = some (.if_icmp .ge 104, 111) := by decide +kernel
theorem at_463_10 : am_at (am_m 463) 10 = some (.aload_n 0, 0) := by decide +kernel
theorem at_463_11 : am_at (am_m 463) 11 = some (.getfield 315, 3090) := by decide +kernel
theorem at_463_14 : am_at (am_m 463) 14 = some (.bipush 6, 0) := by decide +kernel
theorem at_463_16 : am_at (am_m 463) 16 = some (.if_icmp .ge 95, 111) := by decide +kernel
theorem at_463_19 : am_at (am_m 463) 19 = some (.aload_n 0, 0) := by decide +kernel
theorem at_463_20 : am_at (am_m 463) 20 = some (.getfield 732, 3167) := by decide +kernel
theorem at_463_23 : am_at (am_m 463) 23 = some (.ifCond .ne 88, 111) := by decide +kernel
theorem at_463_26 : am_at (am_m 463) 26 = some (.iconst 0, 0) := by decide +kernel
theorem at_463_27 : am_at (am_m 463) 27 = some (.istore_n 2, 0) := by decide +kernel
theorem at_463_28 : am_at (am_m 463) 28 = some (.iload_n 2, 0) := by decide +kernel
theorem at_463_29 : am_at (am_m 463) 29 = some (.iconst 4, 0) := by decide +kernel
theorem at_463_30 : am_at (am_m 463) 30 = some (.if_icmp .ge 75, 105) := by decide +kernel
theorem at_463_33 : am_at (am_m 463) 33 = some (.aload_n 0, 0) := by decide +kernel
theorem at_463_34 : am_at (am_m 463) 34 = some (.getfield 732, 3167) := by decide +kernel
theorem at_463_37 : am_at (am_m 463) 37 = some (.ifCond .ne 68, 105) := by decide +kernel
theorem at_463_40 : am_at (am_m 463) 40 = some (.aload_n 0, 0) := by decide +kernel
theorem at_463_41 : am_at (am_m 463) 41 = some (.getfield 54, 3094) := by decide +kernel
theorem at_463_44 : am_at (am_m 463) 44 = some (.iload_n 1, 0) := by decide +kernel
theorem at_463_45 : am_at (am_m 463) 45 = some (.iaload, 0) := by decide +kernel
theorem at_463_46 : am_at (am_m 463) 46 = some (.iload_n 2, 0) := by decide +kernel
theorem at_463_47 : am_at (am_m 463) 47 = some (.invokestatic 447, 367) := by decide +kernel
theorem at_463_50 : am_at (am_m 463) 50 = some (.istore_n 3, 0) := by decide +kernel
theorem at_463_51 : am_at (am_m 463) 51 = some (.aload_n 0, 0) := by decide +kernel
theorem at_463_52 : am_at (am_m 463) 52 = some (.invokevirtual 739, 442) := by decide +kernel
theorem at_463_55 : am_at (am_m 463) 55 = some (.aload_n 0, 0) := by decide +kernel
theorem at_463_56 : am_at (am_m 463) 56 = some (.aload_n 0, 0) := by decide +kernel
theorem at_463_57 : am_at (am_m 463) 57 = some (.getfield 51, 3093) := by decide +kernel
theorem at_463_60 : am_at (am_m 463) 60 = some (.iload_n 3, 0) := by decide +kernel
theorem at_463_61 : am_at (am_m 463) 61 = some (.iaload, 0) := by decide +kernel
theorem at_463_62 : am_at (am_m 463) 62 = some (.aload_n 0, 0) := by decide +kernel
theorem at_463_63 : am_at (am_m 463) 63 = some (.getfield 54, 3094) := by decide +kernel
theorem at_463_66 : am_at (am_m 463) 66 = some (.iload_n 3, 0) := by decide +kernel
theorem at_463_67 : am_at (am_m 463) 67 = some (.iaload, 0) := by decide +kernel
theorem at_463_68 : am_at (am_m 463) 68 = some (.invokevirtual 335, 335) := by decide +kernel
theorem at_463_71 : am_at (am_m 463) 71 = some (.aload_n 0, 0) := by decide +kernel
theorem at_463_72 : am_at (am_m 463) 72 = some (.getfield 48, 3089) := by decide +kernel
theorem at_463_75 : am_at (am_m 463) 75 = some (.iload_n 1, 0) := by decide +kernel
theorem at_463_76 : am_at (am_m 463) 76 = some (.aload_n 0, 0) := by decide +kernel
theorem at_463_77 : am_at (am_m 463) 77 = some (.getfield 48, 3089) := by decide +kernel
theorem at_463_80 : am_at (am_m 463) 80 = some (.iload_n 1, 0) := by decide +kernel
theorem at_463_81 : am_at (am_m 463) 81 = some (.iaload, 0) := by decide +kernel
theorem at_463_82 : am_at (am_m 463) 82 = some (.iload_n 2, 0) := by decide +kernel
theorem at_463_83 : am_at (am_m 463) 83 = some (.aload_n 0, 0) := by decide +kernel
theorem at_463_84 : am_at (am_m 463) 84 = some (.getfield 315, 3090) := by decide +kernel
theorem at_463_87 : am_at (am_m 463) 87 = some (.invokestatic 516, 353) := by decide +kernel
theorem at_463_90 : am_at (am_m 463) 90 = some (.iastore, 0) := by decide +kernel
theorem at_463_91 : am_at (am_m 463) 91 = some (.aload_n 0, 0) := by decide +kernel
theorem at_463_92 : am_at (am_m 463) 92 = some (.aload_n 0, 0) := by decide +kernel
theorem at_463_93 : am_at (am_m 463) 93 = some (.invokevirtual 742, 444) := by decide +kernel
theorem at_463_96 : am_at (am_m 463) 96 = some (.putfield 732, 3167) := by decide +kernel
theorem at_463_99 : am_at (am_m 463) 99 = some (.iinc 2 1, 0) := by decide +kernel
theorem at_463_102 : am_at (am_m 463) 102 = some (.goto (-74), 28) := by decide +kernel
theorem at_463_105 : am_at (am_m 463) 105 = some (.iinc 1 1, 0) := by decide +kernel
theorem at_463_108 : am_at (am_m 463) 108 = some (.goto (-106), 2) := by decide +kernel
theorem at_463_111 : am_at (am_m 463) 111 = some (.return_, 0) := by decide +kernel
theorem at_464_0 : am_at (am_m 464) 0 = some (.iconst 1, 0) := by decide +kernel
theorem at_464_1 : am_at (am_m 464) 1 = some (.istore_n 1, 0) := by decide +kernel
theorem at_464_2 : am_at (am_m 464) 2 = some (.iload_n 1, 0) := by decide +kernel
theorem at_464_3 : am_at (am_m 464) 3 = some (.aload_n 0, 0) := by decide +kernel
theorem at_464_4 : am_at (am_m 464) 4 = some (.getfield 315, 3090) := by decide +kernel
theorem at_464_7 : am_at (am_m 464) 7 = some (.if_icmp .ge 125, 132) := by decide +kernel
theorem at_464_10 : am_at (am_m 464) 10 = some (.aload_n 0, 0) := by decide +kernel
theorem at_464_11 : am_at (am_m 464) 11 = some (.getfield 732, 3167) := by decide +kernel
theorem at_464_14 : am_at (am_m 464) 14 = some (.ifCond .ne 118, 132) := by decide +kernel
theorem at_464_17 : am_at (am_m 464) 17 = some (.aload_n 0, 0) := by decide +kernel
theorem at_464_18 : am_at (am_m 464) 18 = some (.invokevirtual 753, 451) := by decide +kernel
theorem at_464_21 : am_at (am_m 464) 21 = some (.iconst 0, 0) := by decide +kernel
theorem at_464_22 : am_at (am_m 464) 22 = some (.istore_n 2, 0) := by decide +kernel
theorem at_464_23 : am_at (am_m 464) 23 = some (.iload_n 2, 0) := by decide +kernel
theorem at_464_24 : am_at (am_m 464) 24 = some (.aload_n 0, 0) := by decide +kernel
theorem at_464_25 : am_at (am_m 464) 25 = some (.getfield 315, 3090) := by decide +kernel
theorem at_464_28 : am_at (am_m 464) 28 = some (.if_icmp .ge 90, 118) := by decide +kernel
theorem at_464_31 : am_at (am_m 464) 31 = some (.iload_n 2, 0) := by decide +kernel
theorem at_464_32 : am_at (am_m 464) 32 = some (.iload_n 1, 0) := by decide +kernel
theorem at_464_33 : am_at (am_m 464) 33 = some (.if_icmp .ne 6, 39) := by decide +kernel
theorem at_464_36 : am_at (am_m 464) 36 = some (.goto 76, 112) := by decide +kernel
theorem at_464_39 : am_at (am_m 464) 39 = some (.iconst 0, 0) := by decide +kernel
theorem at_464_40 : am_at (am_m 464) 40 = some (.istore_n 3, 0) := by decide +kernel
theorem at_464_41 : am_at (am_m 464) 41 = some (.iconst 0, 0) := by decide +kernel
theorem at_464_42 : am_at (am_m 464) 42 = some (.istore 4, 0) := by decide +kernel
theorem at_464_44 : am_at (am_m 464) 44 = some (.iload 4, 0) := by decide +kernel
theorem at_464_46 : am_at (am_m 464) 46 = some (.iconst 4, 0) := by decide +kernel
theorem at_464_47 : am_at (am_m 464) 47 = some (.if_icmp .ge 54, 101) := by decide +kernel
theorem at_464_50 : am_at (am_m 464) 50 = some (.aload_n 0, 0) := by decide +kernel
theorem at_464_51 : am_at (am_m 464) 51 = some (.getfield 54, 3094) := by decide +kernel
theorem at_464_54 : am_at (am_m 464) 54 = some (.iload_n 2, 0) := by decide +kernel
theorem at_464_55 : am_at (am_m 464) 55 = some (.iaload, 0) := by decide +kernel
theorem at_464_56 : am_at (am_m 464) 56 = some (.iload 4, 0) := by decide +kernel
theorem at_464_58 : am_at (am_m 464) 58 = some (.invokestatic 447, 367) := by decide +kernel
theorem at_464_61 : am_at (am_m 464) 61 = some (.istore 5, 0) := by decide +kernel
theorem at_464_63 : am_at (am_m 464) 63 = some (.iload_n 3, 0) := by decide +kernel
theorem at_464_64 : am_at (am_m 464) 64 = some (.iload 4, 0) := by decide +kernel
theorem at_464_66 : am_at (am_m 464) 66 = some (.iload 5, 0) := by decide +kernel
theorem at_464_68 : am_at (am_m 464) 68 = some (.iload_n 1, 0) := by decide +kernel
theorem at_464_69 : am_at (am_m 464) 69 = some (.if_icmp .ne 7, 76) := by decide +kernel
theorem at_464_72 : am_at (am_m 464) 72 = some (.iconst 0, 0) := by decide +kernel
theorem at_464_73 : am_at (am_m 464) 73 = some (.goto 18, 91) := by decide +kernel
theorem at_464_76 : am_at (am_m 464) 76 = some (.iload 5, 0) := by decide +kernel
theorem at_464_78 : am_at (am_m 464) 78 = some (.iload_n 1, 0) := by decide +kernel
theorem at_464_79 : am_at (am_m 464) 79 = some (.if_icmp .le 10, 89) := by decide +kernel
theorem at_464_82 : am_at (am_m 464) 82 = some (.iload 5, 0) := by decide +kernel
theorem at_464_84 : am_at (am_m 464) 84 = some (.iconst 1, 0) := by decide +kernel
theorem at_464_85 : am_at (am_m 464) 85 = some (.isub, 0) := by decide +kernel
theorem at_464_86 : am_at (am_m 464) 86 = some (.goto 5, 91) := by decide +kernel
theorem at_464_89 : am_at (am_m 464) 89 = some (.iload 5, 0) := by decide +kernel
theorem at_464_91 : am_at (am_m 464) 91 = some (.invokestatic 516, 353) := by decide +kernel
theorem at_464_94 : am_at (am_m 464) 94 = some (.istore_n 3, 0) := by decide +kernel
theorem at_464_95 : am_at (am_m 464) 95 = some (.iinc 4 1, 0) := by decide +kernel
theorem at_464_98 : am_at (am_m 464) 98 = some (.goto (-54), 44) := by decide +kernel
theorem at_464_101 : am_at (am_m 464) 101 = some (.aload_n 0, 0) := by decide +kernel
theorem at_464_102 : am_at (am_m 464) 102 = some (.aload_n 0, 0) := by decide +kernel
theorem at_464_103 : am_at (am_m 464) 103 = some (.getfield 51, 3093) := by decide +kernel
theorem at_464_106 : am_at (am_m 464) 106 = some (.iload_n 2, 0) := by decide +kernel
theorem at_464_107 : am_at (am_m 464) 107 = some (.iaload, 0) := by decide +kernel
theorem at_464_108 : am_at (am_m 464) 108 = some (.iload_n 3, 0) := by decide +kernel
theorem at_464_109 : am_at (am_m 464) 109 = some (.invokevirtual 335, 335) := by decide +kernel
theorem at_464_112 : am_at (am_m 464) 112 = some (.iinc 2 1, 0) := by decide +kernel
theorem at_464_115 : am_at (am_m 464) 115 = some (.goto (-92), 23) := by decide +kernel
theorem at_464_118 : am_at (am_m 464) 118 = some (.aload_n 0, 0) := by decide +kernel
theorem at_464_119 : am_at (am_m 464) 119 = some (.aload_n 0, 0) := by decide +kernel
theorem at_464_120 : am_at (am_m 464) 120 = some (.invokevirtual 742, 444) := by decide +kernel
theorem at_464_123 : am_at (am_m 464) 123 = some (.putfield 732, 3167) := by decide +kernel
theorem at_464_126 : am_at (am_m 464) 126 = some (.iinc 1 1, 0) := by decide +kernel
theorem at_464_129 : am_at (am_m 464) 129 = some (.goto (-127), 2) := by decide +kernel
theorem at_464_132 : am_at (am_m 464) 132 = some (.return_, 0) := by decide +kernel
theorem at_465_0 : am_at (am_m 465) 0 = some (.iconst 0, 0) := by decide +kernel
theorem at_465_1 : am_at (am_m 465) 1 = some (.istore_n 1, 0) := by decide +kernel
theorem at_465_2 : am_at (am_m 465) 2 = some (.iload_n 1, 0) := by decide +kernel
theorem at_465_3 : am_at (am_m 465) 3 = some (.aload_n 0, 0) := by decide +kernel
theorem at_465_4 : am_at (am_m 465) 4 = some (.getfield 315, 3090) := by decide +kernel
theorem at_465_7 : am_at (am_m 465) 7 = some (.if_icmp .ge 113, 120) := by decide +kernel
theorem at_465_10 : am_at (am_m 465) 10 = some (.aload_n 0, 0) := by decide +kernel
theorem at_465_11 : am_at (am_m 465) 11 = some (.getfield 732, 3167) := by decide +kernel
theorem at_465_14 : am_at (am_m 465) 14 = some (.ifCond .ne 106, 120) := by decide +kernel
theorem at_465_17 : am_at (am_m 465) 17 = some (.iconst 0, 0) := by decide +kernel
theorem at_465_18 : am_at (am_m 465) 18 = some (.istore_n 2, 0) := by decide +kernel
theorem at_465_19 : am_at (am_m 465) 19 = some (.iload_n 2, 0) := by decide +kernel
theorem at_465_20 : am_at (am_m 465) 20 = some (.aload_n 0, 0) := by decide +kernel
theorem at_465_21 : am_at (am_m 465) 21 = some (.getfield 318, 3091) := by decide +kernel
theorem at_465_24 : am_at (am_m 465) 24 = some (.if_icmp .ge 90, 114) := by decide +kernel
theorem at_465_27 : am_at (am_m 465) 27 = some (.aload_n 0, 0) := by decide +kernel
theorem at_465_28 : am_at (am_m 465) 28 = some (.getfield 732, 3167) := by decide +kernel
theorem at_465_31 : am_at (am_m 465) 31 = some (.ifCond .ne 83, 114) := by decide +kernel
theorem at_465_34 : am_at (am_m 465) 34 = some (.iload_n 2, 0) := by decide +kernel
theorem at_465_35 : am_at (am_m 465) 35 = some (.iconst 1, 0) := by decide +kernel
theorem at_465_36 : am_at (am_m 465) 36 = some (.iadd, 0) := by decide +kernel
theorem at_465_37 : am_at (am_m 465) 37 = some (.istore_n 3, 0) := by decide +kernel
theorem at_465_38 : am_at (am_m 465) 38 = some (.iload_n 3, 0) := by decide +kernel
theorem at_465_39 : am_at (am_m 465) 39 = some (.aload_n 0, 0) := by decide +kernel
theorem at_465_40 : am_at (am_m 465) 40 = some (.getfield 318, 3091) := by decide +kernel
theorem at_465_43 : am_at (am_m 465) 43 = some (.if_icmp .ge 65, 108) := by decide +kernel
theorem at_465_46 : am_at (am_m 465) 46 = some (.aload_n 0, 0) := by decide +kernel
theorem at_465_47 : am_at (am_m 465) 47 = some (.getfield 732, 3167) := by decide +kernel
theorem at_465_50 : am_at (am_m 465) 50 = some (.ifCond .ne 58, 108) := by decide +kernel
theorem at_465_53 : am_at (am_m 465) 53 = some (.iload_n 2, 0) := by decide +kernel
theorem at_465_54 : am_at (am_m 465) 54 = some (.aload_n 0, 0) := by decide +kernel
theorem at_465_55 : am_at (am_m 465) 55 = some (.getfield 51, 3093) := by decide +kernel
theorem at_465_58 : am_at (am_m 465) 58 = some (.iload_n 1, 0) := by decide +kernel
theorem at_465_59 : am_at (am_m 465) 59 = some (.iaload, 0) := by decide +kernel
theorem at_465_60 : am_at (am_m 465) 60 = some (.if_icmp .ne 16, 76) := by decide +kernel
theorem at_465_63 : am_at (am_m 465) 63 = some (.iload_n 3, 0) := by decide +kernel
theorem at_465_64 : am_at (am_m 465) 64 = some (.aload_n 0, 0) := by decide +kernel
theorem at_465_65 : am_at (am_m 465) 65 = some (.getfield 54, 3094) := by decide +kernel
theorem at_465_68 : am_at (am_m 465) 68 = some (.iload_n 1, 0) := by decide +kernel
theorem at_465_69 : am_at (am_m 465) 69 = some (.iaload, 0) := by decide +kernel
theorem at_465_70 : am_at (am_m 465) 70 = some (.if_icmp .ne 6, 76) := by decide +kernel
theorem at_465_73 : am_at (am_m 465) 73 = some (.goto 29, 102) := by decide +kernel
theorem at_465_76 : am_at (am_m 465) 76 = some (.aload_n 0, 0) := by decide +kernel
theorem at_465_77 : am_at (am_m 465) 77 = some (.invokevirtual 739, 442) := by decide +kernel
theorem at_465_80 : am_at (am_m 465) 80 = some (.aload_n 0, 0) := by decide +kernel
theorem at_465_81 : am_at (am_m 465) 81 = some (.getfield 45, 3088) := by decide +kernel
theorem at_465_84 : am_at (am_m 465) 84 = some (.iload_n 1, 0) := by decide +kernel
theorem at_465_85 : am_at (am_m 465) 85 = some (.iload_n 2, 0) := by decide +kernel
theorem at_465_86 : am_at (am_m 465) 86 = some (.iastore, 0) := by decide +kernel
theorem at_465_87 : am_at (am_m 465) 87 = some (.aload_n 0, 0) := by decide +kernel
theorem at_465_88 : am_at (am_m 465) 88 = some (.getfield 48, 3089) := by decide +kernel
theorem at_465_91 : am_at (am_m 465) 91 = some (.iload_n 1, 0) := by decide +kernel
theorem at_465_92 : am_at (am_m 465) 92 = some (.iload_n 3, 0) := by decide +kernel
theorem at_465_93 : am_at (am_m 465) 93 = some (.iastore, 0) := by decide +kernel
theorem at_465_94 : am_at (am_m 465) 94 = some (.aload_n 0, 0) := by decide +kernel
theorem at_465_95 : am_at (am_m 465) 95 = some (.aload_n 0, 0) := by decide +kernel
theorem at_465_96 : am_at (am_m 465) 96 = some (.invokevirtual 742, 444) := by decide +kernel
theorem at_465_99 : am_at (am_m 465) 99 = some (.putfield 732, 3167) := by decide +kernel
theorem at_465_102 : am_at (am_m 465) 102 = some (.iinc 3 1, 0) := by decide +kernel
theorem at_465_105 : am_at (am_m 465) 105 = some (.goto (-67), 38) := by decide +kernel
theorem at_465_108 : am_at (am_m 465) 108 = some (.iinc 2 1, 0) := by decide +kernel
theorem at_465_111 : am_at (am_m 465) 111 = some (.goto (-92), 19) := by decide +kernel
theorem at_465_114 : am_at (am_m 465) 114 = some (.iinc 1 1, 0) := by decide +kernel
theorem at_465_117 : am_at (am_m 465) 117 = some (.goto (-115), 2) := by decide +kernel
theorem at_465_120 : am_at (am_m 465) 120 = some (.return_, 0) := by decide +kernel
theorem at_466_0 : am_at (am_m 466) 0 = some (.iconst 0, 0) := by decide +kernel
theorem at_466_1 : am_at (am_m 466) 1 = some (.istore_n 1, 0) := by decide +kernel
theorem at_466_2 : am_at (am_m 466) 2 = some (.iload_n 1, 0) := by decide +kernel
theorem at_466_3 : am_at (am_m 466) 3 = some (.aload_n 0, 0) := by decide +kernel
theorem at_466_4 : am_at (am_m 466) 4 = some (.getfield 315, 3090) := by decide +kernel
theorem at_466_7 : am_at (am_m 466) 7 = some (.if_icmp .ge 45, 52) := by decide +kernel
theorem at_466_10 : am_at (am_m 466) 10 = some (.aload_n 0, 0) := by decide +kernel
theorem at_466_11 : am_at (am_m 466) 11 = some (.getfield 732, 3167) := by decide +kernel
theorem at_466_14 : am_at (am_m 466) 14 = some (.ifCond .ne 38, 52) := by decide +kernel
theorem at_466_17 : am_at (am_m 466) 17 = some (.aload_n 0, 0) := by decide +kernel
theorem at_466_18 : am_at (am_m 466) 18 = some (.invokevirtual 753, 451) := by decide +kernel
theorem at_466_21 : am_at (am_m 466) 21 = some (.aload_n 0, 0) := by decide +kernel
theorem at_466_22 : am_at (am_m 466) 22 = some (.iconst 0, 0) := by decide +kernel
theorem at_466_23 : am_at (am_m 466) 23 = some (.iload_n 1, 0) := by decide +kernel
theorem at_466_24 : am_at (am_m 466) 24 = some (.invokevirtual 331, 443) := by decide +kernel
theorem at_466_27 : am_at (am_m 466) 27 = some (.aload_n 0, 0) := by decide +kernel
theorem at_466_28 : am_at (am_m 466) 28 = some (.iload_n 1, 0) := by decide +kernel
theorem at_466_29 : am_at (am_m 466) 29 = some (.iconst 1, 0) := by decide +kernel
theorem at_466_30 : am_at (am_m 466) 30 = some (.iadd, 0) := by decide +kernel
theorem at_466_31 : am_at (am_m 466) 31 = some (.aload_n 0, 0) := by decide +kernel
theorem at_466_32 : am_at (am_m 466) 32 = some (.getfield 315, 3090) := by decide +kernel
theorem at_466_35 : am_at (am_m 466) 35 = some (.invokevirtual 331, 443) := by decide +kernel
theorem at_466_38 : am_at (am_m 466) 38 = some (.aload_n 0, 0) := by decide +kernel
theorem at_466_39 : am_at (am_m 466) 39 = some (.aload_n 0, 0) := by decide +kernel
theorem at_466_40 : am_at (am_m 466) 40 = some (.invokevirtual 742, 444) := by decide +kernel
theorem at_466_43 : am_at (am_m 466) 43 = some (.putfield 732, 3167) := by decide +kernel
theorem at_466_46 : am_at (am_m 466) 46 = some (.iinc 1 1, 0) := by decide +kernel
theorem at_466_49 : am_at (am_m 466) 49 = some (.goto (-47), 2) := by decide +kernel
theorem at_466_52 : am_at (am_m 466) 52 = some (.return_, 0) := by decide +kernel
theorem at_467_0 : am_at (am_m 467) 0 = some (.iconst 0, 0) := by decide +kernel
theorem at_467_1 : am_at (am_m 467) 1 = some (.istore_n 1, 0) := by decide +kernel
theorem at_467_2 : am_at (am_m 467) 2 = some (.iload_n 1, 0) := by decide +kernel
theorem at_467_3 : am_at (am_m 467) 3 = some (.aload_n 0, 0) := by decide +kernel
theorem at_467_4 : am_at (am_m 467) 4 = some (.getfield 315, 3090) := by decide +kernel
theorem at_467_7 : am_at (am_m 467) 7 = some (.if_icmp .gt 97, 104) := by decide +kernel
theorem at_467_10 : am_at (am_m 467) 10 = some (.aload_n 0, 0) := by decide +kernel
theorem at_467_11 : am_at (am_m 467) 11 = some (.getfield 732, 3167) := by decide +kernel
theorem at_467_14 : am_at (am_m 467) 14 = some (.ifCond .ne 90, 104) := by decide +kernel
theorem at_467_17 : am_at (am_m 467) 17 = some (.iconst 0, 0) := by decide +kernel
theorem at_467_18 : am_at (am_m 467) 18 = some (.istore_n 2, 0) := by decide +kernel
theorem at_467_19 : am_at (am_m 467) 19 = some (.iload_n 2, 0) := by decide +kernel
theorem at_467_20 : am_at (am_m 467) 20 = some (.aload_n 0, 0) := by decide +kernel
theorem at_467_21 : am_at (am_m 467) 21 = some (.getfield 318, 3091) := by decide +kernel
theorem at_467_24 : am_at (am_m 467) 24 = some (.if_icmp .ge 74, 98) := by decide +kernel
theorem at_467_27 : am_at (am_m 467) 27 = some (.aload_n 0, 0) := by decide +kernel
theorem at_467_28 : am_at (am_m 467) 28 = some (.getfield 732, 3167) := by decide +kernel
theorem at_467_31 : am_at (am_m 467) 31 = some (.ifCond .ne 67, 98) := by decide +kernel
theorem at_467_34 : am_at (am_m 467) 34 = some (.iload_n 2, 0) := by decide +kernel
theorem at_467_35 : am_at (am_m 467) 35 = some (.iconst 1, 0) := by decide +kernel
theorem at_467_36 : am_at (am_m 467) 36 = some (.iadd, 0) := by decide +kernel
theorem at_467_37 : am_at (am_m 467) 37 = some (.istore_n 3, 0) := by decide +kernel
theorem at_467_38 : am_at (am_m 467) 38 = some (.iload_n 3, 0) := by decide +kernel
theorem at_467_39 : am_at (am_m 467) 39 = some (.aload_n 0, 0) := by decide +kernel
theorem at_467_40 : am_at (am_m 467) 40 = some (.getfield 318, 3091) := by decide +kernel
theorem at_467_43 : am_at (am_m 467) 43 = some (.if_icmp .ge 49, 92) := by decide +kernel
theorem at_467_46 : am_at (am_m 467) 46 = some (.aload_n 0, 0) := by decide +kernel
theorem at_467_47 : am_at (am_m 467) 47 = some (.getfield 732, 3167) := by decide +kernel
theorem at_467_50 : am_at (am_m 467) 50 = some (.ifCond .ne 42, 92) := by decide +kernel
theorem at_467_53 : am_at (am_m 467) 53 = some (.aload_n 0, 0) := by decide +kernel
theorem at_467_54 : am_at (am_m 467) 54 = some (.invokevirtual 753, 451) := by decide +kernel
theorem at_467_57 : am_at (am_m 467) 57 = some (.aload_n 0, 0) := by decide +kernel
theorem at_467_58 : am_at (am_m 467) 58 = some (.iconst 0, 0) := by decide +kernel
theorem at_467_59 : am_at (am_m 467) 59 = some (.iload_n 1, 0) := by decide +kernel
theorem at_467_60 : am_at (am_m 467) 60 = some (.invokevirtual 331, 443) := by decide +kernel
theorem at_467_63 : am_at (am_m 467) 63 = some (.aload_n 0, 0) := by decide +kernel
theorem at_467_64 : am_at (am_m 467) 64 = some (.iload_n 2, 0) := by decide +kernel
theorem at_467_65 : am_at (am_m 467) 65 = some (.iload_n 3, 0) := by decide +kernel
theorem at_467_66 : am_at (am_m 467) 66 = some (.invokevirtual 335, 335) := by decide +kernel
theorem at_467_69 : am_at (am_m 467) 69 = some (.aload_n 0, 0) := by decide +kernel
theorem at_467_70 : am_at (am_m 467) 70 = some (.iload_n 1, 0) := by decide +kernel
theorem at_467_71 : am_at (am_m 467) 71 = some (.aload_n 0, 0) := by decide +kernel
theorem at_467_72 : am_at (am_m 467) 72 = some (.getfield 315, 3090) := by decide +kernel
theorem at_467_75 : am_at (am_m 467) 75 = some (.invokevirtual 331, 443) := by decide +kernel
theorem at_467_78 : am_at (am_m 467) 78 = some (.aload_n 0, 0) := by decide +kernel
theorem at_467_79 : am_at (am_m 467) 79 = some (.aload_n 0, 0) := by decide +kernel
theorem at_467_80 : am_at (am_m 467) 80 = some (.invokevirtual 742, 444) := by decide +kernel
theorem at_467_83 : am_at (am_m 467) 83 = some (.putfield 732, 3167) := by decide +kernel
theorem at_467_86 : am_at (am_m 467) 86 = some (.iinc 3 1, 0) := by decide +kernel
theorem at_467_89 : am_at (am_m 467) 89 = some (.goto (-51), 38) := by decide +kernel
theorem at_467_92 : am_at (am_m 467) 92 = some (.iinc 2 1, 0) := by decide +kernel
theorem at_467_95 : am_at (am_m 467) 95 = some (.goto (-76), 19) := by decide +kernel
theorem at_467_98 : am_at (am_m 467) 98 = some (.iinc 1 1, 0) := by decide +kernel
theorem at_467_101 : am_at (am_m 467) 101 = some (.goto (-99), 2) := by decide +kernel
theorem at_467_104 : am_at (am_m 467) 104 = some (.return_, 0) := by decide +kernel
theorem at_468_0 : am_at (am_m 468) 0 = some (.iconst 0, 0) := by decide +kernel
theorem at_468_1 : am_at (am_m 468) 1 = some (.istore_n 1, 0) := by decide +kernel
theorem at_468_2 : am_at (am_m 468) 2 = some (.iload_n 1, 0) := by decide +kernel
theorem at_468_3 : am_at (am_m 468) 3 = some (.iconst 1, 0) := by decide +kernel
theorem at_468_4 : am_at (am_m 468) 4 = some (.iadd, 0) := by decide +kernel
theorem at_468_5 : am_at (am_m 468) 5 = some (.aload_n 0, 0) := by decide +kernel
theorem at_468_6 : am_at (am_m 468) 6 = some (.getfield 315, 3090) := by decide +kernel
theorem at_468_9 : am_at (am_m 468) 9 = some (.if_icmp .ge 121, 130) := by decide +kernel
theorem at_468_12 : am_at (am_m 468) 12 = some (.aload_n 0, 0) := by decide +kernel
theorem at_468_13 : am_at (am_m 468) 13 = some (.getfield 732, 3167) := by decide +kernel
theorem at_468_16 : am_at (am_m 468) 16 = some (.ifCond .ne 114, 130) := by decide +kernel
theorem at_468_19 : am_at (am_m 468) 19 = some (.aload_n 0, 0) := by decide +kernel
theorem at_468_20 : am_at (am_m 468) 20 = some (.getfield 51, 3093) := by decide +kernel
theorem at_468_23 : am_at (am_m 468) 23 = some (.iload_n 1, 0) := by decide +kernel
theorem at_468_24 : am_at (am_m 468) 24 = some (.iaload, 0) := by decide +kernel
theorem at_468_25 : am_at (am_m 468) 25 = some (.aload_n 0, 0) := by decide +kernel
theorem at_468_26 : am_at (am_m 468) 26 = some (.getfield 51, 3093) := by decide +kernel
theorem at_468_29 : am_at (am_m 468) 29 = some (.iload_n 1, 0) := by decide +kernel
theorem at_468_30 : am_at (am_m 468) 30 = some (.iconst 1, 0) := by decide +kernel
theorem at_468_31 : am_at (am_m 468) 31 = some (.iadd, 0) := by decide +kernel
theorem at_468_32 : am_at (am_m 468) 32 = some (.iaload, 0) := by decide +kernel
theorem at_468_33 : am_at (am_m 468) 33 = some (.if_icmp .ne 23, 56) := by decide +kernel
theorem at_468_36 : am_at (am_m 468) 36 = some (.aload_n 0, 0) := by decide +kernel
theorem at_468_37 : am_at (am_m 468) 37 = some (.getfield 54, 3094) := by decide +kernel
theorem at_468_40 : am_at (am_m 468) 40 = some (.iload_n 1, 0) := by decide +kernel
theorem at_468_41 : am_at (am_m 468) 41 = some (.iaload, 0) := by decide +kernel
theorem at_468_42 : am_at (am_m 468) 42 = some (.aload_n 0, 0) := by decide +kernel
theorem at_468_43 : am_at (am_m 468) 43 = some (.getfield 54, 3094) := by decide +kernel
theorem at_468_46 : am_at (am_m 468) 46 = some (.iload_n 1, 0) := by decide +kernel
theorem at_468_47 : am_at (am_m 468) 47 = some (.iconst 1, 0) := by decide +kernel
theorem at_468_48 : am_at (am_m 468) 48 = some (.iadd, 0) := by decide +kernel
theorem at_468_49 : am_at (am_m 468) 49 = some (.iaload, 0) := by decide +kernel
theorem at_468_50 : am_at (am_m 468) 50 = some (.if_icmp .ne 6, 56) := by decide +kernel
theorem at_468_53 : am_at (am_m 468) 53 = some (.goto 71, 124) := by decide +kernel
theorem at_468_56 : am_at (am_m 468) 56 = some (.aload_n 0, 0) := by decide +kernel
theorem at_468_57 : am_at (am_m 468) 57 = some (.invokevirtual 739, 442) := by decide +kernel
theorem at_468_60 : am_at (am_m 468) 60 = some (.aload_n 0, 0) := by decide +kernel
theorem at_468_61 : am_at (am_m 468) 61 = some (.getfield 45, 3088) := by decide +kernel
theorem at_468_64 : am_at (am_m 468) 64 = some (.iload_n 1, 0) := by decide +kernel
theorem at_468_65 : am_at (am_m 468) 65 = some (.aload_n 0, 0) := by decide +kernel
theorem at_468_66 : am_at (am_m 468) 66 = some (.getfield 51, 3093) := by decide +kernel
theorem at_468_69 : am_at (am_m 468) 69 = some (.iload_n 1, 0) := by decide +kernel
theorem at_468_70 : am_at (am_m 468) 70 = some (.iconst 1, 0) := by decide +kernel
theorem at_468_71 : am_at (am_m 468) 71 = some (.iadd, 0) := by decide +kernel
theorem at_468_72 : am_at (am_m 468) 72 = some (.iaload, 0) := by decide +kernel
theorem at_468_73 : am_at (am_m 468) 73 = some (.iastore, 0) := by decide +kernel
theorem at_468_74 : am_at (am_m 468) 74 = some (.aload_n 0, 0) := by decide +kernel
theorem at_468_75 : am_at (am_m 468) 75 = some (.getfield 48, 3089) := by decide +kernel
theorem at_468_78 : am_at (am_m 468) 78 = some (.iload_n 1, 0) := by decide +kernel
theorem at_468_79 : am_at (am_m 468) 79 = some (.aload_n 0, 0) := by decide +kernel
theorem at_468_80 : am_at (am_m 468) 80 = some (.getfield 54, 3094) := by decide +kernel
theorem at_468_83 : am_at (am_m 468) 83 = some (.iload_n 1, 0) := by decide +kernel
theorem at_468_84 : am_at (am_m 468) 84 = some (.iconst 1, 0) := by decide +kernel
theorem at_468_85 : am_at (am_m 468) 85 = some (.iadd, 0) := by decide +kernel
theorem at_468_86 : am_at (am_m 468) 86 = some (.iaload, 0) := by decide +kernel
theorem at_468_87 : am_at (am_m 468) 87 = some (.iastore, 0) := by decide +kernel
theorem at_468_88 : am_at (am_m 468) 88 = some (.aload_n 0, 0) := by decide +kernel
theorem at_468_89 : am_at (am_m 468) 89 = some (.getfield 45, 3088) := by decide +kernel
theorem at_468_92 : am_at (am_m 468) 92 = some (.iload_n 1, 0) := by decide +kernel
theorem at_468_93 : am_at (am_m 468) 93 = some (.iconst 1, 0) := by decide +kernel
theorem at_468_94 : am_at (am_m 468) 94 = some (.iadd, 0) := by decide +kernel
theorem at_468_95 : am_at (am_m 468) 95 = some (.aload_n 0, 0) := by decide +kernel
theorem at_468_96 : am_at (am_m 468) 96 = some (.getfield 51, 3093) := by decide +kernel
theorem at_468_99 : am_at (am_m 468) 99 = some (.iload_n 1, 0) := by decide +kernel
theorem at_468_100 : am_at (am_m 468) 100 = some (.iaload, 0) := by decide +kernel
theorem at_468_101 : am_at (am_m 468) 101 = some (.iastore, 0) := by decide +kernel
theorem at_468_102 : am_at (am_m 468) 102 = some (.aload_n 0, 0) := by decide +kernel
theorem at_468_103 : am_at (am_m 468) 103 = some (.getfield 48, 3089) := by decide +kernel
theorem at_468_106 : am_at (am_m 468) 106 = some (.iload_n 1, 0) := by decide +kernel
theorem at_468_107 : am_at (am_m 468) 107 = some (.iconst 1, 0) := by decide +kernel
theorem at_468_108 : am_at (am_m 468) 108 = some (.iadd, 0) := by decide +kernel
theorem at_468_109 : am_at (am_m 468) 109 = some (.aload_n 0, 0) := by decide +kernel
theorem at_468_110 : am_at (am_m 468) 110 = some (.getfield 54, 3094) := by decide +kernel
theorem at_468_113 : am_at (am_m 468) 113 = some (.iload_n 1, 0) := by decide +kernel
theorem at_468_114 : am_at (am_m 468) 114 = some (.iaload, 0) := by decide +kernel
theorem at_468_115 : am_at (am_m 468) 115 = some (.iastore, 0) := by decide +kernel
theorem at_468_116 : am_at (am_m 468) 116 = some (.aload_n 0, 0) := by decide +kernel
theorem at_468_117 : am_at (am_m 468) 117 = some (.aload_n 0, 0) := by decide +kernel
theorem at_468_118 : am_at (am_m 468) 118 = some (.invokevirtual 742, 444) := by decide +kernel
theorem at_468_121 : am_at (am_m 468) 121 = some (.putfield 732, 3167) := by decide +kernel
theorem at_468_124 : am_at (am_m 468) 124 = some (.iinc 1 1, 0) := by decide +kernel
theorem at_468_127 : am_at (am_m 468) 127 = some (.goto (-125), 2) := by decide +kernel
theorem at_468_130 : am_at (am_m 468) 130 = some (.return_, 0) := by decide +kernel
theorem at_469_0 : am_at (am_m 469) 0 = some (.aload_n 0, 0) := by decide +kernel
theorem at_469_1 : am_at (am_m 469) 1 = some (.aload_n 0, 0) := by decide +kernel
theorem at_469_2 : am_at (am_m 469) 2 = some (.iload_n 1, 0) := by decide +kernel
theorem at_469_3 : am_at (am_m 469) 3 = some (.invokevirtual 568, 358) := by decide +kernel
theorem at_469_6 : am_at (am_m 469) 6 = some (.ifCond .ne 7, 13) := by decide +kernel
theorem at_469_9 : am_at (am_m 469) 9 = some (.iconst 1, 0) := by decide +kernel
theorem at_469_10 : am_at (am_m 469) 10 = some (.goto 4, 14) := by decide +kernel
theorem at_469_13 : am_at (am_m 469) 13 = some (.iconst 0, 0) := by decide +kernel
theorem at_469_14 : am_at (am_m 469) 14 = some (.putfield 292, 3072) := by decide +kernel
theorem at_469_17 : am_at (am_m 469) 17 = some (.aload_n 0, 0) := by decide +kernel
theorem at_469_18 : am_at (am_m 469) 18 = some (.getfield 292, 3072) := by decide +kernel
theorem at_469_21 : am_at (am_m 469) 21 = some (.ifCond .le 5, 26) := by decide +kernel
theorem at_469_24 : am_at (am_m 469) 24 = some (.iconst 0, 0) := by decide +kernel
theorem at_469_25 : am_at (am_m 469) 25 = some (.ireturn, 0) := by decide +kernel
theorem at_469_26 : am_at (am_m 469) 26 = some (.iload_n 2, 0) := by decide +kernel
theorem at_469_27 : am_at (am_m 469) 27 = some (.i2l, 0) := by decide +kernel
theorem at_469_28 : am_at (am_m 469) 28 = some (.lconst 0, 0) := by decide +kernel
theorem at_469_29 : am_at (am_m 469) 29 = some (.ldc2_w 529, 48) := by decide +kernel
theorem at_469_32 : am_at (am_m 469) 32 = some (.invokestatic 299, 327) := by decide +kernel
theorem at_469_35 : am_at (am_m 469) 35 = some (.istore 4, 0) := by decide +kernel
theorem at_469_37 : am_at (am_m 469) 37 = some (.aload_n 0, 0) := by decide +kernel
theorem at_469_38 : am_at (am_m 469) 38 = some (.iload_n 1, 0) := by decide +kernel
theorem at_469_39 : am_at (am_m 469) 39 = some (.invokevirtual 635, 391) := by decide +kernel
theorem at_469_42 : am_at (am_m 469) 42 = some (.iload 4, 0) := by decide +kernel
theorem at_469_44 : am_at (am_m 469) 44 = some (.ifCond .eq 14, 58) := by decide +kernel
theorem at_469_47 : am_at (am_m 469) 47 = some (.iload_n 3, 0) := by decide +kernel
theorem at_469_48 : am_at (am_m 469) 48 = some (.ifCond .lt 10, 58) := by decide +kernel
theorem at_469_51 : am_at (am_m 469) 51 = some (.aload_n 0, 0) := by decide +kernel
theorem at_469_52 : am_at (am_m 469) 52 = some (.iload_n 2, 0) := by decide +kernel
theorem at_469_53 : am_at (am_m 469) 53 = some (.iload_n 3, 0) := by decide +kernel
theorem at_469_54 : am_at (am_m 469) 54 = some (.invokevirtual 817, 439) := by decide +kernel
theorem at_469_57 : am_at (am_m 469) 57 = some (.pop, 0) := by decide +kernel
theorem at_469_58 : am_at (am_m 469) 58 = some (.aload_n 0, 0) := by decide +kernel
theorem at_469_59 : am_at (am_m 469) 59 = some (.iload 4, 0) := by decide +kernel
theorem at_469_61 : am_at (am_m 469) 61 = some (.ifCond .eq 18, 79) := by decide +kernel
theorem at_469_64 : am_at (am_m 469) 64 = some (.iload_n 3, 0) := by decide +kernel
theorem at_469_65 : am_at (am_m 469) 65 = some (.ifCond .lt 14, 79) := by decide +kernel
theorem at_469_68 : am_at (am_m 469) 68 = some (.aload_n 0, 0) := by decide +kernel
theorem at_469_69 : am_at (am_m 469) 69 = some (.getfield 732, 3167) := by decide +kernel
theorem at_469_72 : am_at (am_m 469) 72 = some (.ifCond .eq 7, 79) := by decide +kernel
theorem at_469_75 : am_at (am_m 469) 75 = some (.iconst 1, 0) := by decide +kernel
theorem at_469_76 : am_at (am_m 469) 76 = some (.goto 4, 80) := by decide +kernel
theorem at_469_79 : am_at (am_m 469) 79 = some (.iconst 0, 0) := by decide +kernel
theorem at_469_80 : am_at (am_m 469) 80 = some (.putfield 732, 3167) := by decide +kernel
theorem at_469_83 : am_at (am_m 469) 83 = some (.aload_n 0, 0) := by decide +kernel
theorem at_469_84 : am_at (am_m 469) 84 = some (.iload 4, 0) := by decide +kernel
theorem at_469_86 : am_at (am_m 469) 86 = some (.ifCond .eq 14, 100) := by decide +kernel
theorem at_469_89 : am_at (am_m 469) 89 = some (.aload_n 0, 0) := by decide +kernel
theorem at_469_90 : am_at (am_m 469) 90 = some (.getfield 732, 3167) := by decide +kernel
theorem at_469_93 : am_at (am_m 469) 93 = some (.ifCond .ne 7, 100) := by decide +kernel
theorem at_469_96 : am_at (am_m 469) 96 = some (.iconst 1, 0) := by decide +kernel
theorem at_469_97 : am_at (am_m 469) 97 = some (.goto 27, 124) := by decide +kernel
theorem at_469_100 : am_at (am_m 469) 100 = some (.iload 4, 0) := by decide +kernel
theorem at_469_102 : am_at (am_m 469) 102 = some (.ifCond .ne 7, 109) := by decide +kernel
theorem at_469_105 : am_at (am_m 469) 105 = some (.iconst 2, 0) := by decide +kernel
theorem at_469_106 : am_at (am_m 469) 106 = some (.goto 18, 124) := by decide +kernel
theorem at_469_109 : am_at (am_m 469) 109 = some (.aload_n 0, 0) := by decide +kernel
theorem at_469_110 : am_at (am_m 469) 110 = some (.getfield 296, 3073) := by decide +kernel
theorem at_469_113 : am_at (am_m 469) 113 = some (.sipush 600, 0) := by decide +kernel
theorem at_469_116 : am_at (am_m 469) 116 = some (.if_icmp .ne 7, 123) := by decide +kernel
theorem at_469_119 : am_at (am_m 469) 119 = some (.iconst 3, 0) := by decide +kernel
theorem at_469_120 : am_at (am_m 469) 120 = some (.goto 4, 124) := by decide +kernel
theorem at_469_123 : am_at (am_m 469) 123 = some (.iconst 0, 0) := by decide +kernel
theorem at_469_124 : am_at (am_m 469) 124 = some (.putfield 292, 3072) := by decide +kernel
theorem at_469_127 : am_at (am_m 469) 127 = some (.aload_n 0, 0) := by decide +kernel
theorem at_469_128 : am_at (am_m 469) 128 = some (.getfield 292, 3072) := by decide +kernel
theorem at_469_131 : am_at (am_m 469) 131 = some (.ifCond .le 7, 138) := by decide +kernel
theorem at_469_134 : am_at (am_m 469) 134 = some (.iconst 0, 0) := by decide +kernel
theorem at_469_135 : am_at (am_m 469) 135 = some (.goto 13, 148) := by decide +kernel
theorem at_469_138 : am_at (am_m 469) 138 = some (.aload_n 0, 0) := by decide +kernel
theorem at_469_139 : am_at (am_m 469) 139 = some (.iconst 3, 0) := by decide +kernel
theorem at_469_140 : am_at (am_m 469) 140 = some (.iload_n 1, 0) := by decide +kernel
theorem at_469_141 : am_at (am_m 469) 141 = some (.iconst (-1), 0) := by decide +kernel
theorem at_469_142 : am_at (am_m 469) 142 = some (.iload_n 2, 0) := by decide +kernel
theorem at_469_143 : am_at (am_m 469) 143 = some (.iload_n 3, 0) := by decide +kernel
theorem at_469_144 : am_at (am_m 469) 144 = some (.lconst 0, 0) := by decide +kernel
theorem at_469_145 : am_at (am_m 469) 145 = some (.invokevirtual 543, 356) := by decide +kernel
theorem at_469_148 : am_at (am_m 469) 148 = some (.ireturn, 0) := by decide +kernel
theorem at_470_0 : am_at (am_m 470) 0 = some (.aload_n 0, 0) := by decide +kernel
theorem at_470_1 : am_at (am_m 470) 1 = some (.aload_n 0, 0) := by decide +kernel
theorem at_470_2 : am_at (am_m 470) 2 = some (.iload_n 1, 0) := by decide +kernel
theorem at_470_3 : am_at (am_m 470) 3 = some (.invokevirtual 568, 358) := by decide +kernel
theorem at_470_6 : am_at (am_m 470) 6 = some (.ifCond .ne 7, 13) := by decide +kernel
theorem at_470_9 : am_at (am_m 470) 9 = some (.iconst 1, 0) := by decide +kernel
theorem at_470_10 : am_at (am_m 470) 10 = some (.goto 31, 41) := by decide +kernel
theorem at_470_13 : am_at (am_m 470) 13 = some (.aload_n 0, 0) := by decide +kernel
theorem at_470_14 : am_at (am_m 470) 14 = some (.iload_n 1, 0) := by decide +kernel
theorem at_470_15 : am_at (am_m 470) 15 = some (.iload_n 2, 0) := by decide +kernel
theorem at_470_16 : am_at (am_m 470) 16 = some (.invokevirtual 849, 471) := by decide +kernel
theorem at_470_19 : am_at (am_m 470) 19 = some (.ifCond .ne 7, 26) := by decide +kernel
theorem at_470_22 : am_at (am_m 470) 22 = some (.iconst 2, 0) := by decide +kernel
theorem at_470_23 : am_at (am_m 470) 23 = some (.goto 18, 41) := by decide +kernel
theorem at_470_26 : am_at (am_m 470) 26 = some (.aload_n 0, 0) := by decide +kernel
theorem at_470_27 : am_at (am_m 470) 27 = some (.getfield 296, 3073) := by decide +kernel
theorem at_470_30 : am_at (am_m 470) 30 = some (.sipush 600, 0) := by decide +kernel
theorem at_470_33 : am_at (am_m 470) 33 = some (.if_icmp .ne 7, 40) := by decide +kernel
theorem at_470_36 : am_at (am_m 470) 36 = some (.iconst 3, 0) := by decide +kernel
theorem at_470_37 : am_at (am_m 470) 37 = some (.goto 4, 41) := by decide +kernel
theorem at_470_40 : am_at (am_m 470) 40 = some (.iconst 0, 0) := by decide +kernel
theorem at_470_41 : am_at (am_m 470) 41 = some (.putfield 292, 3072) := by decide +kernel
theorem at_470_44 : am_at (am_m 470) 44 = some (.aload_n 0, 0) := by decide +kernel
theorem at_470_45 : am_at (am_m 470) 45 = some (.getfield 292, 3072) := by decide +kernel
theorem at_470_48 : am_at (am_m 470) 48 = some (.ifCond .le 5, 53) := by decide +kernel
theorem at_470_51 : am_at (am_m 470) 51 = some (.iconst 0, 0) := by decide +kernel
theorem at_470_52 : am_at (am_m 470) 52 = some (.ireturn, 0) := by decide +kernel
theorem at_470_53 : am_at (am_m 470) 53 = some (.aload_n 0, 0) := by decide +kernel
theorem at_470_54 : am_at (am_m 470) 54 = some (.iload_n 1, 0) := by decide +kernel
theorem at_470_55 : am_at (am_m 470) 55 = some (.invokevirtual 635, 391) := by decide +kernel
theorem at_470_58 : am_at (am_m 470) 58 = some (.aload_n 0, 0) := by decide +kernel
theorem at_470_59 : am_at (am_m 470) 59 = some (.iload_n 2, 0) := by decide +kernel
theorem at_470_60 : am_at (am_m 470) 60 = some (.lload_n 3, 0) := by decide +kernel
theorem at_470_61 : am_at (am_m 470) 61 = some (.invokevirtual 852, 472) := by decide +kernel
theorem at_470_64 : am_at (am_m 470) 64 = some (.aload_n 0, 0) := by decide +kernel
theorem at_470_65 : am_at (am_m 470) 65 = some (.iconst 3, 0) := by decide +kernel
theorem at_470_66 : am_at (am_m 470) 66 = some (.iload_n 1, 0) := by decide +kernel
theorem at_470_67 : am_at (am_m 470) 67 = some (.iconst (-1), 0) := by decide +kernel
theorem at_470_68 : am_at (am_m 470) 68 = some (.iload_n 2, 0) := by decide +kernel
theorem at_470_69 : am_at (am_m 470) 69 = some (.aload_n 0, 0) := by decide +kernel
theorem at_470_70 : am_at (am_m 470) 70 = some (.getfield 843, 3169) := by decide +kernel
theorem at_470_73 : am_at (am_m 470) 73 = some (.lload_n 3, 0) := by decide +kernel
theorem at_470_74 : am_at (am_m 470) 74 = some (.invokevirtual 543, 356) := by decide +kernel
theorem at_470_77 : am_at (am_m 470) 77 = some (.ireturn, 0) := by decide +kernel
theorem at_471_0 : am_at (am_m 471) 0 = some (.iload_n 2, 0) := by decide +kernel
theorem at_471_1 : am_at (am_m 471) 1 = some (.i2l, 0) := by decide +kernel
theorem at_471_2 : am_at (am_m 471) 2 = some (.lconst 0, 0) := by decide +kernel
theorem at_471_3 : am_at (am_m 471) 3 = some (.ldc2_w 529, 48) := by decide +kernel
theorem at_471_6 : am_at (am_m 471) 6 = some (.invokestatic 299, 327) := by decide +kernel
theorem at_471_9 : am_at (am_m 471) 9 = some (.ifCond .ne 29, 38) := by decide +kernel
theorem at_471_12 : am_at (am_m 471) 12 = some (.iload_n 2, 0) := by decide +kernel
theorem at_471_13 : am_at (am_m 471) 13 = some (.iconst 4, 0) := by decide +kernel
theorem at_471_14 : am_at (am_m 471) 14 = some (.if_icmp .ne 28, 42) := by decide +kernel
theorem at_471_17 : am_at (am_m 471) 17 = some (.aload_n 0, 0) := by decide +kernel
theorem at_471_18 : am_at (am_m 471) 18 = some (.getfield 7, 3074) := by decide +kernel
theorem at_471_21 : am_at (am_m 471) 21 = some (.aload_n 0, 0) := by decide +kernel
theorem at_471_22 : am_at (am_m 471) 22 = some (.iload_n 1, 0) := by decide +kernel
theorem at_471_23 : am_at (am_m 471) 23 = some (.invokevirtual 568, 358) := by decide +kernel
theorem at_471_26 : am_at (am_m 471) 26 = some (.ifCond .eq 7, 33) := by decide +kernel
theorem at_471_29 : am_at (am_m 471) 29 = some (.iload_n 1, 0) := by decide +kernel
theorem at_471_30 : am_at (am_m 471) 30 = some (.goto 4, 34) := by decide +kernel
theorem at_471_33 : am_at (am_m 471) 33 = some (.iconst 0, 0) := by decide +kernel
theorem at_471_34 : am_at (am_m 471) 34 = some (.iaload, 0) := by decide +kernel
theorem at_471_35 : am_at (am_m 471) 35 = some (.ifCond .ne 7, 42) := by decide +kernel
theorem at_471_38 : am_at (am_m 471) 38 = some (.iconst 1, 0) := by decide +kernel
theorem at_471_39 : am_at (am_m 471) 39 = some (.goto 4, 43) := by decide +kernel
theorem at_471_42 : am_at (am_m 471) 42 = some (.iconst 0, 0) := by decide +kernel
theorem at_471_43 : am_at (am_m 471) 43 = some (.ireturn, 0) := by decide +kernel
theorem at_472_0 : am_at (am_m 472) 0 = some (.aload_n 0, 0) := by decide +kernel
theorem at_472_1 : am_at (am_m 472) 1 = some (.lload_n 2, 0) := by decide +kernel
theorem at_472_2 : am_at (am_m 472) 2 = some (.putfield 820, 3168) := by decide +kernel
theorem at_472_5 : am_at (am_m 472) 5 = some (.aload_n 0, 0) := by decide +kernel
theorem at_472_6 : am_at (am_m 472) 6 = some (.iconst (-1), 0) := by decide +kernel
theorem at_472_7 : am_at (am_m 472) 7 = some (.putfield 843, 3169) := by decide +kernel
theorem at_472_10 : am_at (am_m 472) 10 = some (.iload_n 1, 0) := by decide +kernel
theorem at_472_11 : am_at (am_m 472) 11 = some (.iconst 4, 0) := by decide +kernel
theorem at_472_12 : am_at (am_m 472) 12 = some (.if_icmp .ne 8, 20) := by decide +kernel
theorem at_472_15 : am_at (am_m 472) 15 = some (.aload_n 0, 0) := by decide +kernel
theorem at_472_16 : am_at (am_m 472) 16 = some (.invokevirtual 846, 473) := by decide +kernel
theorem at_472_19 : am_at (am_m 472) 19 = some (.return_, 0) := by decide +kernel
theorem at_472_20 : am_at (am_m 472) 20 = some (.aload_n 0, 0) := by decide +kernel
theorem at_472_21 : am_at (am_m 472) 21 = some (.iload_n 1, 0) := by decide +kernel
theorem at_472_22 : am_at (am_m 472) 22 = some (.iconst (-1), 0) := by decide +kernel
theorem at_472_23 : am_at (am_m 472) 23 = some (.invokevirtual 817, 439) := by decide +kernel
theorem at_472_26 : am_at (am_m 472) 26 = some (.istore 4, 0) := by decide +kernel
theorem at_472_28 : am_at (am_m 472) 28 = some (.iload 4, 0) := by decide +kernel
theorem at_472_30 : am_at (am_m 472) 30 = some (.ifCond .ne 8, 38) := by decide +kernel
theorem at_472_33 : am_at (am_m 472) 33 = some (.aload_n 0, 0) := by decide +kernel
theorem at_472_34 : am_at (am_m 472) 34 = some (.invokevirtual 739, 442) := by decide +kernel
theorem at_472_37 : am_at (am_m 472) 37 = some (.return_, 0) := by decide +kernel
theorem at_472_38 : am_at (am_m 472) 38 = some (.aload_n 0, 0) := by decide +kernel
theorem at_472_39 : am_at (am_m 472) 39 = some (.aload_n 0, 0) := by decide +kernel
theorem at_472_40 : am_at (am_m 472) 40 = some (.iload 4, 0) := by decide +kernel
theorem at_472_42 : am_at (am_m 472) 42 = some (.invokevirtual 833, 474) := by decide +kernel
theorem at_472_45 : am_at (am_m 472) 45 = some (.putfield 843, 3169) := by decide +kernel
theorem at_472_48 : am_at (am_m 472) 48 = some (.aload_n 0, 0) := by decide +kernel
theorem at_472_49 : am_at (am_m 472) 49 = some (.iload_n 1, 0) := by decide +kernel
theorem at_472_50 : am_at (am_m 472) 50 = some (.aload_n 0, 0) := by decide +kernel
theorem at_472_51 : am_at (am_m 472) 51 = some (.getfield 843, 3169) := by decide +kernel
theorem at_472_54 : am_at (am_m 472) 54 = some (.invokevirtual 817, 439) := by decide +kernel
theorem at_472_57 : am_at (am_m 472) 57 = some (.pop, 0) := by decide +kernel
theorem at_472_58 : am_at (am_m 472) 58 = some (.return_, 0) := by decide +kernel
theorem at_473_0 : am_at (am_m 473) 0 = some (.aload_n 0, 0) := by decide +kernel
theorem at_473_1 : am_at (am_m 473) 1 = some (.aload_n 0, 0) := by decide +kernel
theorem at_473_2 : am_at (am_m 473) 2 = some (.getfield 315, 3090) := by decide +kernel
theorem at_473_5 : am_at (am_m 473) 5 = some (.invokevirtual 833, 474) := by decide +kernel
theorem at_473_8 : am_at (am_m 473) 8 = some (.istore_n 1, 0) := by decide +kernel
theorem at_473_9 : am_at (am_m 473) 9 = some (.iconst 1, 0) := by decide +kernel
theorem at_473_10 : am_at (am_m 473) 10 = some (.aload_n 0, 0) := by decide +kernel
theorem at_473_11 : am_at (am_m 473) 11 = some (.iconst 4, 0) := by decide +kernel
theorem at_473_12 : am_at (am_m 473) 12 = some (.invokevirtual 833, 474) := by decide +kernel
theorem at_473_15 : am_at (am_m 473) 15 = some (.iadd, 0) := by decide +kernel
theorem at_473_16 : am_at (am_m 473) 16 = some (.istore_n 2, 0) := by decide +kernel
theorem at_473_17 : am_at (am_m 473) 17 = some (.aload_n 0, 0) := by decide +kernel
theorem at_473_18 : am_at (am_m 473) 18 = some (.iload_n 1, 0) := by decide +kernel
theorem at_473_19 : am_at (am_m 473) 19 = some (.invokevirtual 836, 476) := by decide +kernel
theorem at_473_22 : am_at (am_m 473) 22 = some (.istore_n 3, 0) := by decide +kernel
theorem at_473_23 : am_at (am_m 473) 23 = some (.iload_n 3, 0) := by decide +kernel
theorem at_473_24 : am_at (am_m 473) 24 = some (.ifCond .eq 7, 31) := by decide +kernel
theorem at_473_27 : am_at (am_m 473) 27 = some (.iconst 1, 0) := by decide +kernel
theorem at_473_28 : am_at (am_m 473) 28 = some (.goto 4, 32) := by decide +kernel
theorem at_473_31 : am_at (am_m 473) 31 = some (.iconst 0, 0) := by decide +kernel
theorem at_473_32 : am_at (am_m 473) 32 = some (.istore 4, 0) := by decide +kernel
theorem at_473_34 : am_at (am_m 473) 34 = some (.aload_n 0, 0) := by decide +kernel
theorem at_473_35 : am_at (am_m 473) 35 = some (.getfield 51, 3093) := by decide +kernel
theorem at_473_38 : am_at (am_m 473) 38 = some (.iload_n 1, 0) := by decide +kernel
theorem at_473_39 : am_at (am_m 473) 39 = some (.iaload, 0) := by decide +kernel
theorem at_473_40 : am_at (am_m 473) 40 = some (.invokestatic 338, 334) := by decide +kernel
theorem at_473_43 : am_at (am_m 473) 43 = some (.ifCond .eq 7, 50) := by decide +kernel
theorem at_473_46 : am_at (am_m 473) 46 = some (.iconst 1, 0) := by decide +kernel
theorem at_473_47 : am_at (am_m 473) 47 = some (.goto 4, 51) := by decide +kernel
theorem at_473_50 : am_at (am_m 473) 50 = some (.iconst 0, 0) := by decide +kernel
theorem at_473_51 : am_at (am_m 473) 51 = some (.istore 5, 0) := by decide +kernel
theorem at_473_53 : am_at (am_m 473) 53 = some (.aload_n 0, 0) := by decide +kernel
theorem at_473_54 : am_at (am_m 473) 54 = some (.invokevirtual 616, 377) := by decide +kernel
theorem at_473_57 : am_at (am_m 473) 57 = some (.aload_n 0, 0) := by decide +kernel
theorem at_473_58 : am_at (am_m 473) 58 = some (.iload 4, 0) := by decide +kernel
theorem at_473_60 : am_at (am_m 473) 60 = some (.iload 5, 0) := by decide +kernel
theorem at_473_62 : am_at (am_m 473) 62 = some (.iload_n 2, 0) := by decide +kernel
theorem at_473_63 : am_at (am_m 473) 63 = some (.invokevirtual 600, 383) := by decide +kernel
theorem at_473_66 : am_at (am_m 473) 66 = some (.lconst 0, 0) := by decide +kernel
theorem at_473_67 : am_at (am_m 473) 67 = some (.lcmp, 0) := by decide +kernel
theorem at_473_68 : am_at (am_m 473) 68 = some (.ifCond .ne 9, 77) := by decide +kernel
theorem at_473_71 : am_at (am_m 473) 71 = some (.iinc 2 1, 0) := by decide +kernel
theorem at_473_74 : am_at (am_m 473) 74 = some (.goto (-17), 57) := by decide +kernel
theorem at_473_77 : am_at (am_m 473) 77 = some (.aload_n 0, 0) := by decide +kernel
theorem at_473_78 : am_at (am_m 473) 78 = some (.aload_n 0, 0) := by decide +kernel
theorem at_473_79 : am_at (am_m 473) 79 = some (.iload 4, 0) := by decide +kernel
theorem at_473_81 : am_at (am_m 473) 81 = some (.iload 5, 0) := by decide +kernel
theorem at_473_83 : am_at (am_m 473) 83 = some (.iload_n 2, 0) := by decide +kernel
theorem at_473_84 : am_at (am_m 473) 84 = some (.invokevirtual 600, 383) := by decide +kernel
theorem at_473_87 : am_at (am_m 473) 87 = some (.invokevirtual 839, 477) := by decide +kernel
theorem at_473_90 : am_at (am_m 473) 90 = some (.lstore 6, 0) := by decide +kernel
theorem at_473_92 : am_at (am_m 473) 92 = some (.aload_n 0, 0) := by decide +kernel
theorem at_473_93 : am_at (am_m 473) 93 = some (.invokevirtual 753, 451) := by decide +kernel
theorem at_473_96 : am_at (am_m 473) 96 = some (.aload_n 0, 0) := by decide +kernel
theorem at_473_97 : am_at (am_m 473) 97 = some (.iconst 0, 0) := by decide +kernel
theorem at_473_98 : am_at (am_m 473) 98 = some (.iload_n 1, 0) := by decide +kernel
theorem at_473_99 : am_at (am_m 473) 99 = some (.invokevirtual 331, 443) := by decide +kernel
theorem at_473_102 : am_at (am_m 473) 102 = some (.aload_n 0, 0) := by decide +kernel
theorem at_473_103 : am_at (am_m 473) 103 = some (.iload 4, 0) := by decide +kernel
theorem at_473_105 : am_at (am_m 473) 105 = some (.iload 5, 0) := by decide +kernel
theorem at_473_107 : am_at (am_m 473) 107 = some (.iload_n 2, 0) := by decide +kernel
theorem at_473_108 : am_at (am_m 473) 108 = some (.lload 6, 0) := by decide +kernel
theorem at_473_110 : am_at (am_m 473) 110 = some (.invokevirtual 632, 386) := by decide +kernel
theorem at_473_113 : am_at (am_m 473) 113 = some (.aload_n 0, 0) := by decide +kernel
theorem at_473_114 : am_at (am_m 473) 114 = some (.iload_n 1, 0) := by decide +kernel
theorem at_473_115 : am_at (am_m 473) 115 = some (.aload_n 0, 0) := by decide +kernel
theorem at_473_116 : am_at (am_m 473) 116 = some (.getfield 63, 3098) := by decide +kernel
theorem at_473_119 : am_at (am_m 473) 119 = some (.iload_n 1, 0) := by decide +kernel
theorem at_473_120 : am_at (am_m 473) 120 = some (.iaload, 0) := by decide +kernel
theorem at_473_121 : am_at (am_m 473) 121 = some (.iadd, 0) := by decide +kernel
theorem at_473_122 : am_at (am_m 473) 122 = some (.aload_n 0, 0) := by decide +kernel
theorem at_473_123 : am_at (am_m 473) 123 = some (.getfield 315, 3090) := by decide +kernel
theorem at_473_126 : am_at (am_m 473) 126 = some (.invokevirtual 331, 443) := by decide +kernel
theorem at_473_129 : am_at (am_m 473) 129 = some (.aload_n 0, 0) := by decide +kernel
theorem at_473_130 : am_at (am_m 473) 130 = some (.invokevirtual 723, 445) := by decide +kernel
theorem at_473_133 : am_at (am_m 473) 133 = some (.ifCond .ne 7, 140) := by decide +kernel
theorem at_473_136 : am_at (am_m 473) 136 = some (.aload_n 0, 0) := by decide +kernel
theorem at_473_137 : am_at (am_m 473) 137 = some (.invokevirtual 739, 442) := by decide +kernel
theorem at_473_140 : am_at (am_m 473) 140 = some (.return_, 0) := by decide +kernel
theorem at_474_0 : am_at (am_m 474) 0 = some (.aload_n 0, 0) := by decide +kernel
theorem at_474_1 : am_at (am_m 474) 1 = some (.invokevirtual 827, 475) := by decide +kernel
theorem at_474_4 : am_at (am_m 474) 4 = some (.iload_n 1, 0) := by decide +kernel
theorem at_474_5 : am_at (am_m 474) 5 = some (.i2l, 0) := by decide +kernel
theorem at_474_6 : am_at (am_m 474) 6 = some (.lrem, 0) := by decide +kernel
theorem at_474_7 : am_at (am_m 474) 7 = some (.l2i, 0) := by decide +kernel
theorem at_474_8 : am_at (am_m 474) 8 = some (.ireturn, 0) := by decide +kernel
theorem at_475_0 : am_at (am_m 475) 0 = some (.aload_n 0, 0) := by decide +kernel
theorem at_475_1 : am_at (am_m 475) 1 = some (.aload_n 0, 0) := by decide +kernel
theorem at_475_2 : am_at (am_m 475) 2 = some (.getfield 820, 3168) := by decide +kernel
theorem at_475_5 : am_at (am_m 475) 5 = some (.ldc2_w 823, 24) := by decide +kernel
theorem at_475_8 : am_at (am_m 475) 8 = some (.lmul, 0) := by decide +kernel
theorem at_475_9 : am_at (am_m 475) 9 = some (.ldc2_w 825, 25) := by decide +kernel
theorem at_475_12 : am_at (am_m 475) 12 = some (.ladd, 0) := by decide +kernel
theorem at_475_13 : am_at (am_m 475) 13 = some (.putfield 820, 3168) := by decide +kernel
theorem at_475_16 : am_at (am_m 475) 16 = some (.aload_n 0, 0) := by decide +kernel
theorem at_475_17 : am_at (am_m 475) 17 = some (.getfield 820, 3168) := by decide +kernel
theorem at_475_20 : am_at (am_m 475) 20 = some (.bipush 33, 0) := by decide +kernel
theorem at_475_22 : am_at (am_m 475) 22 = some (.lushr, 0) := by decide +kernel
theorem at_475_23 : am_at (am_m 475) 23 = some (.lreturn, 0) := by decide +kernel
theorem at_476_0 : am_at (am_m 476) 0 = some (.iconst 0, 0) := by decide +kernel
theorem at_476_1 : am_at (am_m 476) 1 = some (.istore_n 2, 0) := by decide +kernel
theorem at_476_2 : am_at (am_m 476) 2 = some (.iconst 0, 0) := by decide +kernel
theorem at_476_3 : am_at (am_m 476) 3 = some (.istore_n 3, 0) := by decide +kernel
theorem at_476_4 : am_at (am_m 476) 4 = some (.iload_n 3, 0) := by decide +kernel
theorem at_476_5 : am_at (am_m 476) 5 = some (.iload_n 1, 0) := by decide +kernel
theorem at_476_6 : am_at (am_m 476) 6 = some (.if_icmp .ge 61, 67) := by decide +kernel
theorem at_476_9 : am_at (am_m 476) 9 = some (.aload_n 0, 0) := by decide +kernel
theorem at_476_10 : am_at (am_m 476) 10 = some (.getfield 51, 3093) := by decide +kernel
theorem at_476_13 : am_at (am_m 476) 13 = some (.iload_n 3, 0) := by decide +kernel
theorem at_476_14 : am_at (am_m 476) 14 = some (.iaload, 0) := by decide +kernel
theorem at_476_15 : am_at (am_m 476) 15 = some (.bipush 19, 0) := by decide +kernel
theorem at_476_17 : am_at (am_m 476) 17 = some (.if_icmp .eq 6, 23) := by decide +kernel
theorem at_476_20 : am_at (am_m 476) 20 = some (.goto 41, 61) := by decide +kernel
theorem at_476_23 : am_at (am_m 476) 23 = some (.aload_n 0, 0) := by decide +kernel
theorem at_476_24 : am_at (am_m 476) 24 = some (.iload_n 3, 0) := by decide +kernel
theorem at_476_25 : am_at (am_m 476) 25 = some (.iconst 1, 0) := by decide +kernel
theorem at_476_26 : am_at (am_m 476) 26 = some (.invokevirtual 642, 393) := by decide +kernel
theorem at_476_29 : am_at (am_m 476) 29 = some (.istore 4, 0) := by decide +kernel
theorem at_476_31 : am_at (am_m 476) 31 = some (.iload_n 2, 0) := by decide +kernel
theorem at_476_32 : am_at (am_m 476) 32 = some (.ifCond .ne 23, 55) := by decide +kernel
theorem at_476_35 : am_at (am_m 476) 35 = some (.iload_n 1, 0) := by decide +kernel
theorem at_476_36 : am_at (am_m 476) 36 = some (.iload 4, 0) := by decide +kernel
theorem at_476_38 : am_at (am_m 476) 38 = some (.if_icmp .lt 21, 59) := by decide +kernel
theorem at_476_41 : am_at (am_m 476) 41 = some (.iload_n 1, 0) := by decide +kernel
theorem at_476_42 : am_at (am_m 476) 42 = some (.iload 4, 0) := by decide +kernel
theorem at_476_44 : am_at (am_m 476) 44 = some (.aload_n 0, 0) := by decide +kernel
theorem at_476_45 : am_at (am_m 476) 45 = some (.getfield 63, 3098) := by decide +kernel
theorem at_476_48 : am_at (am_m 476) 48 = some (.iload 4, 0) := by decide +kernel
theorem at_476_50 : am_at (am_m 476) 50 = some (.iaload, 0) := by decide +kernel
theorem at_476_51 : am_at (am_m 476) 51 = some (.iadd, 0) := by decide +kernel
theorem at_476_52 : am_at (am_m 476) 52 = some (.if_icmp .ge 7, 59) := by decide +kernel
theorem at_476_55 : am_at (am_m 476) 55 = some (.iconst 1, 0) := by decide +kernel
theorem at_476_56 : am_at (am_m 476) 56 = some (.goto 4, 60) := by decide +kernel
theorem at_476_59 : am_at (am_m 476) 59 = some (.iconst 0, 0) := by decide +kernel
theorem at_476_60 : am_at (am_m 476) 60 = some (.istore_n 2, 0) := by decide +kernel
theorem at_476_61 : am_at (am_m 476) 61 = some (.iinc 3 1, 0) := by decide +kernel
theorem at_476_64 : am_at (am_m 476) 64 = some (.goto (-60), 4) := by decide +kernel
theorem at_476_67 : am_at (am_m 476) 67 = some (.iload_n 2, 0) := by decide +kernel
theorem at_476_68 : am_at (am_m 476) 68 = some (.ireturn, 0) := by decide +kernel
theorem at_477_0 : am_at (am_m 477) 0 = some (.aload_n 0, 0) := by decide +kernel
theorem at_477_1 : am_at (am_m 477) 1 = some (.invokevirtual 827, 475) := by decide +kernel
theorem at_477_4 : am_at (am_m 477) 4 = some (.lstore_n 3, 0) := by decide +kernel
theorem at_477_5 : am_at (am_m 477) 5 = some (.aload_n 0, 0) := by decide +kernel
theorem at_477_6 : am_at (am_m 477) 6 = some (.invokevirtual 827, 475) := by decide +kernel
theorem at_477_9 : am_at (am_m 477) 9 = some (.lstore 5, 0) := by decide +kernel
theorem at_477_11 : am_at (am_m 477) 11 = some (.ldc2_w 831, 26) := by decide +kernel
theorem at_477_14 : am_at (am_m 477) 14 = some (.lload_n 3, 0) := by decide +kernel
theorem at_477_15 : am_at (am_m 477) 15 = some (.lmul, 0) := by decide +kernel
theorem at_477_16 : am_at (am_m 477) 16 = some (.lload 5, 0) := by decide +kernel
theorem at_477_18 : am_at (am_m 477) 18 = some (.ladd, 0) := by decide +kernel
theorem at_477_19 : am_at (am_m 477) 19 = some (.lload_n 1, 0) := by decide +kernel
theorem at_477_20 : am_at (am_m 477) 20 = some (.lrem, 0) := by decide +kernel
theorem at_477_21 : am_at (am_m 477) 21 = some (.lreturn, 0) := by decide +kernel
theorem at_478_0 : am_at (am_m 478) 0 = some (.aload_n 0, 0) := by decide +kernel
theorem at_478_1 : am_at (am_m 478) 1 = some (.aload_n 0, 0) := by decide +kernel
theorem at_478_2 : am_at (am_m 478) 2 = some (.iload_n 1, 0) := by decide +kernel
theorem at_478_3 : am_at (am_m 478) 3 = some (.invokevirtual 568, 358) := by decide +kernel
theorem at_478_6 : am_at (am_m 478) 6 = some (.ifCond .eq 15, 21) := by decide +kernel
theorem at_478_9 : am_at (am_m 478) 9 = some (.aload_n 0, 0) := by decide +kernel
theorem at_478_10 : am_at (am_m 478) 10 = some (.iload_n 2, 0) := by decide +kernel
theorem at_478_11 : am_at (am_m 478) 11 = some (.invokevirtual 568, 358) := by decide +kernel
theorem at_478_14 : am_at (am_m 478) 14 = some (.ifCond .eq 7, 21) := by decide +kernel
theorem at_478_17 : am_at (am_m 478) 17 = some (.iconst 0, 0) := by decide +kernel
theorem at_478_18 : am_at (am_m 478) 18 = some (.goto 4, 22) := by decide +kernel
theorem at_478_21 : am_at (am_m 478) 21 = some (.iconst 1, 0) := by decide +kernel
theorem at_478_22 : am_at (am_m 478) 22 = some (.putfield 292, 3072) := by decide +kernel
theorem at_478_25 : am_at (am_m 478) 25 = some (.aload_n 0, 0) := by decide +kernel
theorem at_478_26 : am_at (am_m 478) 26 = some (.getfield 292, 3072) := by decide +kernel
theorem at_478_29 : am_at (am_m 478) 29 = some (.ifCond .gt 12, 41) := by decide +kernel
theorem at_478_32 : am_at (am_m 478) 32 = some (.aload_n 0, 0) := by decide +kernel
theorem at_478_33 : am_at (am_m 478) 33 = some (.iload_n 1, 0) := by decide +kernel
theorem at_478_34 : am_at (am_m 478) 34 = some (.iload_n 2, 0) := by decide +kernel
theorem at_478_35 : am_at (am_m 478) 35 = some (.invokevirtual 868, 479) := by decide +kernel
theorem at_478_38 : am_at (am_m 478) 38 = some (.ifCond .ne 5, 43) := by decide +kernel
theorem at_478_41 : am_at (am_m 478) 41 = some (.iconst 0, 0) := by decide +kernel
theorem at_478_42 : am_at (am_m 478) 42 = some (.ireturn, 0) := by decide +kernel
theorem at_478_43 : am_at (am_m 478) 43 = some (.aload_n 0, 0) := by decide +kernel
theorem at_478_44 : am_at (am_m 478) 44 = some (.iload_n 1, 0) := by decide +kernel
theorem at_478_45 : am_at (am_m 478) 45 = some (.invokevirtual 635, 391) := by decide +kernel
theorem at_478_48 : am_at (am_m 478) 48 = some (.aload_n 0, 0) := by decide +kernel
theorem at_478_49 : am_at (am_m 478) 49 = some (.iload_n 2, 0) := by decide +kernel
theorem at_478_50 : am_at (am_m 478) 50 = some (.invokevirtual 871, 480) := by decide +kernel
theorem at_478_53 : am_at (am_m 478) 53 = some (.aload_n 0, 0) := by decide +kernel
theorem at_478_54 : am_at (am_m 478) 54 = some (.iconst (-1), 0) := by decide +kernel
theorem at_478_55 : am_at (am_m 478) 55 = some (.invokevirtual 874, 481) := by decide +kernel
theorem at_478_58 : am_at (am_m 478) 58 = some (.ireturn, 0) := by decide +kernel
theorem at_479_0 : am_at (am_m 479) 0 = some (.aload_n 0, 0) := by decide +kernel
theorem at_479_1 : am_at (am_m 479) 1 = some (.getfield 7, 3074) := by decide +kernel
theorem at_479_4 : am_at (am_m 479) 4 = some (.iload_n 1, 0) := by decide +kernel
theorem at_479_5 : am_at (am_m 479) 5 = some (.iaload, 0) := by decide +kernel
theorem at_479_6 : am_at (am_m 479) 6 = some (.aload_n 0, 0) := by decide +kernel
theorem at_479_7 : am_at (am_m 479) 7 = some (.getfield 7, 3074) := by decide +kernel
theorem at_479_10 : am_at (am_m 479) 10 = some (.iload_n 2, 0) := by decide +kernel
theorem at_479_11 : am_at (am_m 479) 11 = some (.iaload, 0) := by decide +kernel
theorem at_479_12 : am_at (am_m 479) 12 = some (.if_icmp .ne 32, 44) := by decide +kernel
theorem at_479_15 : am_at (am_m 479) 15 = some (.aload_n 0, 0) := by decide +kernel
theorem at_479_16 : am_at (am_m 479) 16 = some (.getfield 7, 3074) := by decide +kernel
theorem at_479_19 : am_at (am_m 479) 19 = some (.iload_n 1, 0) := by decide +kernel
theorem at_479_20 : am_at (am_m 479) 20 = some (.iaload, 0) := by decide +kernel
theorem at_479_21 : am_at (am_m 479) 21 = some (.iconst 3, 0) := by decide +kernel
theorem at_479_22 : am_at (am_m 479) 22 = some (.if_icmp .ne 18, 40) := by decide +kernel
theorem at_479_25 : am_at (am_m 479) 25 = some (.aload_n 0, 0) := by decide +kernel
theorem at_479_26 : am_at (am_m 479) 26 = some (.getfield 16, 3076) := by decide +kernel
theorem at_479_29 : am_at (am_m 479) 29 = some (.iload_n 1, 0) := by decide +kernel
theorem at_479_30 : am_at (am_m 479) 30 = some (.iaload, 0) := by decide +kernel
theorem at_479_31 : am_at (am_m 479) 31 = some (.aload_n 0, 0) := by decide +kernel
theorem at_479_32 : am_at (am_m 479) 32 = some (.getfield 16, 3076) := by decide +kernel
theorem at_479_35 : am_at (am_m 479) 35 = some (.iload_n 2, 0) := by decide +kernel
theorem at_479_36 : am_at (am_m 479) 36 = some (.iaload, 0) := by decide +kernel
theorem at_479_37 : am_at (am_m 479) 37 = some (.if_icmp .ne 7, 44) := by decide +kernel
theorem at_479_40 : am_at (am_m 479) 40 = some (.iconst 1, 0) := by decide +kernel
theorem at_479_41 : am_at (am_m 479) 41 = some (.goto 4, 45) := by decide +kernel
theorem at_479_44 : am_at (am_m 479) 44 = some (.iconst 0, 0) := by decide +kernel
theorem at_479_45 : am_at (am_m 479) 45 = some (.ireturn, 0) := by decide +kernel
theorem at_480_0 : am_at (am_m 480) 0 = some (.aload_n 0, 0) := by decide +kernel
theorem at_480_1 : am_at (am_m 480) 1 = some (.aload_n 0, 0) := by decide +kernel
theorem at_480_2 : am_at (am_m 480) 2 = some (.getfield 13, 3075) := by decide +kernel
theorem at_480_5 : am_at (am_m 480) 5 = some (.iload_n 1, 0) := by decide +kernel
theorem at_480_6 : am_at (am_m 480) 6 = some (.iaload, 0) := by decide +kernel
theorem at_480_7 : am_at (am_m 480) 7 = some (.putfield 324, 3095) := by decide +kernel
theorem at_480_10 : am_at (am_m 480) 10 = some (.iconst 0, 0) := by decide +kernel
theorem at_480_11 : am_at (am_m 480) 11 = some (.istore_n 2, 0) := by decide +kernel
theorem at_480_12 : am_at (am_m 480) 12 = some (.iload_n 2, 0) := by decide +kernel
theorem at_480_13 : am_at (am_m 480) 13 = some (.aload_n 0, 0) := by decide +kernel
theorem at_480_14 : am_at (am_m 480) 14 = some (.getfield 324, 3095) := by decide +kernel
theorem at_480_17 : am_at (am_m 480) 17 = some (.if_icmp .ge 43, 60) := by decide +kernel
theorem at_480_20 : am_at (am_m 480) 20 = some (.aload_n 0, 0) := by decide +kernel
theorem at_480_21 : am_at (am_m 480) 21 = some (.getfield 57, 3096) := by decide +kernel
theorem at_480_24 : am_at (am_m 480) 24 = some (.iload_n 2, 0) := by decide +kernel
theorem at_480_25 : am_at (am_m 480) 25 = some (.aload_n 0, 0) := by decide +kernel
theorem at_480_26 : am_at (am_m 480) 26 = some (.getfield 39, 3083) := by decide +kernel
theorem at_480_29 : am_at (am_m 480) 29 = some (.bipush 60, 0) := by decide +kernel
theorem at_480_31 : am_at (am_m 480) 31 = some (.iload_n 1, 0) := by decide +kernel
theorem at_480_32 : am_at (am_m 480) 32 = some (.imul, 0) := by decide +kernel
theorem at_480_33 : am_at (am_m 480) 33 = some (.iload_n 2, 0) := by decide +kernel
theorem at_480_34 : am_at (am_m 480) 34 = some (.iadd, 0) := by decide +kernel
theorem at_480_35 : am_at (am_m 480) 35 = some (.iaload, 0) := by decide +kernel
theorem at_480_36 : am_at (am_m 480) 36 = some (.iastore, 0) := by decide +kernel
theorem at_480_37 : am_at (am_m 480) 37 = some (.aload_n 0, 0) := by decide +kernel
theorem at_480_38 : am_at (am_m 480) 38 = some (.getfield 60, 3097) := by decide +kernel
theorem at_480_41 : am_at (am_m 480) 41 = some (.iload_n 2, 0) := by decide +kernel
theorem at_480_42 : am_at (am_m 480) 42 = some (.aload_n 0, 0) := by decide +kernel
theorem at_480_43 : am_at (am_m 480) 43 = some (.getfield 42, 3084) := by decide +kernel
theorem at_480_46 : am_at (am_m 480) 46 = some (.bipush 60, 0) := by decide +kernel
theorem at_480_48 : am_at (am_m 480) 48 = some (.iload_n 1, 0) := by decide +kernel
theorem at_480_49 : am_at (am_m 480) 49 = some (.imul, 0) := by decide +kernel
theorem at_480_50 : am_at (am_m 480) 50 = some (.iload_n 2, 0) := by decide +kernel
theorem at_480_51 : am_at (am_m 480) 51 = some (.iadd, 0) := by decide +kernel
theorem at_480_52 : am_at (am_m 480) 52 = some (.iaload, 0) := by decide +kernel
theorem at_480_53 : am_at (am_m 480) 53 = some (.iastore, 0) := by decide +kernel
theorem at_480_54 : am_at (am_m 480) 54 = some (.iinc 2 1, 0) := by decide +kernel
theorem at_480_57 : am_at (am_m 480) 57 = some (.goto (-45), 12) := by decide +kernel
theorem at_480_60 : am_at (am_m 480) 60 = some (.aload_n 0, 0) := by decide +kernel
theorem at_480_61 : am_at (am_m 480) 61 = some (.getfield 324, 3095) := by decide +kernel
theorem at_480_64 : am_at (am_m 480) 64 = some (.iconst 1, 0) := by decide +kernel
theorem at_480_65 : am_at (am_m 480) 65 = some (.isub, 0) := by decide +kernel
theorem at_480_66 : am_at (am_m 480) 66 = some (.istore_n 2, 0) := by decide +kernel
theorem at_480_67 : am_at (am_m 480) 67 = some (.iload_n 2, 0) := by decide +kernel
theorem at_480_68 : am_at (am_m 480) 68 = some (.ifCond .lt 61, 129) := by decide +kernel
theorem at_480_71 : am_at (am_m 480) 71 = some (.aload_n 0, 0) := by decide +kernel
theorem at_480_72 : am_at (am_m 480) 72 = some (.getfield 7, 3074) := by decide +kernel
theorem at_480_75 : am_at (am_m 480) 75 = some (.iload_n 1, 0) := by decide +kernel
theorem at_480_76 : am_at (am_m 480) 76 = some (.iaload, 0) := by decide +kernel
theorem at_480_77 : am_at (am_m 480) 77 = some (.ifCond .ne 52, 129) := by decide +kernel
theorem at_480_80 : am_at (am_m 480) 80 = some (.iconst 1, 0) := by decide +kernel
theorem at_480_81 : am_at (am_m 480) 81 = some (.istore_n 3, 0) := by decide +kernel
theorem at_480_82 : am_at (am_m 480) 82 = some (.iconst 0, 0) := by decide +kernel
theorem at_480_83 : am_at (am_m 480) 83 = some (.istore 4, 0) := by decide +kernel
theorem at_480_85 : am_at (am_m 480) 85 = some (.iload 4, 0) := by decide +kernel
theorem at_480_87 : am_at (am_m 480) 87 = some (.aload_n 0, 0) := by decide +kernel
theorem at_480_88 : am_at (am_m 480) 88 = some (.getfield 57, 3096) := by decide +kernel
theorem at_480_91 : am_at (am_m 480) 91 = some (.iload_n 2, 0) := by decide +kernel
theorem at_480_92 : am_at (am_m 480) 92 = some (.iaload, 0) := by decide +kernel
theorem at_480_93 : am_at (am_m 480) 93 = some (.invokestatic 327, 343) := by decide +kernel
theorem at_480_96 : am_at (am_m 480) 96 = some (.if_icmp .ge 20, 116) := by decide +kernel
theorem at_480_99 : am_at (am_m 480) 99 = some (.iload_n 3, 0) := by decide +kernel
theorem at_480_100 : am_at (am_m 480) 100 = some (.aload_n 0, 0) := by decide +kernel
theorem at_480_101 : am_at (am_m 480) 101 = some (.getfield 66, 3099) := by decide +kernel
theorem at_480_104 : am_at (am_m 480) 104 = some (.iload_n 2, 0) := by decide +kernel
theorem at_480_105 : am_at (am_m 480) 105 = some (.iload_n 3, 0) := by decide +kernel
theorem at_480_106 : am_at (am_m 480) 106 = some (.iadd, 0) := by decide +kernel
theorem at_480_107 : am_at (am_m 480) 107 = some (.iaload, 0) := by decide +kernel
theorem at_480_108 : am_at (am_m 480) 108 = some (.iadd, 0) := by decide +kernel
theorem at_480_109 : am_at (am_m 480) 109 = some (.istore_n 3, 0) := by decide +kernel
theorem at_480_110 : am_at (am_m 480) 110 = some (.iinc 4 1, 0) := by decide +kernel
theorem at_480_113 : am_at (am_m 480) 113 = some (.goto (-28), 85) := by decide +kernel
theorem at_480_116 : am_at (am_m 480) 116 = some (.aload_n 0, 0) := by decide +kernel
theorem at_480_117 : am_at (am_m 480) 117 = some (.getfield 66, 3099) := by decide +kernel
theorem at_480_120 : am_at (am_m 480) 120 = some (.iload_n 2, 0) := by decide +kernel
theorem at_480_121 : am_at (am_m 480) 121 = some (.iload_n 3, 0) := by decide +kernel
theorem at_480_122 : am_at (am_m 480) 122 = some (.iastore, 0) := by decide +kernel
theorem at_480_123 : am_at (am_m 480) 123 = some (.iinc 2 (-1), 0) := by decide +kernel
theorem at_480_126 : am_at (am_m 480) 126 = some (.goto (-59), 67) := by decide +kernel
theorem at_480_129 : am_at (am_m 480) 129 = some (.return_, 0) := by decide +kernel
theorem at_481_0 : am_at (am_m 481) 0 = some (.aload_n 0, 0) := by decide +kernel
theorem at_481_1 : am_at (am_m 481) 1 = some (.iload_n 1, 0) := by decide +kernel
theorem at_481_2 : am_at (am_m 481) 2 = some (.putfield 729, 3165) := by decide +kernel
theorem at_481_5 : am_at (am_m 481) 5 = some (.aload_n 0, 0) := by decide +kernel
theorem at_481_6 : am_at (am_m 481) 6 = some (.iconst 0, 0) := by decide +kernel
theorem at_481_7 : am_at (am_m 481) 7 = some (.putfield 726, 3166) := by decide +kernel
theorem at_481_10 : am_at (am_m 481) 10 = some (.aload_n 0, 0) := by decide +kernel
theorem at_481_11 : am_at (am_m 481) 11 = some (.iconst 0, 0) := by decide +kernel
theorem at_481_12 : am_at (am_m 481) 12 = some (.putfield 732, 3167) := by decide +kernel
theorem at_481_15 : am_at (am_m 481) 15 = some (.aload_n 0, 0) := by decide +kernel
theorem at_481_16 : am_at (am_m 481) 16 = some (.getfield 312, 3092) := by decide +kernel
theorem at_481_19 : am_at (am_m 481) 19 = some (.ifCond .ne 10, 29) := by decide +kernel
theorem at_481_22 : am_at (am_m 481) 22 = some (.aload_n 0, 0) := by decide +kernel
theorem at_481_23 : am_at (am_m 481) 23 = some (.invokevirtual 859, 482) := by decide +kernel
theorem at_481_26 : am_at (am_m 481) 26 = some (.goto 22, 48) := by decide +kernel
theorem at_481_29 : am_at (am_m 481) 29 = some (.aload_n 0, 0) := by decide +kernel
theorem at_481_30 : am_at (am_m 481) 30 = some (.getfield 312, 3092) := by decide +kernel
theorem at_481_33 : am_at (am_m 481) 33 = some (.iconst 2, 0) := by decide +kernel
theorem at_481_34 : am_at (am_m 481) 34 = some (.if_icmp .ne 10, 44) := by decide +kernel
theorem at_481_37 : am_at (am_m 481) 37 = some (.aload_n 0, 0) := by decide +kernel
theorem at_481_38 : am_at (am_m 481) 38 = some (.invokevirtual 862, 484) := by decide +kernel
theorem at_481_41 : am_at (am_m 481) 41 = some (.goto 7, 48) := by decide +kernel
theorem at_481_44 : am_at (am_m 481) 44 = some (.aload_n 0, 0) := by decide +kernel
theorem at_481_45 : am_at (am_m 481) 45 = some (.invokevirtual 865, 485) := by decide +kernel
theorem at_481_48 : am_at (am_m 481) 48 = some (.aload_n 0, 0) := by decide +kernel
theorem at_481_49 : am_at (am_m 481) 49 = some (.getfield 726, 3166) := by decide +kernel
theorem at_481_52 : am_at (am_m 481) 52 = some (.ireturn, 0) := by decide +kernel
theorem at_482_0 : am_at (am_m 482) 0 = some (.iconst 0, 0) := by decide +kernel
theorem at_482_1 : am_at (am_m 482) 1 = some (.istore_n 1, 0) := by decide +kernel
theorem at_482_2 : am_at (am_m 482) 2 = some (.iload_n 1, 0) := by decide +kernel
theorem at_482_3 : am_at (am_m 482) 3 = some (.aload_n 0, 0) := by decide +kernel
theorem at_482_4 : am_at (am_m 482) 4 = some (.getfield 315, 3090) := by decide +kernel
theorem at_482_7 : am_at (am_m 482) 7 = some (.if_icmp .ge 133, 140) := by decide +kernel
theorem at_482_10 : am_at (am_m 482) 10 = some (.aload_n 0, 0) := by decide +kernel
theorem at_482_11 : am_at (am_m 482) 11 = some (.getfield 732, 3167) := by decide +kernel
theorem at_482_14 : am_at (am_m 482) 14 = some (.ifCond .ne 126, 140) := by decide +kernel
theorem at_482_17 : am_at (am_m 482) 17 = some (.iconst 0, 0) := by decide +kernel
theorem at_482_18 : am_at (am_m 482) 18 = some (.istore_n 2, 0) := by decide +kernel
theorem at_482_19 : am_at (am_m 482) 19 = some (.iload_n 2, 0) := by decide +kernel
theorem at_482_20 : am_at (am_m 482) 20 = some (.aload_n 0, 0) := by decide +kernel
theorem at_482_21 : am_at (am_m 482) 21 = some (.getfield 324, 3095) := by decide +kernel
theorem at_482_24 : am_at (am_m 482) 24 = some (.if_icmp .ge 110, 134) := by decide +kernel
theorem at_482_27 : am_at (am_m 482) 27 = some (.aload_n 0, 0) := by decide +kernel
theorem at_482_28 : am_at (am_m 482) 28 = some (.getfield 732, 3167) := by decide +kernel
theorem at_482_31 : am_at (am_m 482) 31 = some (.ifCond .ne 103, 134) := by decide +kernel
theorem at_482_34 : am_at (am_m 482) 34 = some (.aload_n 0, 0) := by decide +kernel
theorem at_482_35 : am_at (am_m 482) 35 = some (.getfield 51, 3093) := by decide +kernel
theorem at_482_38 : am_at (am_m 482) 38 = some (.iload_n 1, 0) := by decide +kernel
theorem at_482_39 : am_at (am_m 482) 39 = some (.iaload, 0) := by decide +kernel
theorem at_482_40 : am_at (am_m 482) 40 = some (.invokestatic 338, 334) := by decide +kernel
theorem at_482_43 : am_at (am_m 482) 43 = some (.aload_n 0, 0) := by decide +kernel
theorem at_482_44 : am_at (am_m 482) 44 = some (.getfield 57, 3096) := by decide +kernel
theorem at_482_47 : am_at (am_m 482) 47 = some (.iload_n 2, 0) := by decide +kernel
theorem at_482_48 : am_at (am_m 482) 48 = some (.iaload, 0) := by decide +kernel
theorem at_482_49 : am_at (am_m 482) 49 = some (.invokestatic 338, 334) := by decide +kernel
theorem at_482_52 : am_at (am_m 482) 52 = some (.if_icmp .ne 76, 128) := by decide +kernel
theorem at_482_55 : am_at (am_m 482) 55 = some (.aload_n 0, 0) := by decide +kernel
theorem at_482_56 : am_at (am_m 482) 56 = some (.getfield 315, 3090) := by decide +kernel
theorem at_482_59 : am_at (am_m 482) 59 = some (.aload_n 0, 0) := by decide +kernel
theorem at_482_60 : am_at (am_m 482) 60 = some (.getfield 63, 3098) := by decide +kernel
theorem at_482_63 : am_at (am_m 482) 63 = some (.iload_n 1, 0) := by decide +kernel
theorem at_482_64 : am_at (am_m 482) 64 = some (.iaload, 0) := by decide +kernel
theorem at_482_65 : am_at (am_m 482) 65 = some (.isub, 0) := by decide +kernel
theorem at_482_66 : am_at (am_m 482) 66 = some (.aload_n 0, 0) := by decide +kernel
theorem at_482_67 : am_at (am_m 482) 67 = some (.getfield 66, 3099) := by decide +kernel
theorem at_482_70 : am_at (am_m 482) 70 = some (.iload_n 2, 0) := by decide +kernel
theorem at_482_71 : am_at (am_m 482) 71 = some (.iaload, 0) := by decide +kernel
theorem at_482_72 : am_at (am_m 482) 72 = some (.iadd, 0) := by decide +kernel
theorem at_482_73 : am_at (am_m 482) 73 = some (.bipush 60, 0) := by decide +kernel
theorem at_482_75 : am_at (am_m 482) 75 = some (.if_icmp .le 6, 81) := by decide +kernel
theorem at_482_78 : am_at (am_m 482) 78 = some (.goto 50, 128) := by decide +kernel
theorem at_482_81 : am_at (am_m 482) 81 = some (.aload_n 0, 0) := by decide +kernel
theorem at_482_82 : am_at (am_m 482) 82 = some (.invokevirtual 753, 451) := by decide +kernel
theorem at_482_85 : am_at (am_m 482) 85 = some (.aload_n 0, 0) := by decide +kernel
theorem at_482_86 : am_at (am_m 482) 86 = some (.iconst 0, 0) := by decide +kernel
theorem at_482_87 : am_at (am_m 482) 87 = some (.iload_n 1, 0) := by decide +kernel
theorem at_482_88 : am_at (am_m 482) 88 = some (.invokevirtual 331, 443) := by decide +kernel
theorem at_482_91 : am_at (am_m 482) 91 = some (.aload_n 0, 0) := by decide +kernel
theorem at_482_92 : am_at (am_m 482) 92 = some (.iload_n 2, 0) := by decide +kernel
theorem at_482_93 : am_at (am_m 482) 93 = some (.iload_n 2, 0) := by decide +kernel
theorem at_482_94 : am_at (am_m 482) 94 = some (.aload_n 0, 0) := by decide +kernel
theorem at_482_95 : am_at (am_m 482) 95 = some (.getfield 66, 3099) := by decide +kernel
theorem at_482_98 : am_at (am_m 482) 98 = some (.iload_n 2, 0) := by decide +kernel
theorem at_482_99 : am_at (am_m 482) 99 = some (.iaload, 0) := by decide +kernel
theorem at_482_100 : am_at (am_m 482) 100 = some (.iadd, 0) := by decide +kernel
theorem at_482_101 : am_at (am_m 482) 101 = some (.invokevirtual 856, 483) := by decide +kernel
theorem at_482_104 : am_at (am_m 482) 104 = some (.aload_n 0, 0) := by decide +kernel
theorem at_482_105 : am_at (am_m 482) 105 = some (.iload_n 1, 0) := by decide +kernel
theorem at_482_106 : am_at (am_m 482) 106 = some (.aload_n 0, 0) := by decide +kernel
theorem at_482_107 : am_at (am_m 482) 107 = some (.getfield 63, 3098) := by decide +kernel
theorem at_482_110 : am_at (am_m 482) 110 = some (.iload_n 1, 0) := by decide +kernel
theorem at_482_111 : am_at (am_m 482) 111 = some (.iaload, 0) := by decide +kernel
theorem at_482_112 : am_at (am_m 482) 112 = some (.iadd, 0) := by decide +kernel
theorem at_482_113 : am_at (am_m 482) 113 = some (.aload_n 0, 0) := by decide +kernel
theorem at_482_114 : am_at (am_m 482) 114 = some (.getfield 315, 3090) := by decide +kernel
theorem at_482_117 : am_at (am_m 482) 117 = some (.invokevirtual 331, 443) := by decide +kernel
theorem at_482_120 : am_at (am_m 482) 120 = some (.aload_n 0, 0) := by decide +kernel
theorem at_482_121 : am_at (am_m 482) 121 = some (.aload_n 0, 0) := by decide +kernel
theorem at_482_122 : am_at (am_m 482) 122 = some (.invokevirtual 742, 444) := by decide +kernel
theorem at_482_125 : am_at (am_m 482) 125 = some (.putfield 732, 3167) := by decide +kernel
theorem at_482_128 : am_at (am_m 482) 128 = some (.iinc 2 1, 0) := by decide +kernel
theorem at_482_131 : am_at (am_m 482) 131 = some (.goto (-112), 19) := by decide +kernel
theorem at_482_134 : am_at (am_m 482) 134 = some (.iinc 1 1, 0) := by decide +kernel
theorem at_482_137 : am_at (am_m 482) 137 = some (.goto (-135), 2) := by decide +kernel
theorem at_482_140 : am_at (am_m 482) 140 = some (.return_, 0) := by decide +kernel
theorem at_483_0 : am_at (am_m 483) 0 = some (.iload_n 1, 0) := by decide +kernel
theorem at_483_1 : am_at (am_m 483) 1 = some (.istore_n 3, 0) := by decide +kernel
theorem at_483_2 : am_at (am_m 483) 2 = some (.iload_n 3, 0) := by decide +kernel
theorem at_483_3 : am_at (am_m 483) 3 = some (.iload_n 2, 0) := by decide +kernel
theorem at_483_4 : am_at (am_m 483) 4 = some (.if_icmp .ge 25, 29) := by decide +kernel
theorem at_483_7 : am_at (am_m 483) 7 = some (.aload_n 0, 0) := by decide +kernel
theorem at_483_8 : am_at (am_m 483) 8 = some (.aload_n 0, 0) := by decide +kernel
theorem at_483_9 : am_at (am_m 483) 9 = some (.getfield 57, 3096) := by decide +kernel
theorem at_483_12 : am_at (am_m 483) 12 = some (.iload_n 3, 0) := by decide +kernel
theorem at_483_13 : am_at (am_m 483) 13 = some (.iaload, 0) := by decide +kernel
theorem at_483_14 : am_at (am_m 483) 14 = some (.aload_n 0, 0) := by decide +kernel
theorem at_483_15 : am_at (am_m 483) 15 = some (.getfield 60, 3097) := by decide +kernel
theorem at_483_18 : am_at (am_m 483) 18 = some (.iload_n 3, 0) := by decide +kernel
theorem at_483_19 : am_at (am_m 483) 19 = some (.iaload, 0) := by decide +kernel
theorem at_483_20 : am_at (am_m 483) 20 = some (.invokevirtual 335, 335) := by decide +kernel
theorem at_483_23 : am_at (am_m 483) 23 = some (.iinc 3 1, 0) := by decide +kernel
theorem at_483_26 : am_at (am_m 483) 26 = some (.goto (-24), 2) := by decide +kernel
theorem at_483_29 : am_at (am_m 483) 29 = some (.return_, 0) := by decide +kernel
theorem at_484_0 : am_at (am_m 484) 0 = some (.iconst 1, 0) := by decide +kernel
theorem at_484_1 : am_at (am_m 484) 1 = some (.istore_n 1, 0) := by decide +kernel
theorem at_484_2 : am_at (am_m 484) 2 = some (.iload_n 1, 0) := by decide +kernel
theorem at_484_3 : am_at (am_m 484) 3 = some (.iconst 1, 0) := by decide +kernel
theorem at_484_4 : am_at (am_m 484) 4 = some (.aload_n 0, 0) := by decide +kernel
theorem at_484_5 : am_at (am_m 484) 5 = some (.getfield 315, 3090) := by decide +kernel
theorem at_484_8 : am_at (am_m 484) 8 = some (.ishl, 0) := by decide +kernel
theorem at_484_9 : am_at (am_m 484) 9 = some (.iconst 1, 0) := by decide +kernel
theorem at_484_10 : am_at (am_m 484) 10 = some (.isub, 0) := by decide +kernel
theorem at_484_11 : am_at (am_m 484) 11 = some (.if_icmp .ge 99, 110) := by decide +kernel
theorem at_484_14 : am_at (am_m 484) 14 = some (.aload_n 0, 0) := by decide +kernel
theorem at_484_15 : am_at (am_m 484) 15 = some (.getfield 315, 3090) := by decide +kernel
theorem at_484_18 : am_at (am_m 484) 18 = some (.aload_n 0, 0) := by decide +kernel
theorem at_484_19 : am_at (am_m 484) 19 = some (.getfield 324, 3095) := by decide +kernel
theorem at_484_22 : am_at (am_m 484) 22 = some (.if_icmp .ne 88, 110) := by decide +kernel
theorem at_484_25 : am_at (am_m 484) 25 = some (.aload_n 0, 0) := by decide +kernel
theorem at_484_26 : am_at (am_m 484) 26 = some (.getfield 732, 3167) := by decide +kernel
theorem at_484_29 : am_at (am_m 484) 29 = some (.ifCond .ne 81, 110) := by decide +kernel
theorem at_484_32 : am_at (am_m 484) 32 = some (.aload_n 0, 0) := by decide +kernel
theorem at_484_33 : am_at (am_m 484) 33 = some (.invokevirtual 753, 451) := by decide +kernel
theorem at_484_36 : am_at (am_m 484) 36 = some (.iconst 0, 0) := by decide +kernel
theorem at_484_37 : am_at (am_m 484) 37 = some (.istore_n 2, 0) := by decide +kernel
theorem at_484_38 : am_at (am_m 484) 38 = some (.iload_n 2, 0) := by decide +kernel
theorem at_484_39 : am_at (am_m 484) 39 = some (.aload_n 0, 0) := by decide +kernel
theorem at_484_40 : am_at (am_m 484) 40 = some (.getfield 315, 3090) := by decide +kernel
theorem at_484_43 : am_at (am_m 484) 43 = some (.if_icmp .ge 53, 96) := by decide +kernel
theorem at_484_46 : am_at (am_m 484) 46 = some (.iload_n 1, 0) := by decide +kernel
theorem at_484_47 : am_at (am_m 484) 47 = some (.iload_n 2, 0) := by decide +kernel
theorem at_484_48 : am_at (am_m 484) 48 = some (.ishr, 0) := by decide +kernel
theorem at_484_49 : am_at (am_m 484) 49 = some (.iconst 1, 0) := by decide +kernel
theorem at_484_50 : am_at (am_m 484) 50 = some (.iand, 0) := by decide +kernel
theorem at_484_51 : am_at (am_m 484) 51 = some (.iconst 1, 0) := by decide +kernel
theorem at_484_52 : am_at (am_m 484) 52 = some (.if_icmp .ne 22, 74) := by decide +kernel
theorem at_484_55 : am_at (am_m 484) 55 = some (.aload_n 0, 0) := by decide +kernel
theorem at_484_56 : am_at (am_m 484) 56 = some (.aload_n 0, 0) := by decide +kernel
theorem at_484_57 : am_at (am_m 484) 57 = some (.getfield 57, 3096) := by decide +kernel
theorem at_484_60 : am_at (am_m 484) 60 = some (.iload_n 2, 0) := by decide +kernel
theorem at_484_61 : am_at (am_m 484) 61 = some (.iaload, 0) := by decide +kernel
theorem at_484_62 : am_at (am_m 484) 62 = some (.aload_n 0, 0) := by decide +kernel
theorem at_484_63 : am_at (am_m 484) 63 = some (.getfield 60, 3097) := by decide +kernel
theorem at_484_66 : am_at (am_m 484) 66 = some (.iload_n 2, 0) := by decide +kernel
theorem at_484_67 : am_at (am_m 484) 67 = some (.iaload, 0) := by decide +kernel
theorem at_484_68 : am_at (am_m 484) 68 = some (.invokevirtual 335, 335) := by decide +kernel
theorem at_484_71 : am_at (am_m 484) 71 = some (.goto 19, 90) := by decide +kernel
theorem at_484_74 : am_at (am_m 484) 74 = some (.aload_n 0, 0) := by decide +kernel
theorem at_484_75 : am_at (am_m 484) 75 = some (.aload_n 0, 0) := by decide +kernel
theorem at_484_76 : am_at (am_m 484) 76 = some (.getfield 51, 3093) := by decide +kernel
theorem at_484_79 : am_at (am_m 484) 79 = some (.iload_n 2, 0) := by decide +kernel
theorem at_484_80 : am_at (am_m 484) 80 = some (.iaload, 0) := by decide +kernel
theorem at_484_81 : am_at (am_m 484) 81 = some (.aload_n 0, 0) := by decide +kernel
theorem at_484_82 : am_at (am_m 484) 82 = some (.getfield 54, 3094) := by decide +kernel
theorem at_484_85 : am_at (am_m 484) 85 = some (.iload_n 2, 0) := by decide +kernel
theorem at_484_86 : am_at (am_m 484) 86 = some (.iaload, 0) := by decide +kernel
theorem at_484_87 : am_at (am_m 484) 87 = some (.invokevirtual 335, 335) := by decide +kernel
theorem at_484_90 : am_at (am_m 484) 90 = some (.iinc 2 1, 0) := by decide +kernel
theorem at_484_93 : am_at (am_m 484) 93 = some (.goto (-55), 38) := by decide +kernel
theorem at_484_96 : am_at (am_m 484) 96 = some (.aload_n 0, 0) := by decide +kernel
theorem at_484_97 : am_at (am_m 484) 97 = some (.aload_n 0, 0) := by decide +kernel
theorem at_484_98 : am_at (am_m 484) 98 = some (.invokevirtual 742, 444) := by decide +kernel
theorem at_484_101 : am_at (am_m 484) 101 = some (.putfield 732, 3167) := by decide +kernel
theorem at_484_104 : am_at (am_m 484) 104 = some (.iinc 1 1, 0) := by decide +kernel
theorem at_484_107 : am_at (am_m 484) 107 = some (.goto (-105), 2) := by decide +kernel
theorem at_484_110 : am_at (am_m 484) 110 = some (.return_, 0) := by decide +kernel
theorem at_485_0 : am_at (am_m 485) 0 = some (.iconst 0, 0) := by decide +kernel
theorem at_485_1 : am_at (am_m 485) 1 = some (.istore_n 1, 0) := by decide +kernel
theorem at_485_2 : am_at (am_m 485) 2 = some (.iload_n 1, 0) := by decide +kernel
theorem at_485_3 : am_at (am_m 485) 3 = some (.aload_n 0, 0) := by decide +kernel
theorem at_485_4 : am_at (am_m 485) 4 = some (.getfield 315, 3090) := by decide +kernel
theorem at_485_7 : am_at (am_m 485) 7 = some (.if_icmp .gt 66, 73) := by decide +kernel
theorem at_485_10 : am_at (am_m 485) 10 = some (.aload_n 0, 0) := by decide +kernel
theorem at_485_11 : am_at (am_m 485) 11 = some (.getfield 732, 3167) := by decide +kernel
theorem at_485_14 : am_at (am_m 485) 14 = some (.ifCond .ne 59, 73) := by decide +kernel
theorem at_485_17 : am_at (am_m 485) 17 = some (.iconst 0, 0) := by decide +kernel
theorem at_485_18 : am_at (am_m 485) 18 = some (.istore_n 2, 0) := by decide +kernel
theorem at_485_19 : am_at (am_m 485) 19 = some (.iload_n 2, 0) := by decide +kernel
theorem at_485_20 : am_at (am_m 485) 20 = some (.aload_n 0, 0) := by decide +kernel
theorem at_485_21 : am_at (am_m 485) 21 = some (.getfield 324, 3095) := by decide +kernel
theorem at_485_24 : am_at (am_m 485) 24 = some (.if_icmp .gt 43, 67) := by decide +kernel
theorem at_485_27 : am_at (am_m 485) 27 = some (.aload_n 0, 0) := by decide +kernel
theorem at_485_28 : am_at (am_m 485) 28 = some (.getfield 732, 3167) := by decide +kernel
theorem at_485_31 : am_at (am_m 485) 31 = some (.ifCond .ne 36, 67) := by decide +kernel
theorem at_485_34 : am_at (am_m 485) 34 = some (.aload_n 0, 0) := by decide +kernel
theorem at_485_35 : am_at (am_m 485) 35 = some (.invokevirtual 753, 451) := by decide +kernel
theorem at_485_38 : am_at (am_m 485) 38 = some (.aload_n 0, 0) := by decide +kernel
theorem at_485_39 : am_at (am_m 485) 39 = some (.iconst 0, 0) := by decide +kernel
theorem at_485_40 : am_at (am_m 485) 40 = some (.iload_n 1, 0) := by decide +kernel
theorem at_485_41 : am_at (am_m 485) 41 = some (.invokevirtual 331, 443) := by decide +kernel
theorem at_485_44 : am_at (am_m 485) 44 = some (.aload_n 0, 0) := by decide +kernel
theorem at_485_45 : am_at (am_m 485) 45 = some (.iload_n 2, 0) := by decide +kernel
theorem at_485_46 : am_at (am_m 485) 46 = some (.aload_n 0, 0) := by decide +kernel
theorem at_485_47 : am_at (am_m 485) 47 = some (.getfield 324, 3095) := by decide +kernel
theorem at_485_50 : am_at (am_m 485) 50 = some (.invokevirtual 856, 483) := by decide +kernel
theorem at_485_53 : am_at (am_m 485) 53 = some (.aload_n 0, 0) := by decide +kernel
theorem at_485_54 : am_at (am_m 485) 54 = some (.aload_n 0, 0) := by decide +kernel
theorem at_485_55 : am_at (am_m 485) 55 = some (.invokevirtual 742, 444) := by decide +kernel
theorem at_485_58 : am_at (am_m 485) 58 = some (.putfield 732, 3167) := by decide +kernel
theorem at_485_61 : am_at (am_m 485) 61 = some (.iinc 2 1, 0) := by decide +kernel
theorem at_485_64 : am_at (am_m 485) 64 = some (.goto (-45), 19) := by decide +kernel
theorem at_485_67 : am_at (am_m 485) 67 = some (.iinc 1 1, 0) := by decide +kernel
theorem at_485_70 : am_at (am_m 485) 70 = some (.goto (-68), 2) := by decide +kernel
theorem at_485_73 : am_at (am_m 485) 73 = some (.return_, 0) := by decide +kernel
theorem at_486_0 : am_at (am_m 486) 0 = some (.aload_n 0, 0) := by decide +kernel
theorem at_486_1 : am_at (am_m 486) 1 = some (.aload_n 0, 0) := by decide +kernel
theorem at_486_2 : am_at (am_m 486) 2 = some (.iload_n 1, 0) := by decide +kernel
theorem at_486_3 : am_at (am_m 486) 3 = some (.invokevirtual 568, 358) := by decide +kernel
theorem at_486_6 : am_at (am_m 486) 6 = some (.ifCond .eq 11, 17) := by decide +kernel
theorem at_486_9 : am_at (am_m 486) 9 = some (.aload_n 0, 0) := by decide +kernel
theorem at_486_10 : am_at (am_m 486) 10 = some (.iload_n 2, 0) := by decide +kernel
theorem at_486_11 : am_at (am_m 486) 11 = some (.invokevirtual 568, 358) := by decide +kernel
theorem at_486_14 : am_at (am_m 486) 14 = some (.ifCond .ne 7, 21) := by decide +kernel
theorem at_486_17 : am_at (am_m 486) 17 = some (.iconst 1, 0) := by decide +kernel
theorem at_486_18 : am_at (am_m 486) 18 = some (.goto 37, 55) := by decide +kernel
theorem at_486_21 : am_at (am_m 486) 21 = some (.aload_n 0, 0) := by decide +kernel
theorem at_486_22 : am_at (am_m 486) 22 = some (.getfield 7, 3074) := by decide +kernel
theorem at_486_25 : am_at (am_m 486) 25 = some (.iload_n 1, 0) := by decide +kernel
theorem at_486_26 : am_at (am_m 486) 26 = some (.iaload, 0) := by decide +kernel
theorem at_486_27 : am_at (am_m 486) 27 = some (.aload_n 0, 0) := by decide +kernel
theorem at_486_28 : am_at (am_m 486) 28 = some (.getfield 7, 3074) := by decide +kernel
theorem at_486_31 : am_at (am_m 486) 31 = some (.iload_n 2, 0) := by decide +kernel
theorem at_486_32 : am_at (am_m 486) 32 = some (.iaload, 0) := by decide +kernel
theorem at_486_33 : am_at (am_m 486) 33 = some (.if_icmp .eq 7, 40) := by decide +kernel
theorem at_486_36 : am_at (am_m 486) 36 = some (.iconst 2, 0) := by decide +kernel
theorem at_486_37 : am_at (am_m 486) 37 = some (.goto 18, 55) := by decide +kernel
theorem at_486_40 : am_at (am_m 486) 40 = some (.aload_n 0, 0) := by decide +kernel
theorem at_486_41 : am_at (am_m 486) 41 = some (.getfield 296, 3073) := by decide +kernel
theorem at_486_44 : am_at (am_m 486) 44 = some (.sipush 600, 0) := by decide +kernel
theorem at_486_47 : am_at (am_m 486) 47 = some (.if_icmp .ne 7, 54) := by decide +kernel
theorem at_486_50 : am_at (am_m 486) 50 = some (.iconst 3, 0) := by decide +kernel
theorem at_486_51 : am_at (am_m 486) 51 = some (.goto 4, 55) := by decide +kernel
theorem at_486_54 : am_at (am_m 486) 54 = some (.iconst 0, 0) := by decide +kernel
theorem at_486_55 : am_at (am_m 486) 55 = some (.putfield 292, 3072) := by decide +kernel
theorem at_486_58 : am_at (am_m 486) 58 = some (.aload_n 0, 0) := by decide +kernel
theorem at_486_59 : am_at (am_m 486) 59 = some (.getfield 292, 3072) := by decide +kernel
theorem at_486_62 : am_at (am_m 486) 62 = some (.ifCond .le 5, 67) := by decide +kernel
theorem at_486_65 : am_at (am_m 486) 65 = some (.iconst 0, 0) := by decide +kernel
theorem at_486_66 : am_at (am_m 486) 66 = some (.ireturn, 0) := by decide +kernel
theorem at_486_67 : am_at (am_m 486) 67 = some (.aload_n 0, 0) := by decide +kernel
theorem at_486_68 : am_at (am_m 486) 68 = some (.iload_n 1, 0) := by decide +kernel
theorem at_486_69 : am_at (am_m 486) 69 = some (.iload_n 2, 0) := by decide +kernel
theorem at_486_70 : am_at (am_m 486) 70 = some (.lload_n 3, 0) := by decide +kernel
theorem at_486_71 : am_at (am_m 486) 71 = some (.invokevirtual 877, 487) := by decide +kernel
theorem at_486_74 : am_at (am_m 486) 74 = some (.aload_n 0, 0) := by decide +kernel
theorem at_486_75 : am_at (am_m 486) 75 = some (.iconst 4, 0) := by decide +kernel
theorem at_486_76 : am_at (am_m 486) 76 = some (.iload_n 1, 0) := by decide +kernel
theorem at_486_77 : am_at (am_m 486) 77 = some (.iload_n 2, 0) := by decide +kernel
theorem at_486_78 : am_at (am_m 486) 78 = some (.iconst (-1), 0) := by decide +kernel
theorem at_486_79 : am_at (am_m 486) 79 = some (.aload_n 0, 0) := by decide +kernel
theorem at_486_80 : am_at (am_m 486) 80 = some (.getfield 843, 3169) := by decide +kernel
theorem at_486_83 : am_at (am_m 486) 83 = some (.lload_n 3, 0) := by decide +kernel
theorem at_486_84 : am_at (am_m 486) 84 = some (.invokevirtual 543, 356) := by decide +kernel
theorem at_486_87 : am_at (am_m 486) 87 = some (.ireturn, 0) := by decide +kernel
theorem at_487_0 : am_at (am_m 487) 0 = some (.aload_n 0, 0) := by decide +kernel
theorem at_487_1 : am_at (am_m 487) 1 = some (.lload_n 3, 0) := by decide +kernel
theorem at_487_2 : am_at (am_m 487) 2 = some (.putfield 820, 3168) := by decide +kernel
theorem at_487_5 : am_at (am_m 487) 5 = some (.aload_n 0, 0) := by decide +kernel
theorem at_487_6 : am_at (am_m 487) 6 = some (.iconst (-1), 0) := by decide +kernel
theorem at_487_7 : am_at (am_m 487) 7 = some (.putfield 843, 3169) := by decide +kernel
theorem at_487_10 : am_at (am_m 487) 10 = some (.aload_n 0, 0) := by decide +kernel
theorem at_487_11 : am_at (am_m 487) 11 = some (.iload_n 1, 0) := by decide +kernel
theorem at_487_12 : am_at (am_m 487) 12 = some (.invokevirtual 635, 391) := by decide +kernel
theorem at_487_15 : am_at (am_m 487) 15 = some (.aload_n 0, 0) := by decide +kernel
theorem at_487_16 : am_at (am_m 487) 16 = some (.iload_n 2, 0) := by decide +kernel
theorem at_487_17 : am_at (am_m 487) 17 = some (.invokevirtual 871, 480) := by decide +kernel
theorem at_487_20 : am_at (am_m 487) 20 = some (.aload_n 0, 0) := by decide +kernel
theorem at_487_21 : am_at (am_m 487) 21 = some (.iload_n 1, 0) := by decide +kernel
theorem at_487_22 : am_at (am_m 487) 22 = some (.iload_n 2, 0) := by decide +kernel
theorem at_487_23 : am_at (am_m 487) 23 = some (.invokevirtual 868, 479) := by decide +kernel
theorem at_487_26 : am_at (am_m 487) 26 = some (.ifCond .eq 11, 37) := by decide +kernel
theorem at_487_29 : am_at (am_m 487) 29 = some (.aload_n 0, 0) := by decide +kernel
theorem at_487_30 : am_at (am_m 487) 30 = some (.iconst (-1), 0) := by decide +kernel
theorem at_487_31 : am_at (am_m 487) 31 = some (.invokevirtual 874, 481) := by decide +kernel
theorem at_487_34 : am_at (am_m 487) 34 = some (.goto 4, 38) := by decide +kernel
theorem at_487_37 : am_at (am_m 487) 37 = some (.iconst 0, 0) := by decide +kernel
theorem at_487_38 : am_at (am_m 487) 38 = some (.istore 5, 0) := by decide +kernel
theorem at_487_40 : am_at (am_m 487) 40 = some (.iload 5, 0) := by decide +kernel
theorem at_487_42 : am_at (am_m 487) 42 = some (.ifCond .ne 8, 50) := by decide +kernel
theorem at_487_45 : am_at (am_m 487) 45 = some (.aload_n 0, 0) := by decide +kernel
theorem at_487_46 : am_at (am_m 487) 46 = some (.invokevirtual 739, 442) := by decide +kernel
theorem at_487_49 : am_at (am_m 487) 49 = some (.return_, 0) := by decide +kernel
theorem at_487_50 : am_at (am_m 487) 50 = some (.aload_n 0, 0) := by decide +kernel
theorem at_487_51 : am_at (am_m 487) 51 = some (.aload_n 0, 0) := by decide +kernel
theorem at_487_52 : am_at (am_m 487) 52 = some (.iload 5, 0) := by decide +kernel
theorem at_487_54 : am_at (am_m 487) 54 = some (.invokevirtual 833, 474) := by decide +kernel
theorem at_487_57 : am_at (am_m 487) 57 = some (.putfield 843, 3169) := by decide +kernel
theorem at_487_60 : am_at (am_m 487) 60 = some (.aload_n 0, 0) := by decide +kernel
theorem at_487_61 : am_at (am_m 487) 61 = some (.aload_n 0, 0) := by decide +kernel
theorem at_487_62 : am_at (am_m 487) 62 = some (.getfield 843, 3169) := by decide +kernel
theorem at_487_65 : am_at (am_m 487) 65 = some (.invokevirtual 874, 481) := by decide +kernel
theorem at_487_68 : am_at (am_m 487) 68 = some (.pop, 0) := by decide +kernel
theorem at_487_69 : am_at (am_m 487) 69 = some (.return_, 0) := by decide +kernel
theorem at_488_0 : am_at (am_m 488) 0 = some (.aload_n 0, 0) := by decide +kernel
theorem at_488_1 : am_at (am_m 488) 1 = some (.aload_n 0, 0) := by decide +kernel
theorem at_488_2 : am_at (am_m 488) 2 = some (.iload_n 1, 0) := by decide +kernel
theorem at_488_3 : am_at (am_m 488) 3 = some (.invokevirtual 881, 489) := by decide +kernel
theorem at_488_6 : am_at (am_m 488) 6 = some (.ifCond .ne 7, 13) := by decide +kernel
theorem at_488_9 : am_at (am_m 488) 9 = some (.iconst 1, 0) := by decide +kernel
theorem at_488_10 : am_at (am_m 488) 10 = some (.goto 57, 67) := by decide +kernel
theorem at_488_13 : am_at (am_m 488) 13 = some (.iload_n 2, 0) := by decide +kernel
theorem at_488_14 : am_at (am_m 488) 14 = some (.i2l, 0) := by decide +kernel
theorem at_488_15 : am_at (am_m 488) 15 = some (.lconst 0, 0) := by decide +kernel
theorem at_488_16 : am_at (am_m 488) 16 = some (.ldc2_w 529, 48) := by decide +kernel
theorem at_488_19 : am_at (am_m 488) 19 = some (.invokestatic 299, 327) := by decide +kernel
theorem at_488_22 : am_at (am_m 488) 22 = some (.ifCond .eq 24, 46) := by decide +kernel
theorem at_488_25 : am_at (am_m 488) 25 = some (.iload_n 3, 0) := by decide +kernel
theorem at_488_26 : am_at (am_m 488) 26 = some (.i2l, 0) := by decide +kernel
theorem at_488_27 : am_at (am_m 488) 27 = some (.lconst 1, 0) := by decide +kernel
theorem at_488_28 : am_at (am_m 488) 28 = some (.ldc2_w 893, 65) := by decide +kernel
theorem at_488_31 : am_at (am_m 488) 31 = some (.invokestatic 299, 327) := by decide +kernel
theorem at_488_34 : am_at (am_m 488) 34 = some (.ifCond .eq 12, 46) := by decide +kernel
theorem at_488_37 : am_at (am_m 488) 37 = some (.iload_n 2, 0) := by decide +kernel
theorem at_488_38 : am_at (am_m 488) 38 = some (.iload 4, 0) := by decide +kernel
theorem at_488_40 : am_at (am_m 488) 40 = some (.invokestatic 895, 490) := by decide +kernel
theorem at_488_43 : am_at (am_m 488) 43 = some (.ifCond .ne 7, 50) := by decide +kernel
theorem at_488_46 : am_at (am_m 488) 46 = some (.iconst 2, 0) := by decide +kernel
theorem at_488_47 : am_at (am_m 488) 47 = some (.goto 20, 67) := by decide +kernel
theorem at_488_50 : am_at (am_m 488) 50 = some (.aload_n 0, 0) := by decide +kernel
theorem at_488_51 : am_at (am_m 488) 51 = some (.getfield 296, 3073) := by decide +kernel
theorem at_488_54 : am_at (am_m 488) 54 = some (.iload_n 3, 0) := by decide +kernel
theorem at_488_55 : am_at (am_m 488) 55 = some (.iadd, 0) := by decide +kernel
theorem at_488_56 : am_at (am_m 488) 56 = some (.sipush 600, 0) := by decide +kernel
theorem at_488_59 : am_at (am_m 488) 59 = some (.if_icmp .le 7, 66) := by decide +kernel
theorem at_488_62 : am_at (am_m 488) 62 = some (.iconst 3, 0) := by decide +kernel
theorem at_488_63 : am_at (am_m 488) 63 = some (.goto 4, 67) := by decide +kernel
theorem at_488_66 : am_at (am_m 488) 66 = some (.iconst 0, 0) := by decide +kernel
theorem at_488_67 : am_at (am_m 488) 67 = some (.putfield 292, 3072) := by decide +kernel
theorem at_488_70 : am_at (am_m 488) 70 = some (.aload_n 0, 0) := by decide +kernel
theorem at_488_71 : am_at (am_m 488) 71 = some (.getfield 292, 3072) := by decide +kernel
theorem at_488_74 : am_at (am_m 488) 74 = some (.ifCond .le 5, 79) := by decide +kernel
theorem at_488_77 : am_at (am_m 488) 77 = some (.iconst 0, 0) := by decide +kernel
theorem at_488_78 : am_at (am_m 488) 78 = some (.ireturn, 0) := by decide +kernel
theorem at_488_79 : am_at (am_m 488) 79 = some (.aload_n 0, 0) := by decide +kernel
theorem at_488_80 : am_at (am_m 488) 80 = some (.lload 5, 0) := by decide +kernel
theorem at_488_82 : am_at (am_m 488) 82 = some (.putfield 820, 3168) := by decide +kernel
theorem at_488_85 : am_at (am_m 488) 85 = some (.aload_n 0, 0) := by decide +kernel
theorem at_488_86 : am_at (am_m 488) 86 = some (.getfield 187, 3170) := by decide +kernel
theorem at_488_89 : am_at (am_m 488) 89 = some (.iload_n 1, 0) := by decide +kernel
theorem at_488_90 : am_at (am_m 488) 90 = some (.iload_n 3, 0) := by decide +kernel
theorem at_488_91 : am_at (am_m 488) 91 = some (.iastore, 0) := by decide +kernel
theorem at_488_92 : am_at (am_m 488) 92 = some (.iconst 0, 0) := by decide +kernel
theorem at_488_93 : am_at (am_m 488) 93 = some (.istore 7, 0) := by decide +kernel
theorem at_488_95 : am_at (am_m 488) 95 = some (.iload 7, 0) := by decide +kernel
theorem at_488_97 : am_at (am_m 488) 97 = some (.iload_n 3, 0) := by decide +kernel
theorem at_488_98 : am_at (am_m 488) 98 = some (.if_icmp .ge 38, 136) := by decide +kernel
theorem at_488_101 : am_at (am_m 488) 101 = some (.aload_n 0, 0) := by decide +kernel
theorem at_488_102 : am_at (am_m 488) 102 = some (.iload_n 2, 0) := by decide +kernel
theorem at_488_103 : am_at (am_m 488) 103 = some (.iload 4, 0) := by decide +kernel
theorem at_488_105 : am_at (am_m 488) 105 = some (.invokevirtual 898, 491) := by decide +kernel
theorem at_488_108 : am_at (am_m 488) 108 = some (.aload_n 0, 0) := by decide +kernel
theorem at_488_109 : am_at (am_m 488) 109 = some (.getfield 190, 3171) := by decide +kernel
theorem at_488_112 : am_at (am_m 488) 112 = some (.bipush 16, 0) := by decide +kernel
theorem at_488_114 : am_at (am_m 488) 114 = some (.iload_n 1, 0) := by decide +kernel
theorem at_488_115 : am_at (am_m 488) 115 = some (.imul, 0) := by decide +kernel
theorem at_488_116 : am_at (am_m 488) 116 = some (.iload 7, 0) := by decide +kernel
theorem at_488_118 : am_at (am_m 488) 118 = some (.iadd, 0) := by decide +kernel
theorem at_488_119 : am_at (am_m 488) 119 = some (.aload_n 0, 0) := by decide +kernel
theorem at_488_120 : am_at (am_m 488) 120 = some (.iconst 2, 0) := by decide +kernel
theorem at_488_121 : am_at (am_m 488) 121 = some (.iconst (-1), 0) := by decide +kernel
theorem at_488_122 : am_at (am_m 488) 122 = some (.iconst (-1), 0) := by decide +kernel
theorem at_488_123 : am_at (am_m 488) 123 = some (.iconst (-1), 0) := by decide +kernel
theorem at_488_124 : am_at (am_m 488) 124 = some (.iconst (-1), 0) := by decide +kernel
theorem at_488_125 : am_at (am_m 488) 125 = some (.lconst 0, 0) := by decide +kernel
theorem at_488_126 : am_at (am_m 488) 126 = some (.invokevirtual 543, 356) := by decide +kernel
theorem at_488_129 : am_at (am_m 488) 129 = some (.iastore, 0) := by decide +kernel
theorem at_488_130 : am_at (am_m 488) 130 = some (.iinc 7 1, 0) := by decide +kernel
theorem at_488_133 : am_at (am_m 488) 133 = some (.goto (-38), 95) := by decide +kernel
theorem at_488_136 : am_at (am_m 488) 136 = some (.aload_n 0, 0) := by decide +kernel
theorem at_488_137 : am_at (am_m 488) 137 = some (.getfield 193, 3172) := by decide +kernel
theorem at_488_140 : am_at (am_m 488) 140 = some (.iload_n 1, 0) := by decide +kernel
theorem at_488_141 : am_at (am_m 488) 141 = some (.aload_n 0, 0) := by decide +kernel
theorem at_488_142 : am_at (am_m 488) 142 = some (.getfield 820, 3168) := by decide +kernel
theorem at_488_145 : am_at (am_m 488) 145 = some (.lastore, 0) := by decide +kernel
theorem at_488_146 : am_at (am_m 488) 146 = some (.aload_n 0, 0) := by decide +kernel
theorem at_488_147 : am_at (am_m 488) 147 = some (.getfield 190, 3171) := by decide +kernel
theorem at_488_150 : am_at (am_m 488) 150 = some (.bipush 16, 0) := by decide +kernel
theorem at_488_152 : am_at (am_m 488) 152 = some (.iload_n 1, 0) := by decide +kernel
theorem at_488_153 : am_at (am_m 488) 153 = some (.imul, 0) := by decide +kernel
theorem at_488_154 : am_at (am_m 488) 154 = some (.iaload, 0) := by decide +kernel
theorem at_488_155 : am_at (am_m 488) 155 = some (.ireturn, 0) := by decide +kernel
theorem at_489_0 : am_at (am_m 489) 0 = some (.iload_n 1, 0) := by decide +kernel
theorem at_489_1 : am_at (am_m 489) 1 = some (.i2l, 0) := by decide +kernel
theorem at_489_2 : am_at (am_m 489) 2 = some (.lconst 0, 0) := by decide +kernel
theorem at_489_3 : am_at (am_m 489) 3 = some (.ldc2_w 529, 48) := by decide +kernel
theorem at_489_6 : am_at (am_m 489) 6 = some (.invokestatic 299, 327) := by decide +kernel
theorem at_489_9 : am_at (am_m 489) 9 = some (.ireturn, 0) := by decide +kernel
theorem at_490_0 : am_at (am_m 490) 0 = some (.iload_n 0, 0) := by decide +kernel
theorem at_490_1 : am_at (am_m 490) 1 = some (.iconst 2, 0) := by decide +kernel
theorem at_490_2 : am_at (am_m 490) 2 = some (.if_icmp .ne 15, 17) := by decide +kernel
theorem at_490_5 : am_at (am_m 490) 5 = some (.iload_n 1, 0) := by decide +kernel
theorem at_490_6 : am_at (am_m 490) 6 = some (.i2l, 0) := by decide +kernel
theorem at_490_7 : am_at (am_m 490) 7 = some (.lconst 1, 0) := by decide +kernel
theorem at_490_8 : am_at (am_m 490) 8 = some (.ldc2_w 365, 64) := by decide +kernel
theorem at_490_11 : am_at (am_m 490) 11 = some (.invokestatic 299, 327) := by decide +kernel
theorem at_490_14 : am_at (am_m 490) 14 = some (.goto 31, 45) := by decide +kernel
theorem at_490_17 : am_at (am_m 490) 17 = some (.iload_n 0, 0) := by decide +kernel
theorem at_490_18 : am_at (am_m 490) 18 = some (.iconst 3, 0) := by decide +kernel
theorem at_490_19 : am_at (am_m 490) 19 = some (.if_icmp .ne 17, 36) := by decide +kernel
theorem at_490_22 : am_at (am_m 490) 22 = some (.iload_n 1, 0) := by decide +kernel
theorem at_490_23 : am_at (am_m 490) 23 = some (.i2l, 0) := by decide +kernel
theorem at_490_24 : am_at (am_m 490) 24 = some (.ldc2_w 522, 51) := by decide +kernel
theorem at_490_27 : am_at (am_m 490) 27 = some (.ldc2_w 524, 52) := by decide +kernel
theorem at_490_30 : am_at (am_m 490) 30 = some (.invokestatic 299, 327) := by decide +kernel
theorem at_490_33 : am_at (am_m 490) 33 = some (.goto 12, 45) := by decide +kernel
theorem at_490_36 : am_at (am_m 490) 36 = some (.iload_n 1, 0) := by decide +kernel
theorem at_490_37 : am_at (am_m 490) 37 = some (.i2l, 0) := by decide +kernel
theorem at_490_38 : am_at (am_m 490) 38 = some (.lconst 1, 0) := by decide +kernel
theorem at_490_39 : am_at (am_m 490) 39 = some (.ldc2_w 638, 55) := by decide +kernel
theorem at_490_42 : am_at (am_m 490) 42 = some (.invokestatic 299, 327) := by decide +kernel
theorem at_490_45 : am_at (am_m 490) 45 = some (.ireturn, 0) := by decide +kernel
theorem at_491_0 : am_at (am_m 491) 0 = some (.aload_n 0, 0) := by decide +kernel
theorem at_491_1 : am_at (am_m 491) 1 = some (.iload_n 1, 0) := by decide +kernel
theorem at_491_2 : am_at (am_m 491) 2 = some (.putfield 303, 3085) := by decide +kernel
theorem at_491_5 : am_at (am_m 491) 5 = some (.aload_n 0, 0) := by decide +kernel
theorem at_491_6 : am_at (am_m 491) 6 = some (.iconst 0, 0) := by decide +kernel
theorem at_491_7 : am_at (am_m 491) 7 = some (.putfield 306, 3086) := by decide +kernel
theorem at_491_10 : am_at (am_m 491) 10 = some (.aload_n 0, 0) := by decide +kernel
theorem at_491_11 : am_at (am_m 491) 11 = some (.iconst 0, 0) := by decide +kernel
theorem at_491_12 : am_at (am_m 491) 12 = some (.putfield 309, 3087) := by decide +kernel
theorem at_491_15 : am_at (am_m 491) 15 = some (.iload_n 1, 0) := by decide +kernel
theorem at_491_16 : am_at (am_m 491) 16 = some (.iconst 2, 0) := by decide +kernel
theorem at_491_17 : am_at (am_m 491) 17 = some (.if_icmp .ne 11, 28) := by decide +kernel
theorem at_491_20 : am_at (am_m 491) 20 = some (.aload_n 0, 0) := by decide +kernel
theorem at_491_21 : am_at (am_m 491) 21 = some (.iload_n 2, 0) := by decide +kernel
theorem at_491_22 : am_at (am_m 491) 22 = some (.invokevirtual 884, 492) := by decide +kernel
theorem at_491_25 : am_at (am_m 491) 25 = some (.goto 73, 98) := by decide +kernel
theorem at_491_28 : am_at (am_m 491) 28 = some (.iload_n 1, 0) := by decide +kernel
theorem at_491_29 : am_at (am_m 491) 29 = some (.iconst 3, 0) := by decide +kernel
theorem at_491_30 : am_at (am_m 491) 30 = some (.if_icmp .ne 11, 41) := by decide +kernel
theorem at_491_33 : am_at (am_m 491) 33 = some (.aload_n 0, 0) := by decide +kernel
theorem at_491_34 : am_at (am_m 491) 34 = some (.iload_n 2, 0) := by decide +kernel
theorem at_491_35 : am_at (am_m 491) 35 = some (.invokevirtual 887, 493) := by decide +kernel
theorem at_491_38 : am_at (am_m 491) 38 = some (.goto 60, 98) := by decide +kernel
theorem at_491_41 : am_at (am_m 491) 41 = some (.aload_n 0, 0) := by decide +kernel
theorem at_491_42 : am_at (am_m 491) 42 = some (.invokevirtual 616, 377) := by decide +kernel
theorem at_491_45 : am_at (am_m 491) 45 = some (.aload_n 0, 0) := by decide +kernel
theorem at_491_46 : am_at (am_m 491) 46 = some (.aload_n 0, 0) := by decide +kernel
theorem at_491_47 : am_at (am_m 491) 47 = some (.iconst 0, 0) := by decide +kernel
theorem at_491_48 : am_at (am_m 491) 48 = some (.iconst 0, 0) := by decide +kernel
theorem at_491_49 : am_at (am_m 491) 49 = some (.iload_n 2, 0) := by decide +kernel
theorem at_491_50 : am_at (am_m 491) 50 = some (.invokevirtual 600, 383) := by decide +kernel
theorem at_491_53 : am_at (am_m 491) 53 = some (.invokevirtual 839, 477) := by decide +kernel
theorem at_491_56 : am_at (am_m 491) 56 = some (.lstore_n 3, 0) := by decide +kernel
theorem at_491_57 : am_at (am_m 491) 57 = some (.aload_n 0, 0) := by decide +kernel
theorem at_491_58 : am_at (am_m 491) 58 = some (.iconst 0, 0) := by decide +kernel
theorem at_491_59 : am_at (am_m 491) 59 = some (.putfield 303, 3085) := by decide +kernel
theorem at_491_62 : am_at (am_m 491) 62 = some (.aload_n 0, 0) := by decide +kernel
theorem at_491_63 : am_at (am_m 491) 63 = some (.iconst 0, 0) := by decide +kernel
theorem at_491_64 : am_at (am_m 491) 64 = some (.iconst 0, 0) := by decide +kernel
theorem at_491_65 : am_at (am_m 491) 65 = some (.iload_n 2, 0) := by decide +kernel
theorem at_491_66 : am_at (am_m 491) 66 = some (.lload_n 3, 0) := by decide +kernel
theorem at_491_67 : am_at (am_m 491) 67 = some (.invokevirtual 632, 386) := by decide +kernel
theorem at_491_70 : am_at (am_m 491) 70 = some (.iload_n 1, 0) := by decide +kernel
theorem at_491_71 : am_at (am_m 491) 71 = some (.iconst 1, 0) := by decide +kernel
theorem at_491_72 : am_at (am_m 491) 72 = some (.if_icmp .ne 26, 98) := by decide +kernel
theorem at_491_75 : am_at (am_m 491) 75 = some (.aload_n 0, 0) := by decide +kernel
theorem at_491_76 : am_at (am_m 491) 76 = some (.invokevirtual 890, 494) := by decide +kernel
theorem at_491_79 : am_at (am_m 491) 79 = some (.ifCond .ne 19, 98) := by decide +kernel
theorem at_491_82 : am_at (am_m 491) 82 = some (.aload_n 0, 0) := by decide +kernel
theorem at_491_83 : am_at (am_m 491) 83 = some (.iconst 1, 0) := by decide +kernel
theorem at_491_84 : am_at (am_m 491) 84 = some (.putfield 303, 3085) := by decide +kernel
theorem at_491_87 : am_at (am_m 491) 87 = some (.aload_n 0, 0) := by decide +kernel
theorem at_491_88 : am_at (am_m 491) 88 = some (.iconst 0, 0) := by decide +kernel
theorem at_491_89 : am_at (am_m 491) 89 = some (.putfield 306, 3086) := by decide +kernel
theorem at_491_92 : am_at (am_m 491) 92 = some (.aload_n 0, 0) := by decide +kernel
theorem at_491_93 : am_at (am_m 491) 93 = some (.iconst 0, 0) := by decide +kernel
theorem at_491_94 : am_at (am_m 491) 94 = some (.iconst 0, 0) := by decide +kernel
theorem at_491_95 : am_at (am_m 491) 95 = some (.invokevirtual 335, 335) := by decide +kernel
theorem at_491_98 : am_at (am_m 491) 98 = some (.return_, 0) := by decide +kernel
theorem at_492_0 : am_at (am_m 492) 0 = some (.iconst 0, 0) := by decide +kernel
theorem at_492_1 : am_at (am_m 492) 1 = some (.istore_n 2, 0) := by decide +kernel
theorem at_492_2 : am_at (am_m 492) 2 = some (.iload_n 2, 0) := by decide +kernel
theorem at_492_3 : am_at (am_m 492) 3 = some (.iload_n 1, 0) := by decide +kernel
theorem at_492_4 : am_at (am_m 492) 4 = some (.if_icmp .ge 55, 59) := by decide +kernel
theorem at_492_7 : am_at (am_m 492) 7 = some (.aload_n 0, 0) := by decide +kernel
theorem at_492_8 : am_at (am_m 492) 8 = some (.bipush 10, 0) := by decide +kernel
theorem at_492_10 : am_at (am_m 492) 10 = some (.invokevirtual 833, 474) := by decide +kernel
theorem at_492_13 : am_at (am_m 492) 13 = some (.istore_n 3, 0) := by decide +kernel
theorem at_492_14 : am_at (am_m 492) 14 = some (.iconst 0, 0) := by decide +kernel
theorem at_492_15 : am_at (am_m 492) 15 = some (.istore 4, 0) := by decide +kernel
theorem at_492_17 : am_at (am_m 492) 17 = some (.iconst 0, 0) := by decide +kernel
theorem at_492_18 : am_at (am_m 492) 18 = some (.istore 5, 0) := by decide +kernel
theorem at_492_20 : am_at (am_m 492) 20 = some (.iload 5, 0) := by decide +kernel
theorem at_492_22 : am_at (am_m 492) 22 = some (.iconst 4, 0) := by decide +kernel
theorem at_492_23 : am_at (am_m 492) 23 = some (.if_icmp .ge 23, 46) := by decide +kernel
theorem at_492_26 : am_at (am_m 492) 26 = some (.iload 4, 0) := by decide +kernel
theorem at_492_28 : am_at (am_m 492) 28 = some (.iload 5, 0) := by decide +kernel
theorem at_492_30 : am_at (am_m 492) 30 = some (.aload_n 0, 0) := by decide +kernel
theorem at_492_31 : am_at (am_m 492) 31 = some (.iload_n 1, 0) := by decide +kernel
theorem at_492_32 : am_at (am_m 492) 32 = some (.invokevirtual 833, 474) := by decide +kernel
theorem at_492_35 : am_at (am_m 492) 35 = some (.invokestatic 516, 353) := by decide +kernel
theorem at_492_38 : am_at (am_m 492) 38 = some (.istore 4, 0) := by decide +kernel
theorem at_492_40 : am_at (am_m 492) 40 = some (.iinc 5 1, 0) := by decide +kernel
theorem at_492_43 : am_at (am_m 492) 43 = some (.goto (-23), 20) := by decide +kernel
theorem at_492_46 : am_at (am_m 492) 46 = some (.aload_n 0, 0) := by decide +kernel
theorem at_492_47 : am_at (am_m 492) 47 = some (.iload_n 3, 0) := by decide +kernel
theorem at_492_48 : am_at (am_m 492) 48 = some (.iload 4, 0) := by decide +kernel
theorem at_492_50 : am_at (am_m 492) 50 = some (.invokevirtual 335, 335) := by decide +kernel
theorem at_492_53 : am_at (am_m 492) 53 = some (.iinc 2 1, 0) := by decide +kernel
theorem at_492_56 : am_at (am_m 492) 56 = some (.goto (-54), 2) := by decide +kernel
theorem at_492_59 : am_at (am_m 492) 59 = some (.return_, 0) := by decide +kernel
theorem at_493_0 : am_at (am_m 493) 0 = some (.aload_n 0, 0) := by decide +kernel
theorem at_493_1 : am_at (am_m 493) 1 = some (.iload_n 1, 0) := by decide +kernel
theorem at_493_2 : am_at (am_m 493) 2 = some (.putfield 309, 3087) := by decide +kernel
theorem at_493_5 : am_at (am_m 493) 5 = some (.iconst 0, 0) := by decide +kernel
theorem at_493_6 : am_at (am_m 493) 6 = some (.istore_n 2, 0) := by decide +kernel
theorem at_493_7 : am_at (am_m 493) 7 = some (.iload_n 2, 0) := by decide +kernel
theorem at_493_8 : am_at (am_m 493) 8 = some (.iconst 2, 0) := by decide +kernel
theorem at_493_9 : am_at (am_m 493) 9 = some (.iload_n 1, 0) := by decide +kernel
theorem at_493_10 : am_at (am_m 493) 10 = some (.imul, 0) := by decide +kernel
theorem at_493_11 : am_at (am_m 493) 11 = some (.if_icmp .ge 39, 50) := by decide +kernel
theorem at_493_14 : am_at (am_m 493) 14 = some (.aload_n 0, 0) := by decide +kernel
theorem at_493_15 : am_at (am_m 493) 15 = some (.iload_n 1, 0) := by decide +kernel
theorem at_493_16 : am_at (am_m 493) 16 = some (.iconst 1, 0) := by decide +kernel
theorem at_493_17 : am_at (am_m 493) 17 = some (.isub, 0) := by decide +kernel
theorem at_493_18 : am_at (am_m 493) 18 = some (.invokevirtual 833, 474) := by decide +kernel
theorem at_493_21 : am_at (am_m 493) 21 = some (.istore_n 3, 0) := by decide +kernel
theorem at_493_22 : am_at (am_m 493) 22 = some (.iload_n 3, 0) := by decide +kernel
theorem at_493_23 : am_at (am_m 493) 23 = some (.iconst 1, 0) := by decide +kernel
theorem at_493_24 : am_at (am_m 493) 24 = some (.iadd, 0) := by decide +kernel
theorem at_493_25 : am_at (am_m 493) 25 = some (.aload_n 0, 0) := by decide +kernel
theorem at_493_26 : am_at (am_m 493) 26 = some (.iload_n 1, 0) := by decide +kernel
theorem at_493_27 : am_at (am_m 493) 27 = some (.iconst 1, 0) := by decide +kernel
theorem at_493_28 : am_at (am_m 493) 28 = some (.isub, 0) := by decide +kernel
theorem at_493_29 : am_at (am_m 493) 29 = some (.iload_n 3, 0) := by decide +kernel
theorem at_493_30 : am_at (am_m 493) 30 = some (.isub, 0) := by decide +kernel
theorem at_493_31 : am_at (am_m 493) 31 = some (.invokevirtual 833, 474) := by decide +kernel
theorem at_493_34 : am_at (am_m 493) 34 = some (.iadd, 0) := by decide +kernel
theorem at_493_35 : am_at (am_m 493) 35 = some (.istore 4, 0) := by decide +kernel
theorem at_493_37 : am_at (am_m 493) 37 = some (.aload_n 0, 0) := by decide +kernel
theorem at_493_38 : am_at (am_m 493) 38 = some (.iload_n 3, 0) := by decide +kernel
theorem at_493_39 : am_at (am_m 493) 39 = some (.iload 4, 0) := by decide +kernel
theorem at_493_41 : am_at (am_m 493) 41 = some (.invokevirtual 335, 335) := by decide +kernel
theorem at_493_44 : am_at (am_m 493) 44 = some (.iinc 2 1, 0) := by decide +kernel
theorem at_493_47 : am_at (am_m 493) 47 = some (.goto (-40), 7) := by decide +kernel
theorem at_493_50 : am_at (am_m 493) 50 = some (.return_, 0) := by decide +kernel
theorem at_494_0 : am_at (am_m 494) 0 = some (.aload_n 0, 0) := by decide +kernel
theorem at_494_1 : am_at (am_m 494) 1 = some (.invokevirtual 1032, 495) := by decide +kernel
theorem at_494_4 : am_at (am_m 494) 4 = some (.aload_n 0, 0) := by decide +kernel
theorem at_494_5 : am_at (am_m 494) 5 = some (.getfield 315, 3090) := by decide +kernel
theorem at_494_8 : am_at (am_m 494) 8 = some (.iconst 1, 0) := by decide +kernel
theorem at_494_9 : am_at (am_m 494) 9 = some (.isub, 0) := by decide +kernel
theorem at_494_10 : am_at (am_m 494) 10 = some (.istore_n 1, 0) := by decide +kernel
theorem at_494_11 : am_at (am_m 494) 11 = some (.iload_n 1, 0) := by decide +kernel
theorem at_494_12 : am_at (am_m 494) 12 = some (.ifCond .lt 20, 32) := by decide +kernel
theorem at_494_15 : am_at (am_m 494) 15 = some (.aload_n 0, 0) := by decide +kernel
theorem at_494_16 : am_at (am_m 494) 16 = some (.getfield 247, 3194) := by decide +kernel
theorem at_494_19 : am_at (am_m 494) 19 = some (.iload_n 1, 0) := by decide +kernel
theorem at_494_20 : am_at (am_m 494) 20 = some (.aload_n 0, 0) := by decide +kernel
theorem at_494_21 : am_at (am_m 494) 21 = some (.iload_n 1, 0) := by decide +kernel
theorem at_494_22 : am_at (am_m 494) 22 = some (.invokevirtual 1065, 496) := by decide +kernel
theorem at_494_25 : am_at (am_m 494) 25 = some (.iastore, 0) := by decide +kernel
theorem at_494_26 : am_at (am_m 494) 26 = some (.iinc 1 (-1), 0) := by decide +kernel
theorem at_494_29 : am_at (am_m 494) 29 = some (.goto (-18), 11) := by decide +kernel
theorem at_494_32 : am_at (am_m 494) 32 = some (.iconst 0, 0) := by decide +kernel
theorem at_494_33 : am_at (am_m 494) 33 = some (.istore_n 1, 0) := by decide +kernel
theorem at_494_34 : am_at (am_m 494) 34 = some (.iload_n 1, 0) := by decide +kernel
theorem at_494_35 : am_at (am_m 494) 35 = some (.aload_n 0, 0) := by decide +kernel
theorem at_494_36 : am_at (am_m 494) 36 = some (.getfield 315, 3090) := by decide +kernel
theorem at_494_39 : am_at (am_m 494) 39 = some (.if_icmp .ge 22, 61) := by decide +kernel
theorem at_494_42 : am_at (am_m 494) 42 = some (.aload_n 0, 0) := by decide +kernel
theorem at_494_43 : am_at (am_m 494) 43 = some (.getfield 51, 3093) := by decide +kernel
theorem at_494_46 : am_at (am_m 494) 46 = some (.iload_n 1, 0) := by decide +kernel
theorem at_494_47 : am_at (am_m 494) 47 = some (.iaload, 0) := by decide +kernel
theorem at_494_48 : am_at (am_m 494) 48 = some (.bipush 19, 0) := by decide +kernel
theorem at_494_50 : am_at (am_m 494) 50 = some (.if_icmp .ne 5, 55) := by decide +kernel
theorem at_494_53 : am_at (am_m 494) 53 = some (.iconst 0, 0) := by decide +kernel
theorem at_494_54 : am_at (am_m 494) 54 = some (.ireturn, 0) := by decide +kernel
theorem at_494_55 : am_at (am_m 494) 55 = some (.iinc 1 1, 0) := by decide +kernel
theorem at_494_58 : am_at (am_m 494) 58 = some (.goto (-24), 34) := by decide +kernel
theorem at_494_61 : am_at (am_m 494) 61 = some (.aload_n 0, 0) := by decide +kernel
theorem at_494_62 : am_at (am_m 494) 62 = some (.getfield 247, 3194) := by decide +kernel
theorem at_494_65 : am_at (am_m 494) 65 = some (.iconst 0, 0) := by decide +kernel
theorem at_494_66 : am_at (am_m 494) 66 = some (.iaload, 0) := by decide +kernel
theorem at_494_67 : am_at (am_m 494) 67 = some (.bipush 60, 0) := by decide +kernel
theorem at_494_69 : am_at (am_m 494) 69 = some (.if_icmp .le 5, 74) := by decide +kernel
theorem at_494_72 : am_at (am_m 494) 72 = some (.iconst 0, 0) := by decide +kernel
theorem at_494_73 : am_at (am_m 494) 73 = some (.ireturn, 0) := by decide +kernel
theorem at_494_74 : am_at (am_m 494) 74 = some (.aload_n 0, 0) := by decide +kernel
theorem at_494_75 : am_at (am_m 494) 75 = some (.invokevirtual 753, 451) := by decide +kernel
theorem at_494_78 : am_at (am_m 494) 78 = some (.aload_n 0, 0) := by decide +kernel
theorem at_494_79 : am_at (am_m 494) 79 = some (.iconst 1, 0) := by decide +kernel
theorem at_494_80 : am_at (am_m 494) 80 = some (.putfield 303, 3085) := by decide +kernel
theorem at_494_83 : am_at (am_m 494) 83 = some (.aload_n 0, 0) := by decide +kernel
theorem at_494_84 : am_at (am_m 494) 84 = some (.aload_n 0, 0) := by decide +kernel
theorem at_494_85 : am_at (am_m 494) 85 = some (.getfield 247, 3194) := by decide +kernel
theorem at_494_88 : am_at (am_m 494) 88 = some (.iconst 0, 0) := by decide +kernel
theorem at_494_89 : am_at (am_m 494) 89 = some (.iaload, 0) := by decide +kernel
theorem at_494_90 : am_at (am_m 494) 90 = some (.putfield 306, 3086) := by decide +kernel
theorem at_494_93 : am_at (am_m 494) 93 = some (.aload_n 0, 0) := by decide +kernel
theorem at_494_94 : am_at (am_m 494) 94 = some (.getfield 145, 3143) := by decide +kernel
theorem at_494_97 : am_at (am_m 494) 97 = some (.iconst 0, 0) := by decide +kernel
theorem at_494_98 : am_at (am_m 494) 98 = some (.iconst 0, 0) := by decide +kernel
theorem at_494_99 : am_at (am_m 494) 99 = some (.iastore, 0) := by decide +kernel
theorem at_494_100 : am_at (am_m 494) 100 = some (.iconst 0, 0) := by decide +kernel
theorem at_494_101 : am_at (am_m 494) 101 = some (.istore_n 1, 0) := by decide +kernel
theorem at_494_102 : am_at (am_m 494) 102 = some (.iload_n 1, 0) := by decide +kernel
theorem at_494_103 : am_at (am_m 494) 103 = some (.aload_n 0, 0) := by decide +kernel
theorem at_494_104 : am_at (am_m 494) 104 = some (.getfield 315, 3090) := by decide +kernel
theorem at_494_107 : am_at (am_m 494) 107 = some (.if_icmp .ge 20, 127) := by decide +kernel
theorem at_494_110 : am_at (am_m 494) 110 = some (.aload_n 0, 0) := by decide +kernel
theorem at_494_111 : am_at (am_m 494) 111 = some (.iload_n 1, 0) := by decide +kernel
theorem at_494_112 : am_at (am_m 494) 112 = some (.aload_n 0, 0) := by decide +kernel
theorem at_494_113 : am_at (am_m 494) 113 = some (.getfield 145, 3143) := by decide +kernel
theorem at_494_116 : am_at (am_m 494) 116 = some (.iload_n 1, 0) := by decide +kernel
theorem at_494_117 : am_at (am_m 494) 117 = some (.iaload, 0) := by decide +kernel
theorem at_494_118 : am_at (am_m 494) 118 = some (.invokevirtual 1068, 497) := by decide +kernel
theorem at_494_121 : am_at (am_m 494) 121 = some (.iinc 1 1, 0) := by decide +kernel
theorem at_494_124 : am_at (am_m 494) 124 = some (.goto (-22), 102) := by decide +kernel
theorem at_494_127 : am_at (am_m 494) 127 = some (.aload_n 0, 0) := by decide +kernel
theorem at_494_128 : am_at (am_m 494) 128 = some (.invokevirtual 361, 347) := by decide +kernel
theorem at_494_131 : am_at (am_m 494) 131 = some (.iconst (-1), 0) := by decide +kernel
theorem at_494_132 : am_at (am_m 494) 132 = some (.if_icmp .ne 7, 139) := by decide +kernel
theorem at_494_135 : am_at (am_m 494) 135 = some (.iconst 1, 0) := by decide +kernel
theorem at_494_136 : am_at (am_m 494) 136 = some (.goto 4, 140) := by decide +kernel
theorem at_494_139 : am_at (am_m 494) 139 = some (.iconst 0, 0) := by decide +kernel
theorem at_494_140 : am_at (am_m 494) 140 = some (.ireturn, 0) := by decide +kernel
theorem at_495_0 : am_at (am_m 495) 0 = some (.aload_n 0, 0) := by decide +kernel
theorem at_495_1 : am_at (am_m 495) 1 = some (.aload_n 0, 0) := by decide +kernel
theorem at_495_2 : am_at (am_m 495) 2 = some (.getfield 303, 3085) := by decide +kernel
theorem at_495_5 : am_at (am_m 495) 5 = some (.putfield 312, 3092) := by decide +kernel
theorem at_495_8 : am_at (am_m 495) 8 = some (.aload_n 0, 0) := by decide +kernel
theorem at_495_9 : am_at (am_m 495) 9 = some (.aload_n 0, 0) := by decide +kernel
theorem at_495_10 : am_at (am_m 495) 10 = some (.getfield 306, 3086) := by decide +kernel
theorem at_495_13 : am_at (am_m 495) 13 = some (.putfield 315, 3090) := by decide +kernel
theorem at_495_16 : am_at (am_m 495) 16 = some (.aload_n 0, 0) := by decide +kernel
theorem at_495_17 : am_at (am_m 495) 17 = some (.aload_n 0, 0) := by decide +kernel
theorem at_495_18 : am_at (am_m 495) 18 = some (.getfield 309, 3087) := by decide +kernel
theorem at_495_21 : am_at (am_m 495) 21 = some (.putfield 318, 3091) := by decide +kernel
theorem at_495_24 : am_at (am_m 495) 24 = some (.iconst 0, 0) := by decide +kernel
theorem at_495_25 : am_at (am_m 495) 25 = some (.istore_n 1, 0) := by decide +kernel
theorem at_495_26 : am_at (am_m 495) 26 = some (.iload_n 1, 0) := by decide +kernel
theorem at_495_27 : am_at (am_m 495) 27 = some (.aload_n 0, 0) := by decide +kernel
theorem at_495_28 : am_at (am_m 495) 28 = some (.getfield 306, 3086) := by decide +kernel
theorem at_495_31 : am_at (am_m 495) 31 = some (.if_icmp .ge 33, 64) := by decide +kernel
theorem at_495_34 : am_at (am_m 495) 34 = some (.aload_n 0, 0) := by decide +kernel
theorem at_495_35 : am_at (am_m 495) 35 = some (.getfield 51, 3093) := by decide +kernel
theorem at_495_38 : am_at (am_m 495) 38 = some (.iload_n 1, 0) := by decide +kernel
theorem at_495_39 : am_at (am_m 495) 39 = some (.aload_n 0, 0) := by decide +kernel
theorem at_495_40 : am_at (am_m 495) 40 = some (.getfield 45, 3088) := by decide +kernel
theorem at_495_43 : am_at (am_m 495) 43 = some (.iload_n 1, 0) := by decide +kernel
theorem at_495_44 : am_at (am_m 495) 44 = some (.iaload, 0) := by decide +kernel
theorem at_495_45 : am_at (am_m 495) 45 = some (.iastore, 0) := by decide +kernel
theorem at_495_46 : am_at (am_m 495) 46 = some (.aload_n 0, 0) := by decide +kernel
theorem at_495_47 : am_at (am_m 495) 47 = some (.getfield 54, 3094) := by decide +kernel
theorem at_495_50 : am_at (am_m 495) 50 = some (.iload_n 1, 0) := by decide +kernel
theorem at_495_51 : am_at (am_m 495) 51 = some (.aload_n 0, 0) := by decide +kernel
theorem at_495_52 : am_at (am_m 495) 52 = some (.getfield 48, 3089) := by decide +kernel
theorem at_495_55 : am_at (am_m 495) 55 = some (.iload_n 1, 0) := by decide +kernel
theorem at_495_56 : am_at (am_m 495) 56 = some (.iaload, 0) := by decide +kernel
theorem at_495_57 : am_at (am_m 495) 57 = some (.iastore, 0) := by decide +kernel
theorem at_495_58 : am_at (am_m 495) 58 = some (.iinc 1 1, 0) := by decide +kernel
theorem at_495_61 : am_at (am_m 495) 61 = some (.goto (-35), 26) := by decide +kernel
theorem at_495_64 : am_at (am_m 495) 64 = some (.aload_n 0, 0) := by decide +kernel
theorem at_495_65 : am_at (am_m 495) 65 = some (.getfield 312, 3092) := by decide +kernel
theorem at_495_68 : am_at (am_m 495) 68 = some (.ifCond .ne 7, 75) := by decide +kernel
theorem at_495_71 : am_at (am_m 495) 71 = some (.aload_n 0, 0) := by decide +kernel
theorem at_495_72 : am_at (am_m 495) 72 = some (.invokevirtual 321, 392) := by decide +kernel
theorem at_495_75 : am_at (am_m 495) 75 = some (.return_, 0) := by decide +kernel
theorem at_496_0 : am_at (am_m 496) 0 = some (.aload_n 0, 0) := by decide +kernel
theorem at_496_1 : am_at (am_m 496) 1 = some (.getfield 51, 3093) := by decide +kernel
theorem at_496_4 : am_at (am_m 496) 4 = some (.iload_n 1, 0) := by decide +kernel
theorem at_496_5 : am_at (am_m 496) 5 = some (.iaload, 0) := by decide +kernel
theorem at_496_6 : am_at (am_m 496) 6 = some (.istore_n 2, 0) := by decide +kernel
theorem at_496_7 : am_at (am_m 496) 7 = some (.iconst 0, 0) := by decide +kernel
theorem at_496_8 : am_at (am_m 496) 8 = some (.istore_n 3, 0) := by decide +kernel
theorem at_496_9 : am_at (am_m 496) 9 = some (.iconst 0, 0) := by decide +kernel
theorem at_496_10 : am_at (am_m 496) 10 = some (.istore 4, 0) := by decide +kernel
theorem at_496_12 : am_at (am_m 496) 12 = some (.iload 4, 0) := by decide +kernel
theorem at_496_14 : am_at (am_m 496) 14 = some (.iload_n 2, 0) := by decide +kernel
theorem at_496_15 : am_at (am_m 496) 15 = some (.invokestatic 327, 343) := by decide +kernel
theorem at_496_18 : am_at (am_m 496) 18 = some (.if_icmp .ge 24, 42) := by decide +kernel
theorem at_496_21 : am_at (am_m 496) 21 = some (.iload_n 3, 0) := by decide +kernel
theorem at_496_22 : am_at (am_m 496) 22 = some (.aload_n 0, 0) := by decide +kernel
theorem at_496_23 : am_at (am_m 496) 23 = some (.getfield 247, 3194) := by decide +kernel
theorem at_496_26 : am_at (am_m 496) 26 = some (.aload_n 0, 0) := by decide +kernel
theorem at_496_27 : am_at (am_m 496) 27 = some (.iload_n 1, 0) := by decide +kernel
theorem at_496_28 : am_at (am_m 496) 28 = some (.iload 4, 0) := by decide +kernel
theorem at_496_30 : am_at (am_m 496) 30 = some (.invokevirtual 642, 393) := by decide +kernel
theorem at_496_33 : am_at (am_m 496) 33 = some (.iaload, 0) := by decide +kernel
theorem at_496_34 : am_at (am_m 496) 34 = some (.iadd, 0) := by decide +kernel
theorem at_496_35 : am_at (am_m 496) 35 = some (.istore_n 3, 0) := by decide +kernel
theorem at_496_36 : am_at (am_m 496) 36 = some (.iinc 4 1, 0) := by decide +kernel
theorem at_496_39 : am_at (am_m 496) 39 = some (.goto (-27), 12) := by decide +kernel
theorem at_496_42 : am_at (am_m 496) 42 = some (.iload_n 3, 0) := by decide +kernel
theorem at_496_43 : am_at (am_m 496) 43 = some (.iload_n 2, 0) := by decide +kernel
theorem at_496_44 : am_at (am_m 496) 44 = some (.bipush 9, 0) := by decide +kernel
theorem at_496_46 : am_at (am_m 496) 46 = some (.if_icmp .ge 7, 53) := by decide +kernel
theorem at_496_49 : am_at (am_m 496) 49 = some (.iconst 1, 0) := by decide +kernel
theorem at_496_50 : am_at (am_m 496) 50 = some (.goto 40, 90) := by decide +kernel
theorem at_496_53 : am_at (am_m 496) 53 = some (.iload_n 2, 0) := by decide +kernel
theorem at_496_54 : am_at (am_m 496) 54 = some (.bipush 9, 0) := by decide +kernel
theorem at_496_56 : am_at (am_m 496) 56 = some (.if_icmp .ne 7, 63) := by decide +kernel
theorem at_496_59 : am_at (am_m 496) 59 = some (.iconst 2, 0) := by decide +kernel
theorem at_496_60 : am_at (am_m 496) 60 = some (.goto 30, 90) := by decide +kernel
theorem at_496_63 : am_at (am_m 496) 63 = some (.iload_n 2, 0) := by decide +kernel
theorem at_496_64 : am_at (am_m 496) 64 = some (.bipush 17, 0) := by decide +kernel
theorem at_496_66 : am_at (am_m 496) 66 = some (.if_icmp .ge 7, 73) := by decide +kernel
theorem at_496_69 : am_at (am_m 496) 69 = some (.iconst 1, 0) := by decide +kernel
theorem at_496_70 : am_at (am_m 496) 70 = some (.goto 20, 90) := by decide +kernel
theorem at_496_73 : am_at (am_m 496) 73 = some (.iload_n 2, 0) := by decide +kernel
theorem at_496_74 : am_at (am_m 496) 74 = some (.bipush 17, 0) := by decide +kernel
theorem at_496_76 : am_at (am_m 496) 76 = some (.if_icmp .eq 9, 85) := by decide +kernel
theorem at_496_79 : am_at (am_m 496) 79 = some (.iload_n 2, 0) := by decide +kernel
theorem at_496_80 : am_at (am_m 496) 80 = some (.bipush 18, 0) := by decide +kernel
theorem at_496_82 : am_at (am_m 496) 82 = some (.if_icmp .ne 7, 89) := by decide +kernel
theorem at_496_85 : am_at (am_m 496) 85 = some (.iconst 3, 0) := by decide +kernel
theorem at_496_86 : am_at (am_m 496) 86 = some (.goto 4, 90) := by decide +kernel
theorem at_496_89 : am_at (am_m 496) 89 = some (.iconst 2, 0) := by decide +kernel
theorem at_496_90 : am_at (am_m 496) 90 = some (.iadd, 0) := by decide +kernel
theorem at_496_91 : am_at (am_m 496) 91 = some (.ireturn, 0) := by decide +kernel
theorem at_497_0 : am_at (am_m 497) 0 = some (.aload_n 0, 0) := by decide +kernel
theorem at_497_1 : am_at (am_m 497) 1 = some (.getfield 51, 3093) := by decide +kernel
theorem at_497_4 : am_at (am_m 497) 4 = some (.iload_n 1, 0) := by decide +kernel
theorem at_497_5 : am_at (am_m 497) 5 = some (.iaload, 0) := by decide +kernel
theorem at_497_6 : am_at (am_m 497) 6 = some (.istore_n 3, 0) := by decide +kernel
theorem at_497_7 : am_at (am_m 497) 7 = some (.iload_n 2, 0) := by decide +kernel
theorem at_497_8 : am_at (am_m 497) 8 = some (.aload_n 0, 0) := by decide +kernel
theorem at_497_9 : am_at (am_m 497) 9 = some (.getfield 247, 3194) := by decide +kernel
theorem at_497_12 : am_at (am_m 497) 12 = some (.iload_n 1, 0) := by decide +kernel
theorem at_497_13 : am_at (am_m 497) 13 = some (.iaload, 0) := by decide +kernel
theorem at_497_14 : am_at (am_m 497) 14 = some (.iadd, 0) := by decide +kernel
theorem at_497_15 : am_at (am_m 497) 15 = some (.iconst 1, 0) := by decide +kernel
theorem at_497_16 : am_at (am_m 497) 16 = some (.isub, 0) := by decide +kernel
theorem at_497_17 : am_at (am_m 497) 17 = some (.istore 4, 0) := by decide +kernel
theorem at_497_19 : am_at (am_m 497) 19 = some (.iload_n 3, 0) := by decide +kernel
theorem at_497_20 : am_at (am_m 497) 20 = some (.iconst 5, 0) := by decide +kernel
theorem at_497_21 : am_at (am_m 497) 21 = some (.if_icmp .ge 16, 37) := by decide +kernel
theorem at_497_24 : am_at (am_m 497) 24 = some (.aload_n 0, 0) := by decide +kernel
theorem at_497_25 : am_at (am_m 497) 25 = some (.iload_n 2, 0) := by decide +kernel
theorem at_497_26 : am_at (am_m 497) 26 = some (.iload_n 3, 0) := by decide +kernel
theorem at_497_27 : am_at (am_m 497) 27 = some (.aload_n 0, 0) := by decide +kernel
theorem at_497_28 : am_at (am_m 497) 28 = some (.getfield 54, 3094) := by decide +kernel
theorem at_497_31 : am_at (am_m 497) 31 = some (.iload_n 1, 0) := by decide +kernel
theorem at_497_32 : am_at (am_m 497) 32 = some (.iaload, 0) := by decide +kernel
theorem at_497_33 : am_at (am_m 497) 33 = some (.invokevirtual 1071, 498) := by decide +kernel
theorem at_497_36 : am_at (am_m 497) 36 = some (.return_, 0) := by decide +kernel
theorem at_497_37 : am_at (am_m 497) 37 = some (.aload_n 0, 0) := by decide +kernel
theorem at_497_38 : am_at (am_m 497) 38 = some (.getfield 145, 3143) := by decide +kernel
theorem at_497_41 : am_at (am_m 497) 41 = some (.iload_n 1, 0) := by decide +kernel
theorem at_497_42 : am_at (am_m 497) 42 = some (.iconst 1, 0) := by decide +kernel
theorem at_497_43 : am_at (am_m 497) 43 = some (.iadd, 0) := by decide +kernel
theorem at_497_44 : am_at (am_m 497) 44 = some (.iload_n 2, 0) := by decide +kernel
theorem at_497_45 : am_at (am_m 497) 45 = some (.iastore, 0) := by decide +kernel
theorem at_497_46 : am_at (am_m 497) 46 = some (.iload_n 2, 0) := by decide +kernel
theorem at_497_47 : am_at (am_m 497) 47 = some (.aload_n 0, 0) := by decide +kernel
theorem at_497_48 : am_at (am_m 497) 48 = some (.getfield 247, 3194) := by decide +kernel
theorem at_497_51 : am_at (am_m 497) 51 = some (.iload_n 1, 0) := by decide +kernel
theorem at_497_52 : am_at (am_m 497) 52 = some (.iconst 1, 0) := by decide +kernel
theorem at_497_53 : am_at (am_m 497) 53 = some (.iadd, 0) := by decide +kernel
theorem at_497_54 : am_at (am_m 497) 54 = some (.iaload, 0) := by decide +kernel
theorem at_497_55 : am_at (am_m 497) 55 = some (.iadd, 0) := by decide +kernel
theorem at_497_56 : am_at (am_m 497) 56 = some (.istore 5, 0) := by decide +kernel
theorem at_497_58 : am_at (am_m 497) 58 = some (.iload_n 3, 0) := by decide +kernel
theorem at_497_59 : am_at (am_m 497) 59 = some (.bipush 9, 0) := by decide +kernel
theorem at_497_61 : am_at (am_m 497) 61 = some (.if_icmp .ge 13, 74) := by decide +kernel
theorem at_497_64 : am_at (am_m 497) 64 = some (.aload_n 0, 0) := by decide +kernel
theorem at_497_65 : am_at (am_m 497) 65 = some (.iload 4, 0) := by decide +kernel
theorem at_497_67 : am_at (am_m 497) 67 = some (.iload_n 3, 0) := by decide +kernel
theorem at_497_68 : am_at (am_m 497) 68 = some (.iconst 2, 0) := by decide +kernel
theorem at_497_69 : am_at (am_m 497) 69 = some (.isub, 0) := by decide +kernel
theorem at_497_70 : am_at (am_m 497) 70 = some (.iconst 0, 0) := by decide +kernel
theorem at_497_71 : am_at (am_m 497) 71 = some (.invokevirtual 1071, 498) := by decide +kernel
theorem at_497_74 : am_at (am_m 497) 74 = some (.iload_n 3, 0) := by decide +kernel
theorem at_497_75 : am_at (am_m 497) 75 = some (.bipush 9, 0) := by decide +kernel
theorem at_497_77 : am_at (am_m 497) 77 = some (.if_icmp .ne 20, 97) := by decide +kernel
theorem at_497_80 : am_at (am_m 497) 80 = some (.aload_n 0, 0) := by decide +kernel
theorem at_497_81 : am_at (am_m 497) 81 = some (.iload 5, 0) := by decide +kernel
theorem at_497_83 : am_at (am_m 497) 83 = some (.iconst 0, 0) := by decide +kernel
theorem at_497_84 : am_at (am_m 497) 84 = some (.iconst 0, 0) := by decide +kernel
theorem at_497_85 : am_at (am_m 497) 85 = some (.invokevirtual 1071, 498) := by decide +kernel
theorem at_497_88 : am_at (am_m 497) 88 = some (.aload_n 0, 0) := by decide +kernel
theorem at_497_89 : am_at (am_m 497) 89 = some (.iload 4, 0) := by decide +kernel
theorem at_497_91 : am_at (am_m 497) 91 = some (.bipush 13, 0) := by decide +kernel
theorem at_497_93 : am_at (am_m 497) 93 = some (.iconst 0, 0) := by decide +kernel
theorem at_497_94 : am_at (am_m 497) 94 = some (.invokevirtual 1071, 498) := by decide +kernel
theorem at_497_97 : am_at (am_m 497) 97 = some (.iload_n 3, 0) := by decide +kernel
theorem at_497_98 : am_at (am_m 497) 98 = some (.bipush 9, 0) := by decide +kernel
theorem at_497_100 : am_at (am_m 497) 100 = some (.if_icmp .le 32, 132) := by decide +kernel
theorem at_497_103 : am_at (am_m 497) 103 = some (.iload_n 3, 0) := by decide +kernel
theorem at_497_104 : am_at (am_m 497) 104 = some (.bipush 17, 0) := by decide +kernel
theorem at_497_106 : am_at (am_m 497) 106 = some (.if_icmp .ge 26, 132) := by decide +kernel
theorem at_497_109 : am_at (am_m 497) 109 = some (.aload_n 0, 0) := by decide +kernel
theorem at_497_110 : am_at (am_m 497) 110 = some (.getfield 145, 3143) := by decide +kernel
theorem at_497_113 : am_at (am_m 497) 113 = some (.aload_n 0, 0) := by decide +kernel
theorem at_497_114 : am_at (am_m 497) 114 = some (.iload_n 1, 0) := by decide +kernel
theorem at_497_115 : am_at (am_m 497) 115 = some (.iconst 1, 0) := by decide +kernel
theorem at_497_116 : am_at (am_m 497) 116 = some (.invokevirtual 642, 393) := by decide +kernel
theorem at_497_119 : am_at (am_m 497) 119 = some (.iload 5, 0) := by decide +kernel
theorem at_497_121 : am_at (am_m 497) 121 = some (.iastore, 0) := by decide +kernel
theorem at_497_122 : am_at (am_m 497) 122 = some (.aload_n 0, 0) := by decide +kernel
theorem at_497_123 : am_at (am_m 497) 123 = some (.iload 4, 0) := by decide +kernel
theorem at_497_125 : am_at (am_m 497) 125 = some (.iload_n 3, 0) := by decide +kernel
theorem at_497_126 : am_at (am_m 497) 126 = some (.iconst 3, 0) := by decide +kernel
theorem at_497_127 : am_at (am_m 497) 127 = some (.isub, 0) := by decide +kernel
theorem at_497_128 : am_at (am_m 497) 128 = some (.iconst 0, 0) := by decide +kernel
theorem at_497_129 : am_at (am_m 497) 129 = some (.invokevirtual 1071, 498) := by decide +kernel
theorem at_497_132 : am_at (am_m 497) 132 = some (.iload_n 3, 0) := by decide +kernel
theorem at_497_133 : am_at (am_m 497) 133 = some (.bipush 17, 0) := by decide +kernel
theorem at_497_135 : am_at (am_m 497) 135 = some (.if_icmp .ne 58, 193) := by decide +kernel
theorem at_497_138 : am_at (am_m 497) 138 = some (.aload_n 0, 0) := by decide +kernel
theorem at_497_139 : am_at (am_m 497) 139 = some (.iload_n 1, 0) := by decide +kernel
theorem at_497_140 : am_at (am_m 497) 140 = some (.iconst 1, 0) := by decide +kernel
theorem at_497_141 : am_at (am_m 497) 141 = some (.invokevirtual 642, 393) := by decide +kernel
theorem at_497_144 : am_at (am_m 497) 144 = some (.istore 6, 0) := by decide +kernel
theorem at_497_146 : am_at (am_m 497) 146 = some (.aload_n 0, 0) := by decide +kernel
theorem at_497_147 : am_at (am_m 497) 147 = some (.iload 5, 0) := by decide +kernel
theorem at_497_149 : am_at (am_m 497) 149 = some (.bipush 18, 0) := by decide +kernel
theorem at_497_151 : am_at (am_m 497) 151 = some (.aload_n 0, 0) := by decide +kernel
theorem at_497_152 : am_at (am_m 497) 152 = some (.getfield 247, 3194) := by decide +kernel
theorem at_497_155 : am_at (am_m 497) 155 = some (.iload 6, 0) := by decide +kernel
theorem at_497_157 : am_at (am_m 497) 157 = some (.iaload, 0) := by decide +kernel
theorem at_497_158 : am_at (am_m 497) 158 = some (.iconst 1, 0) := by decide +kernel
theorem at_497_159 : am_at (am_m 497) 159 = some (.iadd, 0) := by decide +kernel
theorem at_497_160 : am_at (am_m 497) 160 = some (.invokevirtual 1071, 498) := by decide +kernel
theorem at_497_163 : am_at (am_m 497) 163 = some (.aload_n 0, 0) := by decide +kernel
theorem at_497_164 : am_at (am_m 497) 164 = some (.getfield 145, 3143) := by decide +kernel
theorem at_497_167 : am_at (am_m 497) 167 = some (.iload 6, 0) := by decide +kernel
theorem at_497_169 : am_at (am_m 497) 169 = some (.iload 5, 0) := by decide +kernel
theorem at_497_171 : am_at (am_m 497) 171 = some (.iconst 1, 0) := by decide +kernel
theorem at_497_172 : am_at (am_m 497) 172 = some (.iadd, 0) := by decide +kernel
theorem at_497_173 : am_at (am_m 497) 173 = some (.iastore, 0) := by decide +kernel
theorem at_497_174 : am_at (am_m 497) 174 = some (.aload_n 0, 0) := by decide +kernel
theorem at_497_175 : am_at (am_m 497) 175 = some (.iload 4, 0) := by decide +kernel
theorem at_497_177 : am_at (am_m 497) 177 = some (.iconst 1, 0) := by decide +kernel
theorem at_497_178 : am_at (am_m 497) 178 = some (.isub, 0) := by decide +kernel
theorem at_497_179 : am_at (am_m 497) 179 = some (.bipush 17, 0) := by decide +kernel
theorem at_497_181 : am_at (am_m 497) 181 = some (.iconst 1, 0) := by decide +kernel
theorem at_497_182 : am_at (am_m 497) 182 = some (.invokevirtual 1071, 498) := by decide +kernel
theorem at_497_185 : am_at (am_m 497) 185 = some (.aload_n 0, 0) := by decide +kernel
theorem at_497_186 : am_at (am_m 497) 186 = some (.iload 4, 0) := by decide +kernel
theorem at_497_188 : am_at (am_m 497) 188 = some (.iconst 0, 0) := by decide +kernel
theorem at_497_189 : am_at (am_m 497) 189 = some (.iconst 0, 0) := by decide +kernel
theorem at_497_190 : am_at (am_m 497) 190 = some (.invokevirtual 1071, 498) := by decide +kernel
theorem at_497_193 : am_at (am_m 497) 193 = some (.iload_n 3, 0) := by decide +kernel
theorem at_497_194 : am_at (am_m 497) 194 = some (.bipush 18, 0) := by decide +kernel
theorem at_497_196 : am_at (am_m 497) 196 = some (.if_icmp .ne 58, 254) := by decide +kernel
theorem at_497_199 : am_at (am_m 497) 199 = some (.aload_n 0, 0) := by decide +kernel
theorem at_497_200 : am_at (am_m 497) 200 = some (.iload_n 1, 0) := by decide +kernel
theorem at_497_201 : am_at (am_m 497) 201 = some (.iconst 1, 0) := by decide +kernel
theorem at_497_202 : am_at (am_m 497) 202 = some (.invokevirtual 642, 393) := by decide +kernel
theorem at_497_205 : am_at (am_m 497) 205 = some (.istore 6, 0) := by decide +kernel
theorem at_497_207 : am_at (am_m 497) 207 = some (.aload_n 0, 0) := by decide +kernel
theorem at_497_208 : am_at (am_m 497) 208 = some (.iload 5, 0) := by decide +kernel
theorem at_497_210 : am_at (am_m 497) 210 = some (.bipush 18, 0) := by decide +kernel
theorem at_497_212 : am_at (am_m 497) 212 = some (.iconst 2, 0) := by decide +kernel
theorem at_497_213 : am_at (am_m 497) 213 = some (.invokevirtual 1071, 498) := by decide +kernel
theorem at_497_216 : am_at (am_m 497) 216 = some (.aload_n 0, 0) := by decide +kernel
theorem at_497_217 : am_at (am_m 497) 217 = some (.iload 5, 0) := by decide +kernel
theorem at_497_219 : am_at (am_m 497) 219 = some (.iconst 1, 0) := by decide +kernel
theorem at_497_220 : am_at (am_m 497) 220 = some (.iadd, 0) := by decide +kernel
theorem at_497_221 : am_at (am_m 497) 221 = some (.iconst 0, 0) := by decide +kernel
theorem at_497_222 : am_at (am_m 497) 222 = some (.iconst 1, 0) := by decide +kernel
theorem at_497_223 : am_at (am_m 497) 223 = some (.invokevirtual 1071, 498) := by decide +kernel
theorem at_497_226 : am_at (am_m 497) 226 = some (.aload_n 0, 0) := by decide +kernel
theorem at_497_227 : am_at (am_m 497) 227 = some (.iload 5, 0) := by decide +kernel
theorem at_497_229 : am_at (am_m 497) 229 = some (.iconst 2, 0) := by decide +kernel
theorem at_497_230 : am_at (am_m 497) 230 = some (.iadd, 0) := by decide +kernel
theorem at_497_231 : am_at (am_m 497) 231 = some (.bipush 17, 0) := by decide +kernel
theorem at_497_233 : am_at (am_m 497) 233 = some (.aload_n 0, 0) := by decide +kernel
theorem at_497_234 : am_at (am_m 497) 234 = some (.getfield 247, 3194) := by decide +kernel
theorem at_497_237 : am_at (am_m 497) 237 = some (.iload 6, 0) := by decide +kernel
theorem at_497_239 : am_at (am_m 497) 239 = some (.iaload, 0) := by decide +kernel
theorem at_497_240 : am_at (am_m 497) 240 = some (.invokevirtual 1071, 498) := by decide +kernel
theorem at_497_243 : am_at (am_m 497) 243 = some (.aload_n 0, 0) := by decide +kernel
theorem at_497_244 : am_at (am_m 497) 244 = some (.getfield 145, 3143) := by decide +kernel
theorem at_497_247 : am_at (am_m 497) 247 = some (.iload 6, 0) := by decide +kernel
theorem at_497_249 : am_at (am_m 497) 249 = some (.iload 5, 0) := by decide +kernel
theorem at_497_251 : am_at (am_m 497) 251 = some (.iconst 3, 0) := by decide +kernel
theorem at_497_252 : am_at (am_m 497) 252 = some (.iadd, 0) := by decide +kernel
theorem at_497_253 : am_at (am_m 497) 253 = some (.iastore, 0) := by decide +kernel
theorem at_497_254 : am_at (am_m 497) 254 = some (.iload_n 3, 0) := by decide +kernel
theorem at_497_255 : am_at (am_m 497) 255 = some (.bipush 20, 0) := by decide +kernel
theorem at_497_257 : am_at (am_m 497) 257 = some (.if_icmp .ne 91, 348) := by decide +kernel
theorem at_497_260 : am_at (am_m 497) 260 = some (.aload_n 0, 0) := by decide +kernel
theorem at_497_261 : am_at (am_m 497) 261 = some (.iload_n 1, 0) := by decide +kernel
theorem at_497_262 : am_at (am_m 497) 262 = some (.iconst 1, 0) := by decide +kernel
theorem at_497_263 : am_at (am_m 497) 263 = some (.invokevirtual 642, 393) := by decide +kernel
theorem at_497_266 : am_at (am_m 497) 266 = some (.istore 6, 0) := by decide +kernel
theorem at_497_268 : am_at (am_m 497) 268 = some (.aload_n 0, 0) := by decide +kernel
theorem at_497_269 : am_at (am_m 497) 269 = some (.iload_n 1, 0) := by decide +kernel
theorem at_497_270 : am_at (am_m 497) 270 = some (.iconst 2, 0) := by decide +kernel
theorem at_497_271 : am_at (am_m 497) 271 = some (.invokevirtual 642, 393) := by decide +kernel
theorem at_497_274 : am_at (am_m 497) 274 = some (.istore 7, 0) := by decide +kernel
theorem at_497_276 : am_at (am_m 497) 276 = some (.aload_n 0, 0) := by decide +kernel
theorem at_497_277 : am_at (am_m 497) 277 = some (.iload 5, 0) := by decide +kernel
theorem at_497_279 : am_at (am_m 497) 279 = some (.bipush 18, 0) := by decide +kernel
theorem at_497_281 : am_at (am_m 497) 281 = some (.aload_n 0, 0) := by decide +kernel
theorem at_497_282 : am_at (am_m 497) 282 = some (.getfield 247, 3194) := by decide +kernel
theorem at_497_285 : am_at (am_m 497) 285 = some (.iload 6, 0) := by decide +kernel
theorem at_497_287 : am_at (am_m 497) 287 = some (.iaload, 0) := by decide +kernel
theorem at_497_288 : am_at (am_m 497) 288 = some (.iconst 1, 0) := by decide +kernel
theorem at_497_289 : am_at (am_m 497) 289 = some (.iadd, 0) := by decide +kernel
theorem at_497_290 : am_at (am_m 497) 290 = some (.invokevirtual 1071, 498) := by decide +kernel
theorem at_497_293 : am_at (am_m 497) 293 = some (.aload_n 0, 0) := by decide +kernel
theorem at_497_294 : am_at (am_m 497) 294 = some (.getfield 145, 3143) := by decide +kernel
theorem at_497_297 : am_at (am_m 497) 297 = some (.iload 6, 0) := by decide +kernel
theorem at_497_299 : am_at (am_m 497) 299 = some (.iload 5, 0) := by decide +kernel
theorem at_497_301 : am_at (am_m 497) 301 = some (.iconst 1, 0) := by decide +kernel
theorem at_497_302 : am_at (am_m 497) 302 = some (.iadd, 0) := by decide +kernel
theorem at_497_303 : am_at (am_m 497) 303 = some (.iastore, 0) := by decide +kernel
theorem at_497_304 : am_at (am_m 497) 304 = some (.aload_n 0, 0) := by decide +kernel
theorem at_497_305 : am_at (am_m 497) 305 = some (.iload 5, 0) := by decide +kernel
theorem at_497_307 : am_at (am_m 497) 307 = some (.iconst 1, 0) := by decide +kernel
theorem at_497_308 : am_at (am_m 497) 308 = some (.iadd, 0) := by decide +kernel
theorem at_497_309 : am_at (am_m 497) 309 = some (.aload_n 0, 0) := by decide +kernel
theorem at_497_310 : am_at (am_m 497) 310 = some (.getfield 247, 3194) := by decide +kernel
theorem at_497_313 : am_at (am_m 497) 313 = some (.iload 6, 0) := by decide +kernel
theorem at_497_315 : am_at (am_m 497) 315 = some (.iaload, 0) := by decide +kernel
theorem at_497_316 : am_at (am_m 497) 316 = some (.iadd, 0) := by decide +kernel
theorem at_497_317 : am_at (am_m 497) 317 = some (.bipush 17, 0) := by decide +kernel
theorem at_497_319 : am_at (am_m 497) 319 = some (.aload_n 0, 0) := by decide +kernel
theorem at_497_320 : am_at (am_m 497) 320 = some (.getfield 247, 3194) := by decide +kernel
theorem at_497_323 : am_at (am_m 497) 323 = some (.iload 7, 0) := by decide +kernel
theorem at_497_325 : am_at (am_m 497) 325 = some (.iaload, 0) := by decide +kernel
theorem at_497_326 : am_at (am_m 497) 326 = some (.invokevirtual 1071, 498) := by decide +kernel
theorem at_497_329 : am_at (am_m 497) 329 = some (.aload_n 0, 0) := by decide +kernel
theorem at_497_330 : am_at (am_m 497) 330 = some (.getfield 145, 3143) := by decide +kernel
theorem at_497_333 : am_at (am_m 497) 333 = some (.iload 7, 0) := by decide +kernel
theorem at_497_335 : am_at (am_m 497) 335 = some (.iload 5, 0) := by decide +kernel
theorem at_497_337 : am_at (am_m 497) 337 = some (.iconst 2, 0) := by decide +kernel
theorem at_497_338 : am_at (am_m 497) 338 = some (.iadd, 0) := by decide +kernel
theorem at_497_339 : am_at (am_m 497) 339 = some (.aload_n 0, 0) := by decide +kernel
theorem at_497_340 : am_at (am_m 497) 340 = some (.getfield 247, 3194) := by decide +kernel
theorem at_497_343 : am_at (am_m 497) 343 = some (.iload 6, 0) := by decide +kernel
theorem at_497_345 : am_at (am_m 497) 345 = some (.iaload, 0) := by decide +kernel
theorem at_497_346 : am_at (am_m 497) 346 = some (.iadd, 0) := by decide +kernel
theorem at_497_347 : am_at (am_m 497) 347 = some (.iastore, 0) := by decide +kernel
theorem at_497_348 : am_at (am_m 497) 348 = some (.return_, 0) := by decide +kernel
theorem at_498_0 : am_at (am_m 498) 0 = some (.aload_n 0, 0) := by decide +kernel
theorem at_498_1 : am_at (am_m 498) 1 = some (.getfield 45, 3088) := by decide +kernel
theorem at_498_4 : am_at (am_m 498) 4 = some (.iload_n 1, 0) := by decide +kernel
theorem at_498_5 : am_at (am_m 498) 5 = some (.iload_n 2, 0) := by decide +kernel
theorem at_498_6 : am_at (am_m 498) 6 = some (.iastore, 0) := by decide +kernel
theorem at_498_7 : am_at (am_m 498) 7 = some (.aload_n 0, 0) := by decide +kernel
theorem at_498_8 : am_at (am_m 498) 8 = some (.getfield 48, 3089) := by decide +kernel
theorem at_498_11 : am_at (am_m 498) 11 = some (.iload_n 1, 0) := by decide +kernel
theorem at_498_12 : am_at (am_m 498) 12 = some (.iload_n 3, 0) := by decide +kernel
theorem at_498_13 : am_at (am_m 498) 13 = some (.iastore, 0) := by decide +kernel
theorem at_498_14 : am_at (am_m 498) 14 = some (.return_, 0) := by decide +kernel
theorem at_499_0 : am_at (am_m 499) 0 = some (.aload_n 0, 0) := by decide +kernel
theorem at_499_1 : am_at (am_m 499) 1 = some (.aload_n 0, 0) := by decide +kernel
theorem at_499_2 : am_at (am_m 499) 2 = some (.iload_n 1, 0) := by decide +kernel
theorem at_499_3 : am_at (am_m 499) 3 = some (.invokevirtual 881, 489) := by decide +kernel
theorem at_499_6 : am_at (am_m 499) 6 = some (.ifCond .eq 7, 13) := by decide +kernel
theorem at_499_9 : am_at (am_m 499) 9 = some (.iconst 0, 0) := by decide +kernel
theorem at_499_10 : am_at (am_m 499) 10 = some (.goto 4, 14) := by decide +kernel
theorem at_499_13 : am_at (am_m 499) 13 = some (.iconst 1, 0) := by decide +kernel
theorem at_499_14 : am_at (am_m 499) 14 = some (.putfield 292, 3072) := by decide +kernel
theorem at_499_17 : am_at (am_m 499) 17 = some (.aload_n 0, 0) := by decide +kernel
theorem at_499_18 : am_at (am_m 499) 18 = some (.getfield 292, 3072) := by decide +kernel
theorem at_499_21 : am_at (am_m 499) 21 = some (.ifCond .le 7, 28) := by decide +kernel
theorem at_499_24 : am_at (am_m 499) 24 = some (.iconst 0, 0) := by decide +kernel
theorem at_499_25 : am_at (am_m 499) 25 = some (.goto 9, 34) := by decide +kernel
theorem at_499_28 : am_at (am_m 499) 28 = some (.aload_n 0, 0) := by decide +kernel
theorem at_499_29 : am_at (am_m 499) 29 = some (.getfield 187, 3170) := by decide +kernel
theorem at_499_32 : am_at (am_m 499) 32 = some (.iload_n 1, 0) := by decide +kernel
theorem at_499_33 : am_at (am_m 499) 33 = some (.iaload, 0) := by decide +kernel
theorem at_499_34 : am_at (am_m 499) 34 = some (.ireturn, 0) := by decide +kernel
theorem at_500_0 : am_at (am_m 500) 0 = some (.aload_n 0, 0) := by decide +kernel
theorem at_500_1 : am_at (am_m 500) 1 = some (.aload_n 0, 0) := by decide +kernel
theorem at_500_2 : am_at (am_m 500) 2 = some (.iload_n 1, 0) := by decide +kernel
theorem at_500_3 : am_at (am_m 500) 3 = some (.iload_n 2, 0) := by decide +kernel
theorem at_500_4 : am_at (am_m 500) 4 = some (.invokevirtual 901, 501) := by decide +kernel
theorem at_500_7 : am_at (am_m 500) 7 = some (.ifCond .eq 7, 14) := by decide +kernel
theorem at_500_10 : am_at (am_m 500) 10 = some (.iconst 0, 0) := by decide +kernel
theorem at_500_11 : am_at (am_m 500) 11 = some (.goto 4, 15) := by decide +kernel
theorem at_500_14 : am_at (am_m 500) 14 = some (.iconst 1, 0) := by decide +kernel
theorem at_500_15 : am_at (am_m 500) 15 = some (.putfield 292, 3072) := by decide +kernel
theorem at_500_18 : am_at (am_m 500) 18 = some (.aload_n 0, 0) := by decide +kernel
theorem at_500_19 : am_at (am_m 500) 19 = some (.getfield 292, 3072) := by decide +kernel
theorem at_500_22 : am_at (am_m 500) 22 = some (.ifCond .le 7, 29) := by decide +kernel
theorem at_500_25 : am_at (am_m 500) 25 = some (.iconst 0, 0) := by decide +kernel
theorem at_500_26 : am_at (am_m 500) 26 = some (.goto 14, 40) := by decide +kernel
theorem at_500_29 : am_at (am_m 500) 29 = some (.aload_n 0, 0) := by decide +kernel
theorem at_500_30 : am_at (am_m 500) 30 = some (.getfield 190, 3171) := by decide +kernel
theorem at_500_33 : am_at (am_m 500) 33 = some (.bipush 16, 0) := by decide +kernel
theorem at_500_35 : am_at (am_m 500) 35 = some (.iload_n 1, 0) := by decide +kernel
theorem at_500_36 : am_at (am_m 500) 36 = some (.imul, 0) := by decide +kernel
theorem at_500_37 : am_at (am_m 500) 37 = some (.iload_n 2, 0) := by decide +kernel
theorem at_500_38 : am_at (am_m 500) 38 = some (.iadd, 0) := by decide +kernel
theorem at_500_39 : am_at (am_m 500) 39 = some (.iaload, 0) := by decide +kernel
theorem at_500_40 : am_at (am_m 500) 40 = some (.ireturn, 0) := by decide +kernel
theorem at_501_0 : am_at (am_m 501) 0 = some (.aload_n 0, 0) := by decide +kernel
theorem at_501_1 : am_at (am_m 501) 1 = some (.iload_n 1, 0) := by decide +kernel
theorem at_501_2 : am_at (am_m 501) 2 = some (.invokevirtual 881, 489) := by decide +kernel
theorem at_501_5 : am_at (am_m 501) 5 = some (.ifCond .eq 37, 42) := by decide +kernel
theorem at_501_8 : am_at (am_m 501) 8 = some (.iload_n 2, 0) := by decide +kernel
theorem at_501_9 : am_at (am_m 501) 9 = some (.i2l, 0) := by decide +kernel
theorem at_501_10 : am_at (am_m 501) 10 = some (.lconst 0, 0) := by decide +kernel
theorem at_501_11 : am_at (am_m 501) 11 = some (.aload_n 0, 0) := by decide +kernel
theorem at_501_12 : am_at (am_m 501) 12 = some (.getfield 187, 3170) := by decide +kernel
theorem at_501_15 : am_at (am_m 501) 15 = some (.aload_n 0, 0) := by decide +kernel
theorem at_501_16 : am_at (am_m 501) 16 = some (.iload_n 1, 0) := by decide +kernel
theorem at_501_17 : am_at (am_m 501) 17 = some (.invokevirtual 881, 489) := by decide +kernel
theorem at_501_20 : am_at (am_m 501) 20 = some (.ifCond .eq 7, 27) := by decide +kernel
theorem at_501_23 : am_at (am_m 501) 23 = some (.iload_n 1, 0) := by decide +kernel
theorem at_501_24 : am_at (am_m 501) 24 = some (.goto 4, 28) := by decide +kernel
theorem at_501_27 : am_at (am_m 501) 27 = some (.iconst 0, 0) := by decide +kernel
theorem at_501_28 : am_at (am_m 501) 28 = some (.iaload, 0) := by decide +kernel
theorem at_501_29 : am_at (am_m 501) 29 = some (.i2l, 0) := by decide +kernel
theorem at_501_30 : am_at (am_m 501) 30 = some (.lconst 1, 0) := by decide +kernel
theorem at_501_31 : am_at (am_m 501) 31 = some (.lsub, 0) := by decide +kernel
theorem at_501_32 : am_at (am_m 501) 32 = some (.invokestatic 299, 327) := by decide +kernel
theorem at_501_35 : am_at (am_m 501) 35 = some (.ifCond .eq 7, 42) := by decide +kernel
theorem at_501_38 : am_at (am_m 501) 38 = some (.iconst 1, 0) := by decide +kernel
theorem at_501_39 : am_at (am_m 501) 39 = some (.goto 4, 43) := by decide +kernel
theorem at_501_42 : am_at (am_m 501) 42 = some (.iconst 0, 0) := by decide +kernel
theorem at_501_43 : am_at (am_m 501) 43 = some (.ireturn, 0) := by decide +kernel
theorem at_502_0 : am_at (am_m 502) 0 = some (.aload_n 0, 0) := by decide +kernel
theorem at_502_1 : am_at (am_m 502) 1 = some (.iload_n 1, 0) := by decide +kernel
theorem at_502_2 : am_at (am_m 502) 2 = some (.invokevirtual 881, 489) := by decide +kernel
theorem at_502_5 : am_at (am_m 502) 5 = some (.ifCond .eq 12, 17) := by decide +kernel
theorem at_502_8 : am_at (am_m 502) 8 = some (.aload_n 0, 0) := by decide +kernel
theorem at_502_9 : am_at (am_m 502) 9 = some (.getfield 187, 3170) := by decide +kernel
theorem at_502_12 : am_at (am_m 502) 12 = some (.iload_n 1, 0) := by decide +kernel
theorem at_502_13 : am_at (am_m 502) 13 = some (.iaload, 0) := by decide +kernel
theorem at_502_14 : am_at (am_m 502) 14 = some (.goto 4, 18) := by decide +kernel
theorem at_502_17 : am_at (am_m 502) 17 = some (.iconst 0, 0) := by decide +kernel
theorem at_502_18 : am_at (am_m 502) 18 = some (.istore_n 3, 0) := by decide +kernel
theorem at_502_19 : am_at (am_m 502) 19 = some (.aload_n 0, 0) := by decide +kernel
theorem at_502_20 : am_at (am_m 502) 20 = some (.iload_n 1, 0) := by decide +kernel
theorem at_502_21 : am_at (am_m 502) 21 = some (.invokevirtual 881, 489) := by decide +kernel
theorem at_502_24 : am_at (am_m 502) 24 = some (.ifCond .eq 13, 37) := by decide +kernel
theorem at_502_27 : am_at (am_m 502) 27 = some (.iload_n 3, 0) := by decide +kernel
theorem at_502_28 : am_at (am_m 502) 28 = some (.aload_n 0, 0) := by decide +kernel
theorem at_502_29 : am_at (am_m 502) 29 = some (.iload_n 1, 0) := by decide +kernel
theorem at_502_30 : am_at (am_m 502) 30 = some (.invokevirtual 947, 503) := by decide +kernel
theorem at_502_33 : am_at (am_m 502) 33 = some (.isub, 0) := by decide +kernel
theorem at_502_34 : am_at (am_m 502) 34 = some (.goto 4, 38) := by decide +kernel
theorem at_502_37 : am_at (am_m 502) 37 = some (.iconst 0, 0) := by decide +kernel
theorem at_502_38 : am_at (am_m 502) 38 = some (.istore 4, 0) := by decide +kernel
theorem at_502_40 : am_at (am_m 502) 40 = some (.aload_n 0, 0) := by decide +kernel
theorem at_502_41 : am_at (am_m 502) 41 = some (.aload_n 0, 0) := by decide +kernel
theorem at_502_42 : am_at (am_m 502) 42 = some (.iload_n 1, 0) := by decide +kernel
theorem at_502_43 : am_at (am_m 502) 43 = some (.invokevirtual 881, 489) := by decide +kernel
theorem at_502_46 : am_at (am_m 502) 46 = some (.ifCond .ne 7, 53) := by decide +kernel
theorem at_502_49 : am_at (am_m 502) 49 = some (.iconst 1, 0) := by decide +kernel
theorem at_502_50 : am_at (am_m 502) 50 = some (.goto 43, 93) := by decide +kernel
theorem at_502_53 : am_at (am_m 502) 53 = some (.iload_n 2, 0) := by decide +kernel
theorem at_502_54 : am_at (am_m 502) 54 = some (.i2l, 0) := by decide +kernel
theorem at_502_55 : am_at (am_m 502) 55 = some (.lconst 1, 0) := by decide +kernel
theorem at_502_56 : am_at (am_m 502) 56 = some (.ldc2_w 953, 66) := by decide +kernel
theorem at_502_59 : am_at (am_m 502) 59 = some (.invokestatic 299, 327) := by decide +kernel
theorem at_502_62 : am_at (am_m 502) 62 = some (.ifCond .ne 7, 69) := by decide +kernel
theorem at_502_65 : am_at (am_m 502) 65 = some (.iconst 2, 0) := by decide +kernel
theorem at_502_66 : am_at (am_m 502) 66 = some (.goto 27, 93) := by decide +kernel
theorem at_502_69 : am_at (am_m 502) 69 = some (.iload_n 3, 0) := by decide +kernel
theorem at_502_70 : am_at (am_m 502) 70 = some (.ifCond .eq 18, 88) := by decide +kernel
theorem at_502_73 : am_at (am_m 502) 73 = some (.aload_n 0, 0) := by decide +kernel
theorem at_502_74 : am_at (am_m 502) 74 = some (.getfield 296, 3073) := by decide +kernel
theorem at_502_77 : am_at (am_m 502) 77 = some (.iload_n 2, 0) := by decide +kernel
theorem at_502_78 : am_at (am_m 502) 78 = some (.iload 4, 0) := by decide +kernel
theorem at_502_80 : am_at (am_m 502) 80 = some (.imul, 0) := by decide +kernel
theorem at_502_81 : am_at (am_m 502) 81 = some (.iadd, 0) := by decide +kernel
theorem at_502_82 : am_at (am_m 502) 82 = some (.sipush 600, 0) := by decide +kernel
theorem at_502_85 : am_at (am_m 502) 85 = some (.if_icmp .le 7, 92) := by decide +kernel
theorem at_502_88 : am_at (am_m 502) 88 = some (.iconst 3, 0) := by decide +kernel
theorem at_502_89 : am_at (am_m 502) 89 = some (.goto 4, 93) := by decide +kernel
theorem at_502_92 : am_at (am_m 502) 92 = some (.iconst 0, 0) := by decide +kernel
theorem at_502_93 : am_at (am_m 502) 93 = some (.putfield 292, 3072) := by decide +kernel
theorem at_502_96 : am_at (am_m 502) 96 = some (.aload_n 0, 0) := by decide +kernel
theorem at_502_97 : am_at (am_m 502) 97 = some (.getfield 292, 3072) := by decide +kernel
theorem at_502_100 : am_at (am_m 502) 100 = some (.ifCond .le 5, 105) := by decide +kernel
theorem at_502_103 : am_at (am_m 502) 103 = some (.iconst 0, 0) := by decide +kernel
theorem at_502_104 : am_at (am_m 502) 104 = some (.ireturn, 0) := by decide +kernel
theorem at_502_105 : am_at (am_m 502) 105 = some (.aload_n 0, 0) := by decide +kernel
theorem at_502_106 : am_at (am_m 502) 106 = some (.aload_n 0, 0) := by decide +kernel
theorem at_502_107 : am_at (am_m 502) 107 = some (.getfield 193, 3172) := by decide +kernel
theorem at_502_110 : am_at (am_m 502) 110 = some (.iload_n 1, 0) := by decide +kernel
theorem at_502_111 : am_at (am_m 502) 111 = some (.laload, 0) := by decide +kernel
theorem at_502_112 : am_at (am_m 502) 112 = some (.putfield 820, 3168) := by decide +kernel
theorem at_502_115 : am_at (am_m 502) 115 = some (.iconst 0, 0) := by decide +kernel
theorem at_502_116 : am_at (am_m 502) 116 = some (.istore 5, 0) := by decide +kernel
theorem at_502_118 : am_at (am_m 502) 118 = some (.iload 5, 0) := by decide +kernel
theorem at_502_120 : am_at (am_m 502) 120 = some (.iload_n 2, 0) := by decide +kernel
theorem at_502_121 : am_at (am_m 502) 121 = some (.if_icmp .ge 14, 135) := by decide +kernel
theorem at_502_124 : am_at (am_m 502) 124 = some (.aload_n 0, 0) := by decide +kernel
theorem at_502_125 : am_at (am_m 502) 125 = some (.iload_n 1, 0) := by decide +kernel
theorem at_502_126 : am_at (am_m 502) 126 = some (.invokevirtual 955, 504) := by decide +kernel
theorem at_502_129 : am_at (am_m 502) 129 = some (.iinc 5 1, 0) := by decide +kernel
theorem at_502_132 : am_at (am_m 502) 132 = some (.goto (-14), 118) := by decide +kernel
theorem at_502_135 : am_at (am_m 502) 135 = some (.aload_n 0, 0) := by decide +kernel
theorem at_502_136 : am_at (am_m 502) 136 = some (.getfield 193, 3172) := by decide +kernel
theorem at_502_139 : am_at (am_m 502) 139 = some (.iload_n 1, 0) := by decide +kernel
theorem at_502_140 : am_at (am_m 502) 140 = some (.aload_n 0, 0) := by decide +kernel
theorem at_502_141 : am_at (am_m 502) 141 = some (.getfield 820, 3168) := by decide +kernel
theorem at_502_144 : am_at (am_m 502) 144 = some (.lastore, 0) := by decide +kernel
theorem at_502_145 : am_at (am_m 502) 145 = some (.aload_n 0, 0) := by decide +kernel
theorem at_502_146 : am_at (am_m 502) 146 = some (.iload_n 1, 0) := by decide +kernel
theorem at_502_147 : am_at (am_m 502) 147 = some (.invokevirtual 938, 505) := by decide +kernel
theorem at_502_150 : am_at (am_m 502) 150 = some (.aload_n 0, 0) := by decide +kernel
theorem at_502_151 : am_at (am_m 502) 151 = some (.getfield 205, 3176) := by decide +kernel
theorem at_502_154 : am_at (am_m 502) 154 = some (.aload_n 0, 0) := by decide +kernel
theorem at_502_155 : am_at (am_m 502) 155 = some (.invokevirtual 958, 517) := by decide +kernel
theorem at_502_158 : am_at (am_m 502) 158 = some (.iaload, 0) := by decide +kernel
theorem at_502_159 : am_at (am_m 502) 159 = some (.ireturn, 0) := by decide +kernel
theorem at_503_0 : am_at (am_m 503) 0 = some (.aload_n 0, 0) := by decide +kernel
theorem at_503_1 : am_at (am_m 503) 1 = some (.getfield 106, 3114) := by decide +kernel
theorem at_503_4 : am_at (am_m 503) 4 = some (.iconst 1, 0) := by decide +kernel
theorem at_503_5 : am_at (am_m 503) 5 = some (.iaload, 0) := by decide +kernel
theorem at_503_6 : am_at (am_m 503) 6 = some (.aload_n 0, 0) := by decide +kernel
theorem at_503_7 : am_at (am_m 503) 7 = some (.getfield 187, 3170) := by decide +kernel
theorem at_503_10 : am_at (am_m 503) 10 = some (.iload_n 1, 0) := by decide +kernel
theorem at_503_11 : am_at (am_m 503) 11 = some (.iaload, 0) := by decide +kernel
theorem at_503_12 : am_at (am_m 503) 12 = some (.if_icmp .ge 12, 24) := by decide +kernel
theorem at_503_15 : am_at (am_m 503) 15 = some (.aload_n 0, 0) := by decide +kernel
theorem at_503_16 : am_at (am_m 503) 16 = some (.getfield 106, 3114) := by decide +kernel
theorem at_503_19 : am_at (am_m 503) 19 = some (.iconst 1, 0) := by decide +kernel
theorem at_503_20 : am_at (am_m 503) 20 = some (.iaload, 0) := by decide +kernel
theorem at_503_21 : am_at (am_m 503) 21 = some (.goto 9, 30) := by decide +kernel
theorem at_503_24 : am_at (am_m 503) 24 = some (.aload_n 0, 0) := by decide +kernel
theorem at_503_25 : am_at (am_m 503) 25 = some (.getfield 187, 3170) := by decide +kernel
theorem at_503_28 : am_at (am_m 503) 28 = some (.iload_n 1, 0) := by decide +kernel
theorem at_503_29 : am_at (am_m 503) 29 = some (.iaload, 0) := by decide +kernel
theorem at_503_30 : am_at (am_m 503) 30 = some (.ireturn, 0) := by decide +kernel
theorem at_504_0 : am_at (am_m 504) 0 = some (.aload_n 0, 0) := by decide +kernel
theorem at_504_1 : am_at (am_m 504) 1 = some (.iload_n 1, 0) := by decide +kernel
theorem at_504_2 : am_at (am_m 504) 2 = some (.invokevirtual 938, 505) := by decide +kernel
theorem at_504_5 : am_at (am_m 504) 5 = some (.aload_n 0, 0) := by decide +kernel
theorem at_504_6 : am_at (am_m 504) 6 = some (.invokevirtual 941, 506) := by decide +kernel
theorem at_504_9 : am_at (am_m 504) 9 = some (.aload_n 0, 0) := by decide +kernel
theorem at_504_10 : am_at (am_m 504) 10 = some (.invokevirtual 944, 507) := by decide +kernel
theorem at_504_13 : am_at (am_m 504) 13 = some (.aload_n 0, 0) := by decide +kernel
theorem at_504_14 : am_at (am_m 504) 14 = some (.iload_n 1, 0) := by decide +kernel
theorem at_504_15 : am_at (am_m 504) 15 = some (.invokevirtual 947, 503) := by decide +kernel
theorem at_504_18 : am_at (am_m 504) 18 = some (.istore_n 2, 0) := by decide +kernel
theorem at_504_19 : am_at (am_m 504) 19 = some (.iconst 0, 0) := by decide +kernel
theorem at_504_20 : am_at (am_m 504) 20 = some (.istore_n 3, 0) := by decide +kernel
theorem at_504_21 : am_at (am_m 504) 21 = some (.iload_n 3, 0) := by decide +kernel
theorem at_504_22 : am_at (am_m 504) 22 = some (.aload_n 0, 0) := by decide +kernel
theorem at_504_23 : am_at (am_m 504) 23 = some (.getfield 904, 3177) := by decide +kernel
theorem at_504_26 : am_at (am_m 504) 26 = some (.if_icmp .ge 38, 64) := by decide +kernel
theorem at_504_29 : am_at (am_m 504) 29 = some (.aload_n 0, 0) := by decide +kernel
theorem at_504_30 : am_at (am_m 504) 30 = some (.getfield 220, 3183) := by decide +kernel
theorem at_504_33 : am_at (am_m 504) 33 = some (.iload_n 3, 0) := by decide +kernel
theorem at_504_34 : am_at (am_m 504) 34 = some (.iload_n 3, 0) := by decide +kernel
theorem at_504_35 : am_at (am_m 504) 35 = some (.iload_n 2, 0) := by decide +kernel
theorem at_504_36 : am_at (am_m 504) 36 = some (.if_icmp .ge 17, 53) := by decide +kernel
theorem at_504_39 : am_at (am_m 504) 39 = some (.aload_n 0, 0) := by decide +kernel
theorem at_504_40 : am_at (am_m 504) 40 = some (.getfield 205, 3176) := by decide +kernel
theorem at_504_43 : am_at (am_m 504) 43 = some (.aload_n 0, 0) := by decide +kernel
theorem at_504_44 : am_at (am_m 504) 44 = some (.getfield 217, 3182) := by decide +kernel
theorem at_504_47 : am_at (am_m 504) 47 = some (.iload_n 3, 0) := by decide +kernel
theorem at_504_48 : am_at (am_m 504) 48 = some (.iaload, 0) := by decide +kernel
theorem at_504_49 : am_at (am_m 504) 49 = some (.iaload, 0) := by decide +kernel
theorem at_504_50 : am_at (am_m 504) 50 = some (.goto 7, 57) := by decide +kernel
theorem at_504_53 : am_at (am_m 504) 53 = some (.aload_n 0, 0) := by decide +kernel
theorem at_504_54 : am_at (am_m 504) 54 = some (.invokevirtual 950, 510) := by decide +kernel
theorem at_504_57 : am_at (am_m 504) 57 = some (.iastore, 0) := by decide +kernel
theorem at_504_58 : am_at (am_m 504) 58 = some (.iinc 3 1, 0) := by decide +kernel
theorem at_504_61 : am_at (am_m 504) 61 = some (.goto (-40), 21) := by decide +kernel
theorem at_504_64 : am_at (am_m 504) 64 = some (.iconst 0, 0) := by decide +kernel
theorem at_504_65 : am_at (am_m 504) 65 = some (.istore_n 3, 0) := by decide +kernel
theorem at_504_66 : am_at (am_m 504) 66 = some (.iload_n 3, 0) := by decide +kernel
theorem at_504_67 : am_at (am_m 504) 67 = some (.aload_n 0, 0) := by decide +kernel
theorem at_504_68 : am_at (am_m 504) 68 = some (.getfield 904, 3177) := by decide +kernel
theorem at_504_71 : am_at (am_m 504) 71 = some (.if_icmp .ge 26, 97) := by decide +kernel
theorem at_504_74 : am_at (am_m 504) 74 = some (.aload_n 0, 0) := by decide +kernel
theorem at_504_75 : am_at (am_m 504) 75 = some (.getfield 190, 3171) := by decide +kernel
theorem at_504_78 : am_at (am_m 504) 78 = some (.bipush 16, 0) := by decide +kernel
theorem at_504_80 : am_at (am_m 504) 80 = some (.iload_n 1, 0) := by decide +kernel
theorem at_504_81 : am_at (am_m 504) 81 = some (.imul, 0) := by decide +kernel
theorem at_504_82 : am_at (am_m 504) 82 = some (.iload_n 3, 0) := by decide +kernel
theorem at_504_83 : am_at (am_m 504) 83 = some (.iadd, 0) := by decide +kernel
theorem at_504_84 : am_at (am_m 504) 84 = some (.aload_n 0, 0) := by decide +kernel
theorem at_504_85 : am_at (am_m 504) 85 = some (.getfield 220, 3183) := by decide +kernel
theorem at_504_88 : am_at (am_m 504) 88 = some (.iload_n 3, 0) := by decide +kernel
theorem at_504_89 : am_at (am_m 504) 89 = some (.iaload, 0) := by decide +kernel
theorem at_504_90 : am_at (am_m 504) 90 = some (.iastore, 0) := by decide +kernel
theorem at_504_91 : am_at (am_m 504) 91 = some (.iinc 3 1, 0) := by decide +kernel
theorem at_504_94 : am_at (am_m 504) 94 = some (.goto (-28), 66) := by decide +kernel
theorem at_504_97 : am_at (am_m 504) 97 = some (.return_, 0) := by decide +kernel
theorem at_505_0 : am_at (am_m 505) 0 = some (.aload_n 0, 0) := by decide +kernel
theorem at_505_1 : am_at (am_m 505) 1 = some (.aload_n 0, 0) := by decide +kernel
theorem at_505_2 : am_at (am_m 505) 2 = some (.getfield 187, 3170) := by decide +kernel
theorem at_505_5 : am_at (am_m 505) 5 = some (.iload_n 1, 0) := by decide +kernel
theorem at_505_6 : am_at (am_m 505) 6 = some (.iaload, 0) := by decide +kernel
theorem at_505_7 : am_at (am_m 505) 7 = some (.putfield 904, 3177) := by decide +kernel
theorem at_505_10 : am_at (am_m 505) 10 = some (.iconst 0, 0) := by decide +kernel
theorem at_505_11 : am_at (am_m 505) 11 = some (.istore_n 2, 0) := by decide +kernel
theorem at_505_12 : am_at (am_m 505) 12 = some (.iload_n 2, 0) := by decide +kernel
theorem at_505_13 : am_at (am_m 505) 13 = some (.aload_n 0, 0) := by decide +kernel
theorem at_505_14 : am_at (am_m 505) 14 = some (.getfield 904, 3177) := by decide +kernel
theorem at_505_17 : am_at (am_m 505) 17 = some (.if_icmp .ge 71, 88) := by decide +kernel
theorem at_505_20 : am_at (am_m 505) 20 = some (.aload_n 0, 0) := by decide +kernel
theorem at_505_21 : am_at (am_m 505) 21 = some (.getfield 205, 3176) := by decide +kernel
theorem at_505_24 : am_at (am_m 505) 24 = some (.iload_n 2, 0) := by decide +kernel
theorem at_505_25 : am_at (am_m 505) 25 = some (.aload_n 0, 0) := by decide +kernel
theorem at_505_26 : am_at (am_m 505) 26 = some (.getfield 190, 3171) := by decide +kernel
theorem at_505_29 : am_at (am_m 505) 29 = some (.bipush 16, 0) := by decide +kernel
theorem at_505_31 : am_at (am_m 505) 31 = some (.iload_n 1, 0) := by decide +kernel
theorem at_505_32 : am_at (am_m 505) 32 = some (.imul, 0) := by decide +kernel
theorem at_505_33 : am_at (am_m 505) 33 = some (.iload_n 2, 0) := by decide +kernel
theorem at_505_34 : am_at (am_m 505) 34 = some (.iadd, 0) := by decide +kernel
theorem at_505_35 : am_at (am_m 505) 35 = some (.iaload, 0) := by decide +kernel
theorem at_505_36 : am_at (am_m 505) 36 = some (.iastore, 0) := by decide +kernel
theorem at_505_37 : am_at (am_m 505) 37 = some (.aload_n 0, 0) := by decide +kernel
theorem at_505_38 : am_at (am_m 505) 38 = some (.aload_n 0, 0) := by decide +kernel
theorem at_505_39 : am_at (am_m 505) 39 = some (.getfield 205, 3176) := by decide +kernel
theorem at_505_42 : am_at (am_m 505) 42 = some (.iload_n 2, 0) := by decide +kernel
theorem at_505_43 : am_at (am_m 505) 43 = some (.iaload, 0) := by decide +kernel
theorem at_505_44 : am_at (am_m 505) 44 = some (.invokevirtual 571, 359) := by decide +kernel
theorem at_505_47 : am_at (am_m 505) 47 = some (.aload_n 0, 0) := by decide +kernel
theorem at_505_48 : am_at (am_m 505) 48 = some (.iconst 0, 0) := by decide +kernel
theorem at_505_49 : am_at (am_m 505) 49 = some (.invokevirtual 703, 428) := by decide +kernel
theorem at_505_52 : am_at (am_m 505) 52 = some (.aload_n 0, 0) := by decide +kernel
theorem at_505_53 : am_at (am_m 505) 53 = some (.getfield 196, 3173) := by decide +kernel
theorem at_505_56 : am_at (am_m 505) 56 = some (.iload_n 2, 0) := by decide +kernel
theorem at_505_57 : am_at (am_m 505) 57 = some (.aload_n 0, 0) := by decide +kernel
theorem at_505_58 : am_at (am_m 505) 58 = some (.getfield 689, 3163) := by decide +kernel
theorem at_505_61 : am_at (am_m 505) 61 = some (.lastore, 0) := by decide +kernel
theorem at_505_62 : am_at (am_m 505) 62 = some (.aload_n 0, 0) := by decide +kernel
theorem at_505_63 : am_at (am_m 505) 63 = some (.getfield 199, 3174) := by decide +kernel
theorem at_505_66 : am_at (am_m 505) 66 = some (.iload_n 2, 0) := by decide +kernel
theorem at_505_67 : am_at (am_m 505) 67 = some (.aload_n 0, 0) := by decide +kernel
theorem at_505_68 : am_at (am_m 505) 68 = some (.getfield 693, 3164) := by decide +kernel
theorem at_505_71 : am_at (am_m 505) 71 = some (.lastore, 0) := by decide +kernel
theorem at_505_72 : am_at (am_m 505) 72 = some (.aload_n 0, 0) := by decide +kernel
theorem at_505_73 : am_at (am_m 505) 73 = some (.getfield 202, 3175) := by decide +kernel
theorem at_505_76 : am_at (am_m 505) 76 = some (.iload_n 2, 0) := by decide +kernel
theorem at_505_77 : am_at (am_m 505) 77 = some (.aload_n 0, 0) := by decide +kernel
theorem at_505_78 : am_at (am_m 505) 78 = some (.getfield 306, 3086) := by decide +kernel
theorem at_505_81 : am_at (am_m 505) 81 = some (.iastore, 0) := by decide +kernel
theorem at_505_82 : am_at (am_m 505) 82 = some (.iinc 2 1, 0) := by decide +kernel
theorem at_505_85 : am_at (am_m 505) 85 = some (.goto (-73), 12) := by decide +kernel
theorem at_505_88 : am_at (am_m 505) 88 = some (.return_, 0) := by decide +kernel
theorem at_506_0 : am_at (am_m 506) 0 = some (.aload_n 0, 0) := by decide +kernel
theorem at_506_1 : am_at (am_m 506) 1 = some (.iconst 0, 0) := by decide +kernel
theorem at_506_2 : am_at (am_m 506) 2 = some (.putfield 916, 3180) := by decide +kernel
theorem at_506_5 : am_at (am_m 506) 5 = some (.iconst 0, 0) := by decide +kernel
theorem at_506_6 : am_at (am_m 506) 6 = some (.istore_n 1, 0) := by decide +kernel
theorem at_506_7 : am_at (am_m 506) 7 = some (.iload_n 1, 0) := by decide +kernel
theorem at_506_8 : am_at (am_m 506) 8 = some (.aload_n 0, 0) := by decide +kernel
theorem at_506_9 : am_at (am_m 506) 9 = some (.getfield 652, 3103) := by decide +kernel
theorem at_506_12 : am_at (am_m 506) 12 = some (.if_icmp .ge 89, 101) := by decide +kernel
theorem at_506_15 : am_at (am_m 506) 15 = some (.aload_n 0, 0) := by decide +kernel
theorem at_506_16 : am_at (am_m 506) 16 = some (.getfield 93, 3109) := by decide +kernel
theorem at_506_19 : am_at (am_m 506) 19 = some (.iload_n 1, 0) := by decide +kernel
theorem at_506_20 : am_at (am_m 506) 20 = some (.baload, 0) := by decide +kernel
theorem at_506_21 : am_at (am_m 506) 21 = some (.ifCond .eq 6, 27) := by decide +kernel
theorem at_506_24 : am_at (am_m 506) 24 = some (.goto 71, 95) := by decide +kernel
theorem at_506_27 : am_at (am_m 506) 27 = some (.aload_n 0, 0) := by decide +kernel
theorem at_506_28 : am_at (am_m 506) 28 = some (.getfield 211, 3179) := by decide +kernel
theorem at_506_31 : am_at (am_m 506) 31 = some (.aload_n 0, 0) := by decide +kernel
theorem at_506_32 : am_at (am_m 506) 32 = some (.getfield 916, 3180) := by decide +kernel
theorem at_506_35 : am_at (am_m 506) 35 = some (.aload_n 0, 0) := by decide +kernel
theorem at_506_36 : am_at (am_m 506) 36 = some (.getfield 916, 3180) := by decide +kernel
theorem at_506_39 : am_at (am_m 506) 39 = some (.iastore, 0) := by decide +kernel
theorem at_506_40 : am_at (am_m 506) 40 = some (.iconst 0, 0) := by decide +kernel
theorem at_506_41 : am_at (am_m 506) 41 = some (.istore_n 2, 0) := by decide +kernel
theorem at_506_42 : am_at (am_m 506) 42 = some (.iload_n 2, 0) := by decide +kernel
theorem at_506_43 : am_at (am_m 506) 43 = some (.aload_n 0, 0) := by decide +kernel
theorem at_506_44 : am_at (am_m 506) 44 = some (.getfield 904, 3177) := by decide +kernel
theorem at_506_47 : am_at (am_m 506) 47 = some (.if_icmp .ge 38, 85) := by decide +kernel
theorem at_506_50 : am_at (am_m 506) 50 = some (.aload_n 0, 0) := by decide +kernel
theorem at_506_51 : am_at (am_m 506) 51 = some (.aload_n 0, 0) := by decide +kernel
theorem at_506_52 : am_at (am_m 506) 52 = some (.getfield 205, 3176) := by decide +kernel
theorem at_506_55 : am_at (am_m 506) 55 = some (.iload_n 2, 0) := by decide +kernel
theorem at_506_56 : am_at (am_m 506) 56 = some (.iaload, 0) := by decide +kernel
theorem at_506_57 : am_at (am_m 506) 57 = some (.invokevirtual 571, 359) := by decide +kernel
theorem at_506_60 : am_at (am_m 506) 60 = some (.aload_n 0, 0) := by decide +kernel
theorem at_506_61 : am_at (am_m 506) 61 = some (.getfield 208, 3178) := by decide +kernel
theorem at_506_64 : am_at (am_m 506) 64 = some (.bipush 24, 0) := by decide +kernel
theorem at_506_66 : am_at (am_m 506) 66 = some (.iload_n 2, 0) := by decide +kernel
theorem at_506_67 : am_at (am_m 506) 67 = some (.imul, 0) := by decide +kernel
theorem at_506_68 : am_at (am_m 506) 68 = some (.aload_n 0, 0) := by decide +kernel
theorem at_506_69 : am_at (am_m 506) 69 = some (.getfield 916, 3180) := by decide +kernel
theorem at_506_72 : am_at (am_m 506) 72 = some (.iadd, 0) := by decide +kernel
theorem at_506_73 : am_at (am_m 506) 73 = some (.aload_n 0, 0) := by decide +kernel
theorem at_506_74 : am_at (am_m 506) 74 = some (.iload_n 1, 0) := by decide +kernel
theorem at_506_75 : am_at (am_m 506) 75 = some (.invokevirtual 686, 425) := by decide +kernel
theorem at_506_78 : am_at (am_m 506) 78 = some (.lastore, 0) := by decide +kernel
theorem at_506_79 : am_at (am_m 506) 79 = some (.iinc 2 1, 0) := by decide +kernel
theorem at_506_82 : am_at (am_m 506) 82 = some (.goto (-40), 42) := by decide +kernel
theorem at_506_85 : am_at (am_m 506) 85 = some (.aload_n 0, 0) := by decide +kernel
theorem at_506_86 : am_at (am_m 506) 86 = some (.dup, 0) := by decide +kernel
theorem at_506_87 : am_at (am_m 506) 87 = some (.getfield 916, 3180) := by decide +kernel
theorem at_506_90 : am_at (am_m 506) 90 = some (.iconst 1, 0) := by decide +kernel
theorem at_506_91 : am_at (am_m 506) 91 = some (.iadd, 0) := by decide +kernel
theorem at_506_92 : am_at (am_m 506) 92 = some (.putfield 916, 3180) := by decide +kernel
theorem at_506_95 : am_at (am_m 506) 95 = some (.iinc 1 1, 0) := by decide +kernel
theorem at_506_98 : am_at (am_m 506) 98 = some (.goto (-91), 7) := by decide +kernel
theorem at_506_101 : am_at (am_m 506) 101 = some (.return_, 0) := by decide +kernel
theorem at_507_0 : am_at (am_m 507) 0 = some (.iconst 0, 0) := by decide +kernel
theorem at_507_1 : am_at (am_m 507) 1 = some (.istore_n 1, 0) := by decide +kernel
theorem at_507_2 : am_at (am_m 507) 2 = some (.iload_n 1, 0) := by decide +kernel
theorem at_507_3 : am_at (am_m 507) 3 = some (.aload_n 0, 0) := by decide +kernel
theorem at_507_4 : am_at (am_m 507) 4 = some (.getfield 904, 3177) := by decide +kernel
theorem at_507_7 : am_at (am_m 507) 7 = some (.if_icmp .ge 58, 65) := by decide +kernel
theorem at_507_10 : am_at (am_m 507) 10 = some (.iload_n 1, 0) := by decide +kernel
theorem at_507_11 : am_at (am_m 507) 11 = some (.istore_n 2, 0) := by decide +kernel
theorem at_507_12 : am_at (am_m 507) 12 = some (.iload_n 2, 0) := by decide +kernel
theorem at_507_13 : am_at (am_m 507) 13 = some (.ifCond .le 39, 52) := by decide +kernel
theorem at_507_16 : am_at (am_m 507) 16 = some (.aload_n 0, 0) := by decide +kernel
theorem at_507_17 : am_at (am_m 507) 17 = some (.iload_n 1, 0) := by decide +kernel
theorem at_507_18 : am_at (am_m 507) 18 = some (.aload_n 0, 0) := by decide +kernel
theorem at_507_19 : am_at (am_m 507) 19 = some (.getfield 217, 3182) := by decide +kernel
theorem at_507_22 : am_at (am_m 507) 22 = some (.iload_n 2, 0) := by decide +kernel
theorem at_507_23 : am_at (am_m 507) 23 = some (.iconst 1, 0) := by decide +kernel
theorem at_507_24 : am_at (am_m 507) 24 = some (.isub, 0) := by decide +kernel
theorem at_507_25 : am_at (am_m 507) 25 = some (.iaload, 0) := by decide +kernel
theorem at_507_26 : am_at (am_m 507) 26 = some (.invokevirtual 910, 508) := by decide +kernel
theorem at_507_29 : am_at (am_m 507) 29 = some (.ifCond .eq 23, 52) := by decide +kernel
theorem at_507_32 : am_at (am_m 507) 32 = some (.aload_n 0, 0) := by decide +kernel
theorem at_507_33 : am_at (am_m 507) 33 = some (.getfield 217, 3182) := by decide +kernel
theorem at_507_36 : am_at (am_m 507) 36 = some (.iload_n 2, 0) := by decide +kernel
theorem at_507_37 : am_at (am_m 507) 37 = some (.aload_n 0, 0) := by decide +kernel
theorem at_507_38 : am_at (am_m 507) 38 = some (.getfield 217, 3182) := by decide +kernel
theorem at_507_41 : am_at (am_m 507) 41 = some (.iload_n 2, 0) := by decide +kernel
theorem at_507_42 : am_at (am_m 507) 42 = some (.iconst 1, 0) := by decide +kernel
theorem at_507_43 : am_at (am_m 507) 43 = some (.isub, 0) := by decide +kernel
theorem at_507_44 : am_at (am_m 507) 44 = some (.iaload, 0) := by decide +kernel
theorem at_507_45 : am_at (am_m 507) 45 = some (.iastore, 0) := by decide +kernel
