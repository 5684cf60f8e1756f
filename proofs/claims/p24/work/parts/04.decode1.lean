theorem dX0_init_0 : decode cX0_init 0 = .ok (.aload_n 0, 1) := by decide +kernel
theorem dX0_init_1 : decode cX0_init 1 = .ok (.invokespecial 1, 3) := by decide +kernel
theorem dX0_init_4 : decode cX0_init 4 = .ok (.aload_n 0, 1) := by decide +kernel
theorem dX0_init_5 : decode cX0_init 5 = .ok (.iload_n 1, 1) := by decide +kernel
theorem dX0_init_6 : decode cX0_init 6 = .ok (.putfield 7, 3) := by decide +kernel
theorem dX0_init_9 : decode cX0_init 9 = .ok (.aload_n 0, 1) := by decide +kernel
theorem dX0_init_10 : decode cX0_init 10 = .ok (.iload_n 2, 1) := by decide +kernel
theorem dX0_init_11 : decode cX0_init 11 = .ok (.putfield 13, 3) := by decide +kernel
theorem dX0_init_14 : decode cX0_init 14 = .ok (.aload_n 0, 1) := by decide +kernel
theorem dX0_init_15 : decode cX0_init 15 = .ok (.iload_n 3, 1) := by decide +kernel
theorem dX0_init_16 : decode cX0_init 16 = .ok (.putfield 16, 3) := by decide +kernel
theorem dX0_init_19 : decode cX0_init 19 = .ok (.aload_n 0, 1) := by decide +kernel
theorem dX0_init_20 : decode cX0_init 20 = .ok (.iload 4, 2) := by decide +kernel
theorem dX0_init_22 : decode cX0_init 22 = .ok (.putfield 19, 3) := by decide +kernel
theorem dX0_init_25 : decode cX0_init 25 = .ok (.aload_n 0, 1) := by decide +kernel
theorem dX0_init_26 : decode cX0_init 26 = .ok (.iload 5, 2) := by decide +kernel
theorem dX0_init_28 : decode cX0_init 28 = .ok (.putfield 22, 3) := by decide +kernel
theorem dX0_init_31 : decode cX0_init 31 = .ok (.return_, 1) := by decide +kernel
theorem dX1_init_0 : decode cX1_init 0 = .ok (.aload_n 0, 1) := by decide +kernel
theorem dX1_init_1 : decode cX1_init 1 = .ok (.invokespecial 3, 3) := by decide +kernel
theorem dX1_init_4 : decode cX1_init 4 = .ok (.aload_n 0, 1) := by decide +kernel
theorem dX1_init_5 : decode cX1_init 5 = .ok (.bipush 48, 2) := by decide +kernel
theorem dX1_init_7 : decode cX1_init 7 = .ok (.newarray .int, 2) := by decide +kernel
theorem dX1_init_9 : decode cX1_init 9 = .ok (.putfield 9, 3) := by decide +kernel
theorem dX1_init_12 : decode cX1_init 12 = .ok (.aload_n 0, 1) := by decide +kernel
theorem dX1_init_13 : decode cX1_init 13 = .ok (.bipush 48, 2) := by decide +kernel
theorem dX1_init_15 : decode cX1_init 15 = .ok (.newarray .int, 2) := by decide +kernel
theorem dX1_init_17 : decode cX1_init 17 = .ok (.putfield 15, 3) := by decide +kernel
theorem dX1_init_20 : decode cX1_init 20 = .ok (.aload_n 0, 1) := by decide +kernel
theorem dX1_init_21 : decode cX1_init 21 = .ok (.bipush 48, 2) := by decide +kernel
theorem dX1_init_23 : decode cX1_init 23 = .ok (.newarray .int, 2) := by decide +kernel
theorem dX1_init_25 : decode cX1_init 25 = .ok (.putfield 18, 3) := by decide +kernel
theorem dX1_init_28 : decode cX1_init 28 = .ok (.aload_n 0, 1) := by decide +kernel
theorem dX1_init_29 : decode cX1_init 29 = .ok (.bipush 48, 2) := by decide +kernel
theorem dX1_init_31 : decode cX1_init 31 = .ok (.newarray .boolean, 2) := by decide +kernel
theorem dX1_init_33 : decode cX1_init 33 = .ok (.putfield 21, 3) := by decide +kernel
theorem dX1_init_36 : decode cX1_init 36 = .ok (.aload_n 0, 1) := by decide +kernel
theorem dX1_init_37 : decode cX1_init 37 = .ok (.iconst 3, 1) := by decide +kernel
theorem dX1_init_38 : decode cX1_init 38 = .ok (.newarray .int, 2) := by decide +kernel
theorem dX1_init_40 : decode cX1_init 40 = .ok (.putfield 25, 3) := by decide +kernel
theorem dX1_init_43 : decode cX1_init 43 = .ok (.aload_n 0, 1) := by decide +kernel
theorem dX1_init_44 : decode cX1_init 44 = .ok (.iconst 3, 1) := by decide +kernel
theorem dX1_init_45 : decode cX1_init 45 = .ok (.newarray .int, 2) := by decide +kernel
theorem dX1_init_47 : decode cX1_init 47 = .ok (.putfield 28, 3) := by decide +kernel
theorem dX1_init_50 : decode cX1_init 50 = .ok (.aload_n 0, 1) := by decide +kernel
theorem dX1_init_51 : decode cX1_init 51 = .ok (.bipush 48, 2) := by decide +kernel
theorem dX1_init_53 : decode cX1_init 53 = .ok (.newarray .int, 2) := by decide +kernel
theorem dX1_init_55 : decode cX1_init 55 = .ok (.putfield 31, 3) := by decide +kernel
theorem dX1_init_58 : decode cX1_init 58 = .ok (.aload_n 0, 1) := by decide +kernel
theorem dX1_init_59 : decode cX1_init 59 = .ok (.iconst 0, 1) := by decide +kernel
theorem dX1_init_60 : decode cX1_init 60 = .ok (.putfield 34, 3) := by decide +kernel
theorem dX1_init_63 : decode cX1_init 63 = .ok (.aload_n 0, 1) := by decide +kernel
theorem dX1_init_64 : decode cX1_init 64 = .ok (.iconst 0, 1) := by decide +kernel
theorem dX1_init_65 : decode cX1_init 65 = .ok (.putfield 38, 3) := by decide +kernel
theorem dX1_init_68 : decode cX1_init 68 = .ok (.aload_n 0, 1) := by decide +kernel
theorem dX1_init_69 : decode cX1_init 69 = .ok (.iconst 0, 1) := by decide +kernel
theorem dX1_init_70 : decode cX1_init 70 = .ok (.putfield 41, 3) := by decide +kernel
theorem dX1_init_73 : decode cX1_init 73 = .ok (.aload_n 0, 1) := by decide +kernel
theorem dX1_init_74 : decode cX1_init 74 = .ok (.iconst 0, 1) := by decide +kernel
theorem dX1_init_75 : decode cX1_init 75 = .ok (.putfield 44, 3) := by decide +kernel
theorem dX1_init_78 : decode cX1_init 78 = .ok (.aload_n 0, 1) := by decide +kernel
theorem dX1_init_79 : decode cX1_init 79 = .ok (.lconst 0, 1) := by decide +kernel
theorem dX1_init_80 : decode cX1_init 80 = .ok (.putfield 47, 3) := by decide +kernel
theorem dX1_init_83 : decode cX1_init 83 = .ok (.aload_n 0, 1) := by decide +kernel
theorem dX1_init_84 : decode cX1_init 84 = .ok (.lconst 0, 1) := by decide +kernel
theorem dX1_init_85 : decode cX1_init 85 = .ok (.putfield 51, 3) := by decide +kernel
theorem dX1_init_88 : decode cX1_init 88 = .ok (.aload_n 0, 1) := by decide +kernel
theorem dX1_init_89 : decode cX1_init 89 = .ok (.lconst 0, 1) := by decide +kernel
theorem dX1_init_90 : decode cX1_init 90 = .ok (.putfield 54, 3) := by decide +kernel
theorem dX1_init_93 : decode cX1_init 93 = .ok (.aload_n 0, 1) := by decide +kernel
theorem dX1_init_94 : decode cX1_init 94 = .ok (.getfield 9, 3) := by decide +kernel
theorem dX1_init_97 : decode cX1_init 97 = .ok (.bipush 10, 2) := by decide +kernel
theorem dX1_init_99 : decode cX1_init 99 = .ok (.invokestatic 57, 3) := by decide +kernel
theorem dX1_init_102 : decode cX1_init 102 = .ok (.return_, 1) := by decide +kernel
theorem dX1_copyFrom_0 : decode cX1_copyFrom 0 = .ok (.aload_n 1, 1) := by decide +kernel
theorem dX1_copyFrom_1 : decode cX1_copyFrom 1 = .ok (.getfield 9, 3) := by decide +kernel
theorem dX1_copyFrom_4 : decode cX1_copyFrom 4 = .ok (.iconst 0, 1) := by decide +kernel
theorem dX1_copyFrom_5 : decode cX1_copyFrom 5 = .ok (.aload_n 0, 1) := by decide +kernel
theorem dX1_copyFrom_6 : decode cX1_copyFrom 6 = .ok (.getfield 9, 3) := by decide +kernel
theorem dX1_copyFrom_9 : decode cX1_copyFrom 9 = .ok (.iconst 0, 1) := by decide +kernel
theorem dX1_copyFrom_10 : decode cX1_copyFrom 10 = .ok (.bipush 48, 2) := by decide +kernel
theorem dX1_copyFrom_12 : decode cX1_copyFrom 12 = .ok (.invokestatic 63, 3) := by decide +kernel
theorem dX1_copyFrom_15 : decode cX1_copyFrom 15 = .ok (.aload_n 1, 1) := by decide +kernel
theorem dX1_copyFrom_16 : decode cX1_copyFrom 16 = .ok (.getfield 15, 3) := by decide +kernel
theorem dX1_copyFrom_19 : decode cX1_copyFrom 19 = .ok (.iconst 0, 1) := by decide +kernel
theorem dX1_copyFrom_20 : decode cX1_copyFrom 20 = .ok (.aload_n 0, 1) := by decide +kernel
theorem dX1_copyFrom_21 : decode cX1_copyFrom 21 = .ok (.getfield 15, 3) := by decide +kernel
theorem dX1_copyFrom_24 : decode cX1_copyFrom 24 = .ok (.iconst 0, 1) := by decide +kernel
theorem dX1_copyFrom_25 : decode cX1_copyFrom 25 = .ok (.bipush 48, 2) := by decide +kernel
theorem dX1_copyFrom_27 : decode cX1_copyFrom 27 = .ok (.invokestatic 63, 3) := by decide +kernel
theorem dX1_copyFrom_30 : decode cX1_copyFrom 30 = .ok (.aload_n 1, 1) := by decide +kernel
theorem dX1_copyFrom_31 : decode cX1_copyFrom 31 = .ok (.getfield 18, 3) := by decide +kernel
theorem dX1_copyFrom_34 : decode cX1_copyFrom 34 = .ok (.iconst 0, 1) := by decide +kernel
theorem dX1_copyFrom_35 : decode cX1_copyFrom 35 = .ok (.aload_n 0, 1) := by decide +kernel
theorem dX1_copyFrom_36 : decode cX1_copyFrom 36 = .ok (.getfield 18, 3) := by decide +kernel
theorem dX1_copyFrom_39 : decode cX1_copyFrom 39 = .ok (.iconst 0, 1) := by decide +kernel
theorem dX1_copyFrom_40 : decode cX1_copyFrom 40 = .ok (.bipush 48, 2) := by decide +kernel
theorem dX1_copyFrom_42 : decode cX1_copyFrom 42 = .ok (.invokestatic 63, 3) := by decide +kernel
theorem dX1_copyFrom_45 : decode cX1_copyFrom 45 = .ok (.iconst 0, 1) := by decide +kernel
theorem dX1_copyFrom_46 : decode cX1_copyFrom 46 = .ok (.istore_n 2, 1) := by decide +kernel
theorem dX1_copyFrom_47 : decode cX1_copyFrom 47 = .ok (.iload_n 2, 1) := by decide +kernel
theorem dX1_copyFrom_48 : decode cX1_copyFrom 48 = .ok (.bipush 48, 2) := by decide +kernel
theorem dX1_copyFrom_50 : decode cX1_copyFrom 50 = .ok (.if_icmp .ge 21, 3) := by decide +kernel
theorem dX1_copyFrom_53 : decode cX1_copyFrom 53 = .ok (.aload_n 0, 1) := by decide +kernel
theorem dX1_copyFrom_54 : decode cX1_copyFrom 54 = .ok (.getfield 21, 3) := by decide +kernel
theorem dX1_copyFrom_57 : decode cX1_copyFrom 57 = .ok (.iload_n 2, 1) := by decide +kernel
theorem dX1_copyFrom_58 : decode cX1_copyFrom 58 = .ok (.aload_n 1, 1) := by decide +kernel
theorem dX1_copyFrom_59 : decode cX1_copyFrom 59 = .ok (.getfield 21, 3) := by decide +kernel
theorem dX1_copyFrom_62 : decode cX1_copyFrom 62 = .ok (.iload_n 2, 1) := by decide +kernel
theorem dX1_copyFrom_63 : decode cX1_copyFrom 63 = .ok (.baload, 1) := by decide +kernel
theorem dX1_copyFrom_64 : decode cX1_copyFrom 64 = .ok (.bastore, 1) := by decide +kernel
theorem dX1_copyFrom_65 : decode cX1_copyFrom 65 = .ok (.iinc 2 1, 3) := by decide +kernel
theorem dX1_copyFrom_68 : decode cX1_copyFrom 68 = .ok (.goto (-21), 3) := by decide +kernel
theorem dX1_copyFrom_71 : decode cX1_copyFrom 71 = .ok (.aload_n 1, 1) := by decide +kernel
theorem dX1_copyFrom_72 : decode cX1_copyFrom 72 = .ok (.getfield 25, 3) := by decide +kernel
theorem dX1_copyFrom_75 : decode cX1_copyFrom 75 = .ok (.iconst 0, 1) := by decide +kernel
theorem dX1_copyFrom_76 : decode cX1_copyFrom 76 = .ok (.aload_n 0, 1) := by decide +kernel
theorem dX1_copyFrom_77 : decode cX1_copyFrom 77 = .ok (.getfield 25, 3) := by decide +kernel
theorem dX1_copyFrom_80 : decode cX1_copyFrom 80 = .ok (.iconst 0, 1) := by decide +kernel
theorem dX1_copyFrom_81 : decode cX1_copyFrom 81 = .ok (.iconst 3, 1) := by decide +kernel
theorem dX1_copyFrom_82 : decode cX1_copyFrom 82 = .ok (.invokestatic 63, 3) := by decide +kernel
theorem dX1_copyFrom_85 : decode cX1_copyFrom 85 = .ok (.aload_n 1, 1) := by decide +kernel
theorem dX1_copyFrom_86 : decode cX1_copyFrom 86 = .ok (.getfield 28, 3) := by decide +kernel
theorem dX1_copyFrom_89 : decode cX1_copyFrom 89 = .ok (.iconst 0, 1) := by decide +kernel
theorem dX1_copyFrom_90 : decode cX1_copyFrom 90 = .ok (.aload_n 0, 1) := by decide +kernel
theorem dX1_copyFrom_91 : decode cX1_copyFrom 91 = .ok (.getfield 28, 3) := by decide +kernel
theorem dX1_copyFrom_94 : decode cX1_copyFrom 94 = .ok (.iconst 0, 1) := by decide +kernel
theorem dX1_copyFrom_95 : decode cX1_copyFrom 95 = .ok (.iconst 3, 1) := by decide +kernel
theorem dX1_copyFrom_96 : decode cX1_copyFrom 96 = .ok (.invokestatic 63, 3) := by decide +kernel
theorem dX1_copyFrom_99 : decode cX1_copyFrom 99 = .ok (.aload_n 0, 1) := by decide +kernel
theorem dX1_copyFrom_100 : decode cX1_copyFrom 100 = .ok (.aload_n 1, 1) := by decide +kernel
theorem dX1_copyFrom_101 : decode cX1_copyFrom 101 = .ok (.getfield 34, 3) := by decide +kernel
theorem dX1_copyFrom_104 : decode cX1_copyFrom 104 = .ok (.putfield 34, 3) := by decide +kernel
theorem dX1_copyFrom_107 : decode cX1_copyFrom 107 = .ok (.aload_n 0, 1) := by decide +kernel
theorem dX1_copyFrom_108 : decode cX1_copyFrom 108 = .ok (.aload_n 1, 1) := by decide +kernel
theorem dX1_copyFrom_109 : decode cX1_copyFrom 109 = .ok (.getfield 38, 3) := by decide +kernel
theorem dX1_copyFrom_112 : decode cX1_copyFrom 112 = .ok (.putfield 38, 3) := by decide +kernel
theorem dX1_copyFrom_115 : decode cX1_copyFrom 115 = .ok (.aload_n 0, 1) := by decide +kernel
theorem dX1_copyFrom_116 : decode cX1_copyFrom 116 = .ok (.aload_n 1, 1) := by decide +kernel
theorem dX1_copyFrom_117 : decode cX1_copyFrom 117 = .ok (.getfield 41, 3) := by decide +kernel
theorem dX1_copyFrom_120 : decode cX1_copyFrom 120 = .ok (.putfield 41, 3) := by decide +kernel
theorem dX1_copyFrom_123 : decode cX1_copyFrom 123 = .ok (.aload_n 0, 1) := by decide +kernel
theorem dX1_copyFrom_124 : decode cX1_copyFrom 124 = .ok (.aload_n 1, 1) := by decide +kernel
theorem dX1_copyFrom_125 : decode cX1_copyFrom 125 = .ok (.getfield 44, 3) := by decide +kernel
theorem dX1_copyFrom_128 : decode cX1_copyFrom 128 = .ok (.putfield 44, 3) := by decide +kernel
theorem dX1_copyFrom_131 : decode cX1_copyFrom 131 = .ok (.return_, 1) := by decide +kernel
theorem dX1_replaceFuel_0 : decode cX1_replaceFuel 0 = .ok (.aload_n 0, 1) := by decide +kernel
theorem dX1_replaceFuel_1 : decode cX1_replaceFuel 1 = .ok (.getfield 9, 3) := by decide +kernel
theorem dX1_replaceFuel_4 : decode cX1_replaceFuel 4 = .ok (.iload_n 1, 1) := by decide +kernel
theorem dX1_replaceFuel_5 : decode cX1_replaceFuel 5 = .ok (.iaload, 1) := by decide +kernel
theorem dX1_replaceFuel_6 : decode cX1_replaceFuel 6 = .ok (.istore_n 3, 1) := by decide +kernel
theorem dX1_replaceFuel_7 : decode cX1_replaceFuel 7 = .ok (.aload_n 0, 1) := by decide +kernel
theorem dX1_replaceFuel_8 : decode cX1_replaceFuel 8 = .ok (.getfield 9, 3) := by decide +kernel
theorem dX1_replaceFuel_11 : decode cX1_replaceFuel 11 = .ok (.iload_n 1, 1) := by decide +kernel
theorem dX1_replaceFuel_12 : decode cX1_replaceFuel 12 = .ok (.iload_n 2, 1) := by decide +kernel
theorem dX1_replaceFuel_13 : decode cX1_replaceFuel 13 = .ok (.iastore, 1) := by decide +kernel
theorem dX1_replaceFuel_14 : decode cX1_replaceFuel 14 = .ok (.iload_n 3, 1) := by decide +kernel
theorem dX1_replaceFuel_15 : decode cX1_replaceFuel 15 = .ok (.ireturn, 1) := by decide +kernel
theorem dX1_kindle_0 : decode cX1_kindle 0 = .ok (.iload_n 2, 1) := by decide +kernel
theorem dX1_kindle_1 : decode cX1_kindle 1 = .ok (.aload_n 0, 1) := by decide +kernel
theorem dX1_kindle_2 : decode cX1_kindle 2 = .ok (.getfield 15, 3) := by decide +kernel
theorem dX1_kindle_5 : decode cX1_kindle 5 = .ok (.iload_n 1, 1) := by decide +kernel
theorem dX1_kindle_6 : decode cX1_kindle 6 = .ok (.iaload, 1) := by decide +kernel
theorem dX1_kindle_7 : decode cX1_kindle 7 = .ok (.if_icmp .le 10, 3) := by decide +kernel
theorem dX1_kindle_10 : decode cX1_kindle 10 = .ok (.aload_n 0, 1) := by decide +kernel
theorem dX1_kindle_11 : decode cX1_kindle 11 = .ok (.getfield 15, 3) := by decide +kernel
theorem dX1_kindle_14 : decode cX1_kindle 14 = .ok (.iload_n 1, 1) := by decide +kernel
theorem dX1_kindle_15 : decode cX1_kindle 15 = .ok (.iload_n 2, 1) := by decide +kernel
theorem dX1_kindle_16 : decode cX1_kindle 16 = .ok (.iastore, 1) := by decide +kernel
theorem dX1_kindle_17 : decode cX1_kindle 17 = .ok (.aload_n 0, 1) := by decide +kernel
theorem dX1_kindle_18 : decode cX1_kindle 18 = .ok (.getfield 15, 3) := by decide +kernel
theorem dX1_kindle_21 : decode cX1_kindle 21 = .ok (.iload_n 1, 1) := by decide +kernel
theorem dX1_kindle_22 : decode cX1_kindle 22 = .ok (.iaload, 1) := by decide +kernel
theorem dX1_kindle_23 : decode cX1_kindle 23 = .ok (.iload_n 2, 1) := by decide +kernel
theorem dX1_kindle_24 : decode cX1_kindle 24 = .ok (.if_icmp .ne 7, 3) := by decide +kernel
theorem dX1_kindle_27 : decode cX1_kindle 27 = .ok (.iconst 1, 1) := by decide +kernel
theorem dX1_kindle_28 : decode cX1_kindle 28 = .ok (.goto 4, 3) := by decide +kernel
theorem dX1_kindle_31 : decode cX1_kindle 31 = .ok (.iconst 0, 1) := by decide +kernel
theorem dX1_kindle_32 : decode cX1_kindle 32 = .ok (.ireturn, 1) := by decide +kernel
theorem dX1_turnWind_0 : decode cX1_turnWind 0 = .ok (.aload_n 0, 1) := by decide +kernel
theorem dX1_turnWind_1 : decode cX1_turnWind 1 = .ok (.getfield 41, 3) := by decide +kernel
theorem dX1_turnWind_4 : decode cX1_turnWind 4 = .ok (.istore 4, 2) := by decide +kernel
theorem dX1_turnWind_6 : decode cX1_turnWind 6 = .ok (.aload_n 0, 1) := by decide +kernel
theorem dX1_turnWind_7 : decode cX1_turnWind 7 = .ok (.iload_n 1, 1) := by decide +kernel
theorem dX1_turnWind_8 : decode cX1_turnWind 8 = .ok (.putfield 34, 3) := by decide +kernel
theorem dX1_turnWind_11 : decode cX1_turnWind 11 = .ok (.aload_n 0, 1) := by decide +kernel
theorem dX1_turnWind_12 : decode cX1_turnWind 12 = .ok (.iload_n 2, 1) := by decide +kernel
theorem dX1_turnWind_13 : decode cX1_turnWind 13 = .ok (.putfield 38, 3) := by decide +kernel
theorem dX1_turnWind_16 : decode cX1_turnWind 16 = .ok (.aload_n 0, 1) := by decide +kernel
theorem dX1_turnWind_17 : decode cX1_turnWind 17 = .ok (.iload_n 3, 1) := by decide +kernel
theorem dX1_turnWind_18 : decode cX1_turnWind 18 = .ok (.putfield 41, 3) := by decide +kernel
theorem dX1_turnWind_21 : decode cX1_turnWind 21 = .ok (.iload 4, 2) := by decide +kernel
theorem dX1_turnWind_23 : decode cX1_turnWind 23 = .ok (.ireturn, 1) := by decide +kernel
theorem dX1_changeRain_0 : decode cX1_changeRain 0 = .ok (.aload_n 0, 1) := by decide +kernel
theorem dX1_changeRain_1 : decode cX1_changeRain 1 = .ok (.getfield 44, 3) := by decide +kernel
theorem dX1_changeRain_4 : decode cX1_changeRain 4 = .ok (.istore_n 2, 1) := by decide +kernel
theorem dX1_changeRain_5 : decode cX1_changeRain 5 = .ok (.aload_n 0, 1) := by decide +kernel
theorem dX1_changeRain_6 : decode cX1_changeRain 6 = .ok (.iload_n 1, 1) := by decide +kernel
theorem dX1_changeRain_7 : decode cX1_changeRain 7 = .ok (.putfield 44, 3) := by decide +kernel
theorem dX1_changeRain_10 : decode cX1_changeRain 10 = .ok (.iload_n 2, 1) := by decide +kernel
theorem dX1_changeRain_11 : decode cX1_changeRain 11 = .ok (.ireturn, 1) := by decide +kernel
theorem dX1_sendCrew_0 : decode cX1_sendCrew 0 = .ok (.aload_n 0, 1) := by decide +kernel
theorem dX1_sendCrew_1 : decode cX1_sendCrew 1 = .ok (.getfield 28, 3) := by decide +kernel
theorem dX1_sendCrew_4 : decode cX1_sendCrew 4 = .ok (.iload_n 2, 1) := by decide +kernel
theorem dX1_sendCrew_5 : decode cX1_sendCrew 5 = .ok (.iload_n 1, 1) := by decide +kernel
theorem dX1_sendCrew_6 : decode cX1_sendCrew 6 = .ok (.iastore, 1) := by decide +kernel
theorem dX1_sendCrew_7 : decode cX1_sendCrew 7 = .ok (.aload_n 0, 1) := by decide +kernel
theorem dX1_sendCrew_8 : decode cX1_sendCrew 8 = .ok (.getfield 25, 3) := by decide +kernel
theorem dX1_sendCrew_11 : decode cX1_sendCrew 11 = .ok (.iload_n 2, 1) := by decide +kernel
theorem dX1_sendCrew_12 : decode cX1_sendCrew 12 = .ok (.iconst 2, 1) := by decide +kernel
theorem dX1_sendCrew_13 : decode cX1_sendCrew 13 = .ok (.aload_n 0, 1) := by decide +kernel
theorem dX1_sendCrew_14 : decode cX1_sendCrew 14 = .ok (.getfield 9, 3) := by decide +kernel
theorem dX1_sendCrew_17 : decode cX1_sendCrew 17 = .ok (.iload_n 1, 1) := by decide +kernel
theorem dX1_sendCrew_18 : decode cX1_sendCrew 18 = .ok (.iaload, 1) := by decide +kernel
theorem dX1_sendCrew_19 : decode cX1_sendCrew 19 = .ok (.bipush 20, 2) := by decide +kernel
theorem dX1_sendCrew_21 : decode cX1_sendCrew 21 = .ok (.idiv, 1) := by decide +kernel
theorem dX1_sendCrew_22 : decode cX1_sendCrew 22 = .ok (.iadd, 1) := by decide +kernel
theorem dX1_sendCrew_23 : decode cX1_sendCrew 23 = .ok (.iastore, 1) := by decide +kernel
theorem dX1_sendCrew_24 : decode cX1_sendCrew 24 = .ok (.aload_n 0, 1) := by decide +kernel
theorem dX1_sendCrew_25 : decode cX1_sendCrew 25 = .ok (.getfield 25, 3) := by decide +kernel
theorem dX1_sendCrew_28 : decode cX1_sendCrew 28 = .ok (.iload_n 2, 1) := by decide +kernel
theorem dX1_sendCrew_29 : decode cX1_sendCrew 29 = .ok (.iaload, 1) := by decide +kernel
theorem dX1_sendCrew_30 : decode cX1_sendCrew 30 = .ok (.ireturn, 1) := by decide +kernel
theorem dX1_smokeInAll_0 : decode cX1_smokeInAll 0 = .ok (.lconst 0, 1) := by decide +kernel
theorem dX1_smokeInAll_1 : decode cX1_smokeInAll 1 = .ok (.lstore_n 1, 1) := by decide +kernel
theorem dX1_smokeInAll_2 : decode cX1_smokeInAll 2 = .ok (.iconst 0, 1) := by decide +kernel
theorem dX1_smokeInAll_3 : decode cX1_smokeInAll 3 = .ok (.istore_n 3, 1) := by decide +kernel
theorem dX1_smokeInAll_4 : decode cX1_smokeInAll 4 = .ok (.iload_n 3, 1) := by decide +kernel
theorem dX1_smokeInAll_5 : decode cX1_smokeInAll 5 = .ok (.bipush 48, 2) := by decide +kernel
theorem dX1_smokeInAll_7 : decode cX1_smokeInAll 7 = .ok (.if_icmp .ge 19, 3) := by decide +kernel
theorem dX1_smokeInAll_10 : decode cX1_smokeInAll 10 = .ok (.lload_n 1, 1) := by decide +kernel
theorem dX1_smokeInAll_11 : decode cX1_smokeInAll 11 = .ok (.aload_n 0, 1) := by decide +kernel
theorem dX1_smokeInAll_12 : decode cX1_smokeInAll 12 = .ok (.getfield 18, 3) := by decide +kernel
theorem dX1_smokeInAll_15 : decode cX1_smokeInAll 15 = .ok (.iload_n 3, 1) := by decide +kernel
theorem dX1_smokeInAll_16 : decode cX1_smokeInAll 16 = .ok (.iaload, 1) := by decide +kernel
theorem dX1_smokeInAll_17 : decode cX1_smokeInAll 17 = .ok (.i2l, 1) := by decide +kernel
theorem dX1_smokeInAll_18 : decode cX1_smokeInAll 18 = .ok (.ladd, 1) := by decide +kernel
theorem dX1_smokeInAll_19 : decode cX1_smokeInAll 19 = .ok (.lstore_n 1, 1) := by decide +kernel
theorem dX1_smokeInAll_20 : decode cX1_smokeInAll 20 = .ok (.iinc 3 1, 3) := by decide +kernel
theorem dX1_smokeInAll_23 : decode cX1_smokeInAll 23 = .ok (.goto (-19), 3) := by decide +kernel
theorem dX1_smokeInAll_26 : decode cX1_smokeInAll 26 = .ok (.lload_n 1, 1) := by decide +kernel
theorem dX1_smokeInAll_27 : decode cX1_smokeInAll 27 = .ok (.lreturn, 1) := by decide +kernel
theorem dX1_runModel_0 : decode cX1_runModel 0 = .ok (.aload_n 0, 1) := by decide +kernel
theorem dX1_runModel_1 : decode cX1_runModel 1 = .ok (.invokevirtual 69, 3) := by decide +kernel
theorem dX1_runModel_4 : decode cX1_runModel 4 = .ok (.aload_n 0, 1) := by decide +kernel
theorem dX1_runModel_5 : decode cX1_runModel 5 = .ok (.invokevirtual 72, 3) := by decide +kernel
theorem dX1_runModel_8 : decode cX1_runModel 8 = .ok (.aload_n 0, 1) := by decide +kernel
theorem dX1_runModel_9 : decode cX1_runModel 9 = .ok (.invokevirtual 75, 3) := by decide +kernel
theorem dX1_runModel_12 : decode cX1_runModel 12 = .ok (.iconst 0, 1) := by decide +kernel
theorem dX1_runModel_13 : decode cX1_runModel 13 = .ok (.istore_n 1, 1) := by decide +kernel
theorem dX1_runModel_14 : decode cX1_runModel 14 = .ok (.iload_n 1, 1) := by decide +kernel
theorem dX1_runModel_15 : decode cX1_runModel 15 = .ok (.aload_n 0, 1) := by decide +kernel
theorem dX1_runModel_16 : decode cX1_runModel 16 = .ok (.getfield 41, 3) := by decide +kernel
theorem dX1_runModel_19 : decode cX1_runModel 19 = .ok (.if_icmp .ge 13, 3) := by decide +kernel
theorem dX1_runModel_22 : decode cX1_runModel 22 = .ok (.aload_n 0, 1) := by decide +kernel
theorem dX1_runModel_23 : decode cX1_runModel 23 = .ok (.invokevirtual 78, 3) := by decide +kernel
theorem dX1_runModel_26 : decode cX1_runModel 26 = .ok (.iinc 1 1, 3) := by decide +kernel
theorem dX1_runModel_29 : decode cX1_runModel 29 = .ok (.goto (-15), 3) := by decide +kernel
theorem dX1_runModel_32 : decode cX1_runModel 32 = .ok (.aload_n 0, 1) := by decide +kernel
theorem dX1_runModel_33 : decode cX1_runModel 33 = .ok (.invokevirtual 81, 3) := by decide +kernel
theorem dX1_runModel_36 : decode cX1_runModel 36 = .ok (.return_, 1) := by decide +kernel
theorem dX1_dig_0 : decode cX1_dig 0 = .ok (.iconst 0, 1) := by decide +kernel
theorem dX1_dig_1 : decode cX1_dig 1 = .ok (.istore_n 1, 1) := by decide +kernel
theorem dX1_dig_2 : decode cX1_dig 2 = .ok (.iload_n 1, 1) := by decide +kernel
theorem dX1_dig_3 : decode cX1_dig 3 = .ok (.iconst 3, 1) := by decide +kernel
theorem dX1_dig_4 : decode cX1_dig 4 = .ok (.if_icmp .ge 61, 3) := by decide +kernel
theorem dX1_dig_7 : decode cX1_dig 7 = .ok (.aload_n 0, 1) := by decide +kernel
theorem dX1_dig_8 : decode cX1_dig 8 = .ok (.getfield 25, 3) := by decide +kernel
theorem dX1_dig_11 : decode cX1_dig 11 = .ok (.iload_n 1, 1) := by decide +kernel
theorem dX1_dig_12 : decode cX1_dig 12 = .ok (.iaload, 1) := by decide +kernel
theorem dX1_dig_13 : decode cX1_dig 13 = .ok (.ifCond .le 46, 3) := by decide +kernel
theorem dX1_dig_16 : decode cX1_dig 16 = .ok (.aload_n 0, 1) := by decide +kernel
theorem dX1_dig_17 : decode cX1_dig 17 = .ok (.getfield 25, 3) := by decide +kernel
theorem dX1_dig_20 : decode cX1_dig 20 = .ok (.iload_n 1, 1) := by decide +kernel
theorem dX1_dig_21 : decode cX1_dig 21 = .ok (.dup2, 1) := by decide +kernel
theorem dX1_dig_22 : decode cX1_dig 22 = .ok (.iaload, 1) := by decide +kernel
theorem dX1_dig_23 : decode cX1_dig 23 = .ok (.iconst 1, 1) := by decide +kernel
theorem dX1_dig_24 : decode cX1_dig 24 = .ok (.isub, 1) := by decide +kernel
theorem dX1_dig_25 : decode cX1_dig 25 = .ok (.iastore, 1) := by decide +kernel
theorem dX1_dig_26 : decode cX1_dig 26 = .ok (.aload_n 0, 1) := by decide +kernel
theorem dX1_dig_27 : decode cX1_dig 27 = .ok (.getfield 25, 3) := by decide +kernel
theorem dX1_dig_30 : decode cX1_dig 30 = .ok (.iload_n 1, 1) := by decide +kernel
theorem dX1_dig_31 : decode cX1_dig 31 = .ok (.iaload, 1) := by decide +kernel
theorem dX1_dig_32 : decode cX1_dig 32 = .ok (.ifCond .ne 27, 3) := by decide +kernel
theorem dX1_dig_35 : decode cX1_dig 35 = .ok (.aload_n 0, 1) := by decide +kernel
theorem dX1_dig_36 : decode cX1_dig 36 = .ok (.getfield 21, 3) := by decide +kernel
theorem dX1_dig_39 : decode cX1_dig 39 = .ok (.aload_n 0, 1) := by decide +kernel
theorem dX1_dig_40 : decode cX1_dig 40 = .ok (.getfield 28, 3) := by decide +kernel
theorem dX1_dig_43 : decode cX1_dig 43 = .ok (.iload_n 1, 1) := by decide +kernel
theorem dX1_dig_44 : decode cX1_dig 44 = .ok (.iaload, 1) := by decide +kernel
theorem dX1_dig_45 : decode cX1_dig 45 = .ok (.iconst 1, 1) := by decide +kernel
theorem dX1_dig_46 : decode cX1_dig 46 = .ok (.bastore, 1) := by decide +kernel
theorem dX1_dig_47 : decode cX1_dig 47 = .ok (.aload_n 0, 1) := by decide +kernel
theorem dX1_dig_48 : decode cX1_dig 48 = .ok (.getfield 15, 3) := by decide +kernel
theorem dX1_dig_51 : decode cX1_dig 51 = .ok (.aload_n 0, 1) := by decide +kernel
theorem dX1_dig_52 : decode cX1_dig 52 = .ok (.getfield 28, 3) := by decide +kernel
theorem dX1_dig_55 : decode cX1_dig 55 = .ok (.iload_n 1, 1) := by decide +kernel
theorem dX1_dig_56 : decode cX1_dig 56 = .ok (.iaload, 1) := by decide +kernel
theorem dX1_dig_57 : decode cX1_dig 57 = .ok (.iconst 0, 1) := by decide +kernel
theorem dX1_dig_58 : decode cX1_dig 58 = .ok (.iastore, 1) := by decide +kernel
theorem dX1_dig_59 : decode cX1_dig 59 = .ok (.iinc 1 1, 3) := by decide +kernel
theorem dX1_dig_62 : decode cX1_dig 62 = .ok (.goto (-60), 3) := by decide +kernel
theorem dX1_dig_65 : decode cX1_dig 65 = .ok (.return_, 1) := by decide +kernel
theorem dX1_burn_0 : decode cX1_burn 0 = .ok (.aload_n 0, 1) := by decide +kernel
theorem dX1_burn_1 : decode cX1_burn 1 = .ok (.getfield 44, 3) := by decide +kernel
theorem dX1_burn_4 : decode cX1_burn 4 = .ok (.iconst 3, 1) := by decide +kernel
theorem dX1_burn_5 : decode cX1_burn 5 = .ok (.idiv, 1) := by decide +kernel
theorem dX1_burn_6 : decode cX1_burn 6 = .ok (.istore_n 1, 1) := by decide +kernel
theorem dX1_burn_7 : decode cX1_burn 7 = .ok (.iconst 0, 1) := by decide +kernel
theorem dX1_burn_8 : decode cX1_burn 8 = .ok (.istore_n 2, 1) := by decide +kernel
theorem dX1_burn_9 : decode cX1_burn 9 = .ok (.iload_n 2, 1) := by decide +kernel
theorem dX1_burn_10 : decode cX1_burn 10 = .ok (.bipush 48, 2) := by decide +kernel
theorem dX1_burn_12 : decode cX1_burn 12 = .ok (.if_icmp .ge 114, 3) := by decide +kernel
theorem dX1_burn_15 : decode cX1_burn 15 = .ok (.aload_n 0, 1) := by decide +kernel
theorem dX1_burn_16 : decode cX1_burn 16 = .ok (.getfield 15, 3) := by decide +kernel
theorem dX1_burn_19 : decode cX1_burn 19 = .ok (.iload_n 2, 1) := by decide +kernel
theorem dX1_burn_20 : decode cX1_burn 20 = .ok (.iaload, 1) := by decide +kernel
theorem dX1_burn_21 : decode cX1_burn 21 = .ok (.aload_n 0, 1) := by decide +kernel
theorem dX1_burn_22 : decode cX1_burn 22 = .ok (.getfield 9, 3) := by decide +kernel
theorem dX1_burn_25 : decode cX1_burn 25 = .ok (.iload_n 2, 1) := by decide +kernel
theorem dX1_burn_26 : decode cX1_burn 26 = .ok (.iaload, 1) := by decide +kernel
theorem dX1_burn_27 : decode cX1_burn 27 = .ok (.if_icmp .ge 12, 3) := by decide +kernel
theorem dX1_burn_30 : decode cX1_burn 30 = .ok (.aload_n 0, 1) := by decide +kernel
theorem dX1_burn_31 : decode cX1_burn 31 = .ok (.getfield 15, 3) := by decide +kernel
theorem dX1_burn_34 : decode cX1_burn 34 = .ok (.iload_n 2, 1) := by decide +kernel
theorem dX1_burn_35 : decode cX1_burn 35 = .ok (.iaload, 1) := by decide +kernel
theorem dX1_burn_36 : decode cX1_burn 36 = .ok (.goto 9, 3) := by decide +kernel
theorem dX1_burn_39 : decode cX1_burn 39 = .ok (.aload_n 0, 1) := by decide +kernel
theorem dX1_burn_40 : decode cX1_burn 40 = .ok (.getfield 9, 3) := by decide +kernel
theorem dX1_burn_43 : decode cX1_burn 43 = .ok (.iload_n 2, 1) := by decide +kernel
theorem dX1_burn_44 : decode cX1_burn 44 = .ok (.iaload, 1) := by decide +kernel
theorem dX1_burn_45 : decode cX1_burn 45 = .ok (.istore_n 3, 1) := by decide +kernel
theorem dX1_burn_46 : decode cX1_burn 46 = .ok (.aload_n 0, 1) := by decide +kernel
theorem dX1_burn_47 : decode cX1_burn 47 = .ok (.getfield 9, 3) := by decide +kernel
theorem dX1_burn_50 : decode cX1_burn 50 = .ok (.iload_n 2, 1) := by decide +kernel
theorem dX1_burn_51 : decode cX1_burn 51 = .ok (.dup2, 1) := by decide +kernel
theorem dX1_burn_52 : decode cX1_burn 52 = .ok (.iaload, 1) := by decide +kernel
theorem dX1_burn_53 : decode cX1_burn 53 = .ok (.iload_n 3, 1) := by decide +kernel
theorem dX1_burn_54 : decode cX1_burn 54 = .ok (.isub, 1) := by decide +kernel
theorem dX1_burn_55 : decode cX1_burn 55 = .ok (.iastore, 1) := by decide +kernel
theorem dX1_burn_56 : decode cX1_burn 56 = .ok (.aload_n 0, 1) := by decide +kernel
theorem dX1_burn_57 : decode cX1_burn 57 = .ok (.getfield 18, 3) := by decide +kernel
theorem dX1_burn_60 : decode cX1_burn 60 = .ok (.iload_n 2, 1) := by decide +kernel
theorem dX1_burn_61 : decode cX1_burn 61 = .ok (.dup2, 1) := by decide +kernel
theorem dX1_burn_62 : decode cX1_burn 62 = .ok (.iaload, 1) := by decide +kernel
theorem dX1_burn_63 : decode cX1_burn 63 = .ok (.iload_n 3, 1) := by decide +kernel
theorem dX1_burn_64 : decode cX1_burn 64 = .ok (.bipush 10, 2) := by decide +kernel
theorem dX1_burn_66 : decode cX1_burn 66 = .ok (.imul, 1) := by decide +kernel
theorem dX1_burn_67 : decode cX1_burn 67 = .ok (.iadd, 1) := by decide +kernel
theorem dX1_burn_68 : decode cX1_burn 68 = .ok (.iastore, 1) := by decide +kernel
theorem dX1_burn_69 : decode cX1_burn 69 = .ok (.aload_n 0, 1) := by decide +kernel
theorem dX1_burn_70 : decode cX1_burn 70 = .ok (.dup, 1) := by decide +kernel
theorem dX1_burn_71 : decode cX1_burn 71 = .ok (.getfield 47, 3) := by decide +kernel
theorem dX1_burn_74 : decode cX1_burn 74 = .ok (.iload_n 3, 1) := by decide +kernel
theorem dX1_burn_75 : decode cX1_burn 75 = .ok (.bipush 10, 2) := by decide +kernel
theorem dX1_burn_77 : decode cX1_burn 77 = .ok (.imul, 1) := by decide +kernel
theorem dX1_burn_78 : decode cX1_burn 78 = .ok (.i2l, 1) := by decide +kernel
theorem dX1_burn_79 : decode cX1_burn 79 = .ok (.ladd, 1) := by decide +kernel
theorem dX1_burn_80 : decode cX1_burn 80 = .ok (.putfield 47, 3) := by decide +kernel
theorem dX1_burn_83 : decode cX1_burn 83 = .ok (.aload_n 0, 1) := by decide +kernel
theorem dX1_burn_84 : decode cX1_burn 84 = .ok (.getfield 15, 3) := by decide +kernel
theorem dX1_burn_87 : decode cX1_burn 87 = .ok (.iload_n 2, 1) := by decide +kernel
theorem dX1_burn_88 : decode cX1_burn 88 = .ok (.aload_n 0, 1) := by decide +kernel
theorem dX1_burn_89 : decode cX1_burn 89 = .ok (.getfield 9, 3) := by decide +kernel
theorem dX1_burn_92 : decode cX1_burn 92 = .ok (.iload_n 2, 1) := by decide +kernel
theorem dX1_burn_93 : decode cX1_burn 93 = .ok (.iaload, 1) := by decide +kernel
theorem dX1_burn_94 : decode cX1_burn 94 = .ok (.ifCond .eq 13, 3) := by decide +kernel
theorem dX1_burn_97 : decode cX1_burn 97 = .ok (.aload_n 0, 1) := by decide +kernel
theorem dX1_burn_98 : decode cX1_burn 98 = .ok (.getfield 15, 3) := by decide +kernel
theorem dX1_burn_101 : decode cX1_burn 101 = .ok (.iload_n 2, 1) := by decide +kernel
theorem dX1_burn_102 : decode cX1_burn 102 = .ok (.iaload, 1) := by decide +kernel
theorem dX1_burn_103 : decode cX1_burn 103 = .ok (.iload_n 1, 1) := by decide +kernel
theorem dX1_burn_104 : decode cX1_burn 104 = .ok (.if_icmp .ge 7, 3) := by decide +kernel
theorem dX1_burn_107 : decode cX1_burn 107 = .ok (.iconst 0, 1) := by decide +kernel
theorem dX1_burn_108 : decode cX1_burn 108 = .ok (.goto 11, 3) := by decide +kernel
theorem dX1_burn_111 : decode cX1_burn 111 = .ok (.aload_n 0, 1) := by decide +kernel
theorem dX1_burn_112 : decode cX1_burn 112 = .ok (.getfield 15, 3) := by decide +kernel
theorem dX1_burn_115 : decode cX1_burn 115 = .ok (.iload_n 2, 1) := by decide +kernel
theorem dX1_burn_116 : decode cX1_burn 116 = .ok (.iaload, 1) := by decide +kernel
theorem dX1_burn_117 : decode cX1_burn 117 = .ok (.iload_n 1, 1) := by decide +kernel
theorem dX1_burn_118 : decode cX1_burn 118 = .ok (.isub, 1) := by decide +kernel
theorem dX1_burn_119 : decode cX1_burn 119 = .ok (.iastore, 1) := by decide +kernel
theorem dX1_burn_120 : decode cX1_burn 120 = .ok (.iinc 2 1, 3) := by decide +kernel
theorem dX1_burn_123 : decode cX1_burn 123 = .ok (.goto (-114), 3) := by decide +kernel
theorem dX1_burn_126 : decode cX1_burn 126 = .ok (.return_, 1) := by decide +kernel
theorem dX1_spread_0 : decode cX1_spread 0 = .ok (.aload_n 0, 1) := by decide +kernel
theorem dX1_spread_1 : decode cX1_spread 1 = .ok (.getfield 31, 3) := by decide +kernel
theorem dX1_spread_4 : decode cX1_spread 4 = .ok (.iconst 0, 1) := by decide +kernel
theorem dX1_spread_5 : decode cX1_spread 5 = .ok (.invokestatic 57, 3) := by decide +kernel
theorem dX1_spread_8 : decode cX1_spread 8 = .ok (.iconst 0, 1) := by decide +kernel
theorem dX1_spread_9 : decode cX1_spread 9 = .ok (.istore_n 1, 1) := by decide +kernel
theorem dX1_spread_10 : decode cX1_spread 10 = .ok (.iload_n 1, 1) := by decide +kernel
theorem dX1_spread_11 : decode cX1_spread 11 = .ok (.bipush 48, 2) := by decide +kernel
theorem dX1_spread_13 : decode cX1_spread 13 = .ok (.if_icmp .ge 104, 3) := by decide +kernel
theorem dX1_spread_16 : decode cX1_spread 16 = .ok (.iload_n 1, 1) := by decide +kernel
theorem dX1_spread_17 : decode cX1_spread 17 = .ok (.bipush 8, 2) := by decide +kernel
theorem dX1_spread_19 : decode cX1_spread 19 = .ok (.irem, 1) := by decide +kernel
theorem dX1_spread_20 : decode cX1_spread 20 = .ok (.istore_n 2, 1) := by decide +kernel
theorem dX1_spread_21 : decode cX1_spread 21 = .ok (.iload_n 1, 1) := by decide +kernel
theorem dX1_spread_22 : decode cX1_spread 22 = .ok (.bipush 8, 2) := by decide +kernel
theorem dX1_spread_24 : decode cX1_spread 24 = .ok (.idiv, 1) := by decide +kernel
theorem dX1_spread_25 : decode cX1_spread 25 = .ok (.istore_n 3, 1) := by decide +kernel
theorem dX1_spread_26 : decode cX1_spread 26 = .ok (.aload_n 0, 1) := by decide +kernel
theorem dX1_spread_27 : decode cX1_spread 27 = .ok (.getfield 15, 3) := by decide +kernel
theorem dX1_spread_30 : decode cX1_spread 30 = .ok (.iload_n 1, 1) := by decide +kernel
theorem dX1_spread_31 : decode cX1_spread 31 = .ok (.iaload, 1) := by decide +kernel
theorem dX1_spread_32 : decode cX1_spread 32 = .ok (.iconst 5, 1) := by decide +kernel
theorem dX1_spread_33 : decode cX1_spread 33 = .ok (.if_icmp .lt 39, 3) := by decide +kernel
theorem dX1_spread_36 : decode cX1_spread 36 = .ok (.aload_n 0, 1) := by decide +kernel
theorem dX1_spread_37 : decode cX1_spread 37 = .ok (.iload_n 2, 1) := by decide +kernel
theorem dX1_spread_38 : decode cX1_spread 38 = .ok (.iconst 1, 1) := by decide +kernel
theorem dX1_spread_39 : decode cX1_spread 39 = .ok (.isub, 1) := by decide +kernel
theorem dX1_spread_40 : decode cX1_spread 40 = .ok (.iload_n 3, 1) := by decide +kernel
theorem dX1_spread_41 : decode cX1_spread 41 = .ok (.iconst 1, 1) := by decide +kernel
theorem dX1_spread_42 : decode cX1_spread 42 = .ok (.invokevirtual 84, 3) := by decide +kernel
theorem dX1_spread_45 : decode cX1_spread 45 = .ok (.aload_n 0, 1) := by decide +kernel
theorem dX1_spread_46 : decode cX1_spread 46 = .ok (.iload_n 2, 1) := by decide +kernel
theorem dX1_spread_47 : decode cX1_spread 47 = .ok (.iconst 1, 1) := by decide +kernel
theorem dX1_spread_48 : decode cX1_spread 48 = .ok (.iadd, 1) := by decide +kernel
theorem dX1_spread_49 : decode cX1_spread 49 = .ok (.iload_n 3, 1) := by decide +kernel
theorem dX1_spread_50 : decode cX1_spread 50 = .ok (.iconst 1, 1) := by decide +kernel
theorem dX1_spread_51 : decode cX1_spread 51 = .ok (.invokevirtual 84, 3) := by decide +kernel
theorem dX1_spread_54 : decode cX1_spread 54 = .ok (.aload_n 0, 1) := by decide +kernel
theorem dX1_spread_55 : decode cX1_spread 55 = .ok (.iload_n 2, 1) := by decide +kernel
theorem dX1_spread_56 : decode cX1_spread 56 = .ok (.iload_n 3, 1) := by decide +kernel
theorem dX1_spread_57 : decode cX1_spread 57 = .ok (.iconst 1, 1) := by decide +kernel
theorem dX1_spread_58 : decode cX1_spread 58 = .ok (.isub, 1) := by decide +kernel
theorem dX1_spread_59 : decode cX1_spread 59 = .ok (.iconst 1, 1) := by decide +kernel
theorem dX1_spread_60 : decode cX1_spread 60 = .ok (.invokevirtual 84, 3) := by decide +kernel
theorem dX1_spread_63 : decode cX1_spread 63 = .ok (.aload_n 0, 1) := by decide +kernel
theorem dX1_spread_64 : decode cX1_spread 64 = .ok (.iload_n 2, 1) := by decide +kernel
theorem dX1_spread_65 : decode cX1_spread 65 = .ok (.iload_n 3, 1) := by decide +kernel
theorem dX1_spread_66 : decode cX1_spread 66 = .ok (.iconst 1, 1) := by decide +kernel
theorem dX1_spread_67 : decode cX1_spread 67 = .ok (.iadd, 1) := by decide +kernel
theorem dX1_spread_68 : decode cX1_spread 68 = .ok (.iconst 1, 1) := by decide +kernel
theorem dX1_spread_69 : decode cX1_spread 69 = .ok (.invokevirtual 84, 3) := by decide +kernel
theorem dX1_spread_72 : decode cX1_spread 72 = .ok (.aload_n 0, 1) := by decide +kernel
theorem dX1_spread_73 : decode cX1_spread 73 = .ok (.getfield 15, 3) := by decide +kernel
theorem dX1_spread_76 : decode cX1_spread 76 = .ok (.iload_n 1, 1) := by decide +kernel
theorem dX1_spread_77 : decode cX1_spread 77 = .ok (.iaload, 1) := by decide +kernel
theorem dX1_spread_78 : decode cX1_spread 78 = .ok (.iconst 3, 1) := by decide +kernel
theorem dX1_spread_79 : decode cX1_spread 79 = .ok (.if_icmp .lt 32, 3) := by decide +kernel
theorem dX1_spread_82 : decode cX1_spread 82 = .ok (.aload_n 0, 1) := by decide +kernel
theorem dX1_spread_83 : decode cX1_spread 83 = .ok (.getfield 41, 3) := by decide +kernel
theorem dX1_spread_86 : decode cX1_spread 86 = .ok (.ifCond .le 25, 3) := by decide +kernel
theorem dX1_spread_89 : decode cX1_spread 89 = .ok (.aload_n 0, 1) := by decide +kernel
theorem dX1_spread_90 : decode cX1_spread 90 = .ok (.iload_n 2, 1) := by decide +kernel
theorem dX1_spread_91 : decode cX1_spread 91 = .ok (.aload_n 0, 1) := by decide +kernel
theorem dX1_spread_92 : decode cX1_spread 92 = .ok (.getfield 34, 3) := by decide +kernel
theorem dX1_spread_95 : decode cX1_spread 95 = .ok (.iadd, 1) := by decide +kernel
theorem dX1_spread_96 : decode cX1_spread 96 = .ok (.iload_n 3, 1) := by decide +kernel
theorem dX1_spread_97 : decode cX1_spread 97 = .ok (.aload_n 0, 1) := by decide +kernel
theorem dX1_spread_98 : decode cX1_spread 98 = .ok (.getfield 38, 3) := by decide +kernel
theorem dX1_spread_101 : decode cX1_spread 101 = .ok (.iadd, 1) := by decide +kernel
theorem dX1_spread_102 : decode cX1_spread 102 = .ok (.aload_n 0, 1) := by decide +kernel
theorem dX1_spread_103 : decode cX1_spread 103 = .ok (.getfield 41, 3) := by decide +kernel
theorem dX1_spread_106 : decode cX1_spread 106 = .ok (.iconst 1, 1) := by decide +kernel
theorem dX1_spread_107 : decode cX1_spread 107 = .ok (.iadd, 1) := by decide +kernel
theorem dX1_spread_108 : decode cX1_spread 108 = .ok (.invokevirtual 84, 3) := by decide +kernel
theorem dX1_spread_111 : decode cX1_spread 111 = .ok (.iinc 1 1, 3) := by decide +kernel
theorem dX1_spread_114 : decode cX1_spread 114 = .ok (.goto (-104), 3) := by decide +kernel
theorem dX1_spread_117 : decode cX1_spread 117 = .ok (.iconst 0, 1) := by decide +kernel
theorem dX1_spread_118 : decode cX1_spread 118 = .ok (.istore_n 1, 1) := by decide +kernel
theorem dX1_spread_119 : decode cX1_spread 119 = .ok (.iload_n 1, 1) := by decide +kernel
theorem dX1_spread_120 : decode cX1_spread 120 = .ok (.bipush 48, 2) := by decide +kernel
theorem dX1_spread_122 : decode cX1_spread 122 = .ok (.if_icmp .ge 54, 3) := by decide +kernel
theorem dX1_spread_125 : decode cX1_spread 125 = .ok (.aload_n 0, 1) := by decide +kernel
theorem dX1_spread_126 : decode cX1_spread 126 = .ok (.getfield 9, 3) := by decide +kernel
theorem dX1_spread_129 : decode cX1_spread 129 = .ok (.iload_n 1, 1) := by decide +kernel
theorem dX1_spread_130 : decode cX1_spread 130 = .ok (.iaload, 1) := by decide +kernel
theorem dX1_spread_131 : decode cX1_spread 131 = .ok (.ifCond .le 39, 3) := by decide +kernel
theorem dX1_spread_134 : decode cX1_spread 134 = .ok (.aload_n 0, 1) := by decide +kernel
theorem dX1_spread_135 : decode cX1_spread 135 = .ok (.getfield 21, 3) := by decide +kernel
theorem dX1_spread_138 : decode cX1_spread 138 = .ok (.iload_n 1, 1) := by decide +kernel
theorem dX1_spread_139 : decode cX1_spread 139 = .ok (.baload, 1) := by decide +kernel
theorem dX1_spread_140 : decode cX1_spread 140 = .ok (.ifCond .ne 30, 3) := by decide +kernel
theorem dX1_spread_143 : decode cX1_spread 143 = .ok (.aload_n 0, 1) := by decide +kernel
theorem dX1_spread_144 : decode cX1_spread 144 = .ok (.getfield 15, 3) := by decide +kernel
theorem dX1_spread_147 : decode cX1_spread 147 = .ok (.iload_n 1, 1) := by decide +kernel
theorem dX1_spread_148 : decode cX1_spread 148 = .ok (.iaload, 1) := by decide +kernel
theorem dX1_spread_149 : decode cX1_spread 149 = .ok (.aload_n 0, 1) := by decide +kernel
theorem dX1_spread_150 : decode cX1_spread 150 = .ok (.getfield 31, 3) := by decide +kernel
theorem dX1_spread_153 : decode cX1_spread 153 = .ok (.iload_n 1, 1) := by decide +kernel
theorem dX1_spread_154 : decode cX1_spread 154 = .ok (.iaload, 1) := by decide +kernel
theorem dX1_spread_155 : decode cX1_spread 155 = .ok (.if_icmp .ge 15, 3) := by decide +kernel
theorem dX1_spread_158 : decode cX1_spread 158 = .ok (.aload_n 0, 1) := by decide +kernel
theorem dX1_spread_159 : decode cX1_spread 159 = .ok (.getfield 15, 3) := by decide +kernel
theorem dX1_spread_162 : decode cX1_spread 162 = .ok (.iload_n 1, 1) := by decide +kernel
theorem dX1_spread_163 : decode cX1_spread 163 = .ok (.aload_n 0, 1) := by decide +kernel
theorem dX1_spread_164 : decode cX1_spread 164 = .ok (.getfield 31, 3) := by decide +kernel
theorem dX1_spread_167 : decode cX1_spread 167 = .ok (.iload_n 1, 1) := by decide +kernel
theorem dX1_spread_168 : decode cX1_spread 168 = .ok (.iaload, 1) := by decide +kernel
theorem dX1_spread_169 : decode cX1_spread 169 = .ok (.iastore, 1) := by decide +kernel
theorem dX1_spread_170 : decode cX1_spread 170 = .ok (.iinc 1 1, 3) := by decide +kernel
theorem dX1_spread_173 : decode cX1_spread 173 = .ok (.goto (-54), 3) := by decide +kernel
theorem dX1_spread_176 : decode cX1_spread 176 = .ok (.return_, 1) := by decide +kernel
theorem dX1_tell_0 : decode cX1_tell 0 = .ok (.iload_n 1, 1) := by decide +kernel
theorem dX1_tell_1 : decode cX1_tell 1 = .ok (.iload_n 2, 1) := by decide +kernel
theorem dX1_tell_2 : decode cX1_tell 2 = .ok (.invokestatic 88, 3) := by decide +kernel
theorem dX1_tell_5 : decode cX1_tell 5 = .ok (.ifCond .ne 4, 3) := by decide +kernel
theorem dX1_tell_8 : decode cX1_tell 8 = .ok (.return_, 1) := by decide +kernel
theorem dX1_tell_9 : decode cX1_tell 9 = .ok (.iload_n 2, 1) := by decide +kernel
theorem dX1_tell_10 : decode cX1_tell 10 = .ok (.bipush 8, 2) := by decide +kernel
theorem dX1_tell_12 : decode cX1_tell 12 = .ok (.imul, 1) := by decide +kernel
theorem dX1_tell_13 : decode cX1_tell 13 = .ok (.iload_n 1, 1) := by decide +kernel
theorem dX1_tell_14 : decode cX1_tell 14 = .ok (.iadd, 1) := by decide +kernel
theorem dX1_tell_15 : decode cX1_tell 15 = .ok (.istore 4, 2) := by decide +kernel
theorem dX1_tell_17 : decode cX1_tell 17 = .ok (.aload_n 0, 1) := by decide +kernel
theorem dX1_tell_18 : decode cX1_tell 18 = .ok (.getfield 31, 3) := by decide +kernel
theorem dX1_tell_21 : decode cX1_tell 21 = .ok (.iload 4, 2) := by decide +kernel
theorem dX1_tell_23 : decode cX1_tell 23 = .ok (.iaload, 1) := by decide +kernel
theorem dX1_tell_24 : decode cX1_tell 24 = .ok (.iload_n 3, 1) := by decide +kernel
theorem dX1_tell_25 : decode cX1_tell 25 = .ok (.if_icmp .ge 11, 3) := by decide +kernel
theorem dX1_tell_28 : decode cX1_tell 28 = .ok (.aload_n 0, 1) := by decide +kernel
theorem dX1_tell_29 : decode cX1_tell 29 = .ok (.getfield 31, 3) := by decide +kernel
theorem dX1_tell_32 : decode cX1_tell 32 = .ok (.iload 4, 2) := by decide +kernel
theorem dX1_tell_34 : decode cX1_tell 34 = .ok (.iload_n 3, 1) := by decide +kernel
theorem dX1_tell_35 : decode cX1_tell 35 = .ok (.iastore, 1) := by decide +kernel
theorem dX1_tell_36 : decode cX1_tell 36 = .ok (.return_, 1) := by decide +kernel
theorem dX1_carry_0 : decode cX1_carry 0 = .ok (.aload_n 0, 1) := by decide +kernel
theorem dX1_carry_1 : decode cX1_carry 1 = .ok (.getfield 31, 3) := by decide +kernel
theorem dX1_carry_4 : decode cX1_carry 4 = .ok (.iconst 0, 1) := by decide +kernel
theorem dX1_carry_5 : decode cX1_carry 5 = .ok (.invokestatic 57, 3) := by decide +kernel
theorem dX1_carry_8 : decode cX1_carry 8 = .ok (.iconst 0, 1) := by decide +kernel
theorem dX1_carry_9 : decode cX1_carry 9 = .ok (.istore_n 1, 1) := by decide +kernel
theorem dX1_carry_10 : decode cX1_carry 10 = .ok (.iload_n 1, 1) := by decide +kernel
theorem dX1_carry_11 : decode cX1_carry 11 = .ok (.bipush 48, 2) := by decide +kernel
theorem dX1_carry_13 : decode cX1_carry 13 = .ok (.if_icmp .ge 88, 3) := by decide +kernel
theorem dX1_carry_16 : decode cX1_carry 16 = .ok (.aload_n 0, 1) := by decide +kernel
theorem dX1_carry_17 : decode cX1_carry 17 = .ok (.getfield 18, 3) := by decide +kernel
theorem dX1_carry_20 : decode cX1_carry 20 = .ok (.iload_n 1, 1) := by decide +kernel
theorem dX1_carry_21 : decode cX1_carry 21 = .ok (.iaload, 1) := by decide +kernel
theorem dX1_carry_22 : decode cX1_carry 22 = .ok (.iconst 4, 1) := by decide +kernel
theorem dX1_carry_23 : decode cX1_carry 23 = .ok (.idiv, 1) := by decide +kernel
theorem dX1_carry_24 : decode cX1_carry 24 = .ok (.istore_n 2, 1) := by decide +kernel
theorem dX1_carry_25 : decode cX1_carry 25 = .ok (.iload_n 1, 1) := by decide +kernel
theorem dX1_carry_26 : decode cX1_carry 26 = .ok (.bipush 8, 2) := by decide +kernel
theorem dX1_carry_28 : decode cX1_carry 28 = .ok (.irem, 1) := by decide +kernel
theorem dX1_carry_29 : decode cX1_carry 29 = .ok (.aload_n 0, 1) := by decide +kernel
theorem dX1_carry_30 : decode cX1_carry 30 = .ok (.getfield 34, 3) := by decide +kernel
theorem dX1_carry_33 : decode cX1_carry 33 = .ok (.iadd, 1) := by decide +kernel
theorem dX1_carry_34 : decode cX1_carry 34 = .ok (.istore_n 3, 1) := by decide +kernel
theorem dX1_carry_35 : decode cX1_carry 35 = .ok (.iload_n 1, 1) := by decide +kernel
theorem dX1_carry_36 : decode cX1_carry 36 = .ok (.bipush 8, 2) := by decide +kernel
theorem dX1_carry_38 : decode cX1_carry 38 = .ok (.idiv, 1) := by decide +kernel
theorem dX1_carry_39 : decode cX1_carry 39 = .ok (.aload_n 0, 1) := by decide +kernel
theorem dX1_carry_40 : decode cX1_carry 40 = .ok (.getfield 38, 3) := by decide +kernel
theorem dX1_carry_43 : decode cX1_carry 43 = .ok (.iadd, 1) := by decide +kernel
theorem dX1_carry_44 : decode cX1_carry 44 = .ok (.istore 4, 2) := by decide +kernel
theorem dX1_carry_46 : decode cX1_carry 46 = .ok (.aload_n 0, 1) := by decide +kernel
theorem dX1_carry_47 : decode cX1_carry 47 = .ok (.getfield 18, 3) := by decide +kernel
theorem dX1_carry_50 : decode cX1_carry 50 = .ok (.iload_n 1, 1) := by decide +kernel
theorem dX1_carry_51 : decode cX1_carry 51 = .ok (.dup2, 1) := by decide +kernel
theorem dX1_carry_52 : decode cX1_carry 52 = .ok (.iaload, 1) := by decide +kernel
theorem dX1_carry_53 : decode cX1_carry 53 = .ok (.iload_n 2, 1) := by decide +kernel
theorem dX1_carry_54 : decode cX1_carry 54 = .ok (.isub, 1) := by decide +kernel
theorem dX1_carry_55 : decode cX1_carry 55 = .ok (.iastore, 1) := by decide +kernel
theorem dX1_carry_56 : decode cX1_carry 56 = .ok (.iload_n 3, 1) := by decide +kernel
theorem dX1_carry_57 : decode cX1_carry 57 = .ok (.iload 4, 2) := by decide +kernel
theorem dX1_carry_59 : decode cX1_carry 59 = .ok (.invokestatic 88, 3) := by decide +kernel
theorem dX1_carry_62 : decode cX1_carry 62 = .ok (.ifCond .eq 22, 3) := by decide +kernel
theorem dX1_carry_65 : decode cX1_carry 65 = .ok (.aload_n 0, 1) := by decide +kernel
theorem dX1_carry_66 : decode cX1_carry 66 = .ok (.getfield 31, 3) := by decide +kernel
theorem dX1_carry_69 : decode cX1_carry 69 = .ok (.iload 4, 2) := by decide +kernel
theorem dX1_carry_71 : decode cX1_carry 71 = .ok (.bipush 8, 2) := by decide +kernel
theorem dX1_carry_73 : decode cX1_carry 73 = .ok (.imul, 1) := by decide +kernel
theorem dX1_carry_74 : decode cX1_carry 74 = .ok (.iload_n 3, 1) := by decide +kernel
theorem dX1_carry_75 : decode cX1_carry 75 = .ok (.iadd, 1) := by decide +kernel
theorem dX1_carry_76 : decode cX1_carry 76 = .ok (.dup2, 1) := by decide +kernel
theorem dX1_carry_77 : decode cX1_carry 77 = .ok (.iaload, 1) := by decide +kernel
theorem dX1_carry_78 : decode cX1_carry 78 = .ok (.iload_n 2, 1) := by decide +kernel
theorem dX1_carry_79 : decode cX1_carry 79 = .ok (.iadd, 1) := by decide +kernel
theorem dX1_carry_80 : decode cX1_carry 80 = .ok (.iastore, 1) := by decide +kernel
theorem dX1_carry_81 : decode cX1_carry 81 = .ok (.goto 14, 3) := by decide +kernel
theorem dX1_carry_84 : decode cX1_carry 84 = .ok (.aload_n 0, 1) := by decide +kernel
theorem dX1_carry_85 : decode cX1_carry 85 = .ok (.dup, 1) := by decide +kernel
theorem dX1_carry_86 : decode cX1_carry 86 = .ok (.getfield 51, 3) := by decide +kernel
theorem dX1_carry_89 : decode cX1_carry 89 = .ok (.iload_n 2, 1) := by decide +kernel
theorem dX1_carry_90 : decode cX1_carry 90 = .ok (.i2l, 1) := by decide +kernel
theorem dX1_carry_91 : decode cX1_carry 91 = .ok (.ladd, 1) := by decide +kernel
theorem dX1_carry_92 : decode cX1_carry 92 = .ok (.putfield 51, 3) := by decide +kernel
theorem dX1_carry_95 : decode cX1_carry 95 = .ok (.iinc 1 1, 3) := by decide +kernel
theorem dX1_carry_98 : decode cX1_carry 98 = .ok (.goto (-88), 3) := by decide +kernel
theorem dX1_carry_101 : decode cX1_carry 101 = .ok (.iconst 0, 1) := by decide +kernel
theorem dX1_carry_102 : decode cX1_carry 102 = .ok (.istore_n 1, 1) := by decide +kernel
theorem dX1_carry_103 : decode cX1_carry 103 = .ok (.iload_n 1, 1) := by decide +kernel
theorem dX1_carry_104 : decode cX1_carry 104 = .ok (.bipush 48, 2) := by decide +kernel
theorem dX1_carry_106 : decode cX1_carry 106 = .ok (.if_icmp .ge 24, 3) := by decide +kernel
theorem dX1_carry_109 : decode cX1_carry 109 = .ok (.aload_n 0, 1) := by decide +kernel
theorem dX1_carry_110 : decode cX1_carry 110 = .ok (.getfield 18, 3) := by decide +kernel
theorem dX1_carry_113 : decode cX1_carry 113 = .ok (.iload_n 1, 1) := by decide +kernel
theorem dX1_carry_114 : decode cX1_carry 114 = .ok (.dup2, 1) := by decide +kernel
theorem dX1_carry_115 : decode cX1_carry 115 = .ok (.iaload, 1) := by decide +kernel
theorem dX1_carry_116 : decode cX1_carry 116 = .ok (.aload_n 0, 1) := by decide +kernel
theorem dX1_carry_117 : decode cX1_carry 117 = .ok (.getfield 31, 3) := by decide +kernel
theorem dX1_carry_120 : decode cX1_carry 120 = .ok (.iload_n 1, 1) := by decide +kernel
theorem dX1_carry_121 : decode cX1_carry 121 = .ok (.iaload, 1) := by decide +kernel
theorem dX1_carry_122 : decode cX1_carry 122 = .ok (.iadd, 1) := by decide +kernel
theorem dX1_carry_123 : decode cX1_carry 123 = .ok (.iastore, 1) := by decide +kernel
theorem dX1_carry_124 : decode cX1_carry 124 = .ok (.iinc 1 1, 3) := by decide +kernel
theorem dX1_carry_127 : decode cX1_carry 127 = .ok (.goto (-24), 3) := by decide +kernel
theorem dX1_carry_130 : decode cX1_carry 130 = .ok (.return_, 1) := by decide +kernel
theorem dX1_settle_0 : decode cX1_settle 0 = .ok (.iconst 0, 1) := by decide +kernel
theorem dX1_settle_1 : decode cX1_settle 1 = .ok (.istore_n 1, 1) := by decide +kernel
theorem dX1_settle_2 : decode cX1_settle 2 = .ok (.iload_n 1, 1) := by decide +kernel
theorem dX1_settle_3 : decode cX1_settle 3 = .ok (.bipush 48, 2) := by decide +kernel
theorem dX1_settle_5 : decode cX1_settle 5 = .ok (.if_icmp .ge 47, 3) := by decide +kernel
theorem dX1_settle_8 : decode cX1_settle 8 = .ok (.aload_n 0, 1) := by decide +kernel
theorem dX1_settle_9 : decode cX1_settle 9 = .ok (.getfield 18, 3) := by decide +kernel
theorem dX1_settle_12 : decode cX1_settle 12 = .ok (.iload_n 1, 1) := by decide +kernel
theorem dX1_settle_13 : decode cX1_settle 13 = .ok (.iaload, 1) := by decide +kernel
theorem dX1_settle_14 : decode cX1_settle 14 = .ok (.aload_n 0, 1) := by decide +kernel
theorem dX1_settle_15 : decode cX1_settle 15 = .ok (.getfield 44, 3) := by decide +kernel
theorem dX1_settle_18 : decode cX1_settle 18 = .ok (.iconst 1, 1) := by decide +kernel
theorem dX1_settle_19 : decode cX1_settle 19 = .ok (.iadd, 1) := by decide +kernel
theorem dX1_settle_20 : decode cX1_settle 20 = .ok (.imul, 1) := by decide +kernel
theorem dX1_settle_21 : decode cX1_settle 21 = .ok (.bipush 20, 2) := by decide +kernel
theorem dX1_settle_23 : decode cX1_settle 23 = .ok (.idiv, 1) := by decide +kernel
theorem dX1_settle_24 : decode cX1_settle 24 = .ok (.istore_n 2, 1) := by decide +kernel
theorem dX1_settle_25 : decode cX1_settle 25 = .ok (.aload_n 0, 1) := by decide +kernel
theorem dX1_settle_26 : decode cX1_settle 26 = .ok (.getfield 18, 3) := by decide +kernel
theorem dX1_settle_29 : decode cX1_settle 29 = .ok (.iload_n 1, 1) := by decide +kernel
theorem dX1_settle_30 : decode cX1_settle 30 = .ok (.dup2, 1) := by decide +kernel
theorem dX1_settle_31 : decode cX1_settle 31 = .ok (.iaload, 1) := by decide +kernel
theorem dX1_settle_32 : decode cX1_settle 32 = .ok (.iload_n 2, 1) := by decide +kernel
theorem dX1_settle_33 : decode cX1_settle 33 = .ok (.isub, 1) := by decide +kernel
theorem dX1_settle_34 : decode cX1_settle 34 = .ok (.iastore, 1) := by decide +kernel
theorem dX1_settle_35 : decode cX1_settle 35 = .ok (.aload_n 0, 1) := by decide +kernel
theorem dX1_settle_36 : decode cX1_settle 36 = .ok (.dup, 1) := by decide +kernel
theorem dX1_settle_37 : decode cX1_settle 37 = .ok (.getfield 54, 3) := by decide +kernel
theorem dX1_settle_40 : decode cX1_settle 40 = .ok (.iload_n 2, 1) := by decide +kernel
theorem dX1_settle_41 : decode cX1_settle 41 = .ok (.i2l, 1) := by decide +kernel
theorem dX1_settle_42 : decode cX1_settle 42 = .ok (.ladd, 1) := by decide +kernel
theorem dX1_settle_43 : decode cX1_settle 43 = .ok (.putfield 54, 3) := by decide +kernel
theorem dX1_settle_46 : decode cX1_settle 46 = .ok (.iinc 1 1, 3) := by decide +kernel
theorem dX1_settle_49 : decode cX1_settle 49 = .ok (.goto (-47), 3) := by decide +kernel
theorem dX1_settle_52 : decode cX1_settle 52 = .ok (.return_, 1) := by decide +kernel
theorem dX2_init_0 : decode cX2_init 0 = .ok (.aload_n 0, 1) := by decide +kernel
theorem dX2_init_1 : decode cX2_init 1 = .ok (.invokespecial 3, 3) := by decide +kernel
theorem dX2_init_4 : decode cX2_init 4 = .ok (.aload_n 0, 1) := by decide +kernel
theorem dX2_init_5 : decode cX2_init 5 = .ok (.new 9, 3) := by decide +kernel
theorem dX2_init_8 : decode cX2_init 8 = .ok (.dup, 1) := by decide +kernel
theorem dX2_init_9 : decode cX2_init 9 = .ok (.invokespecial 11, 3) := by decide +kernel
theorem dX2_init_12 : decode cX2_init 12 = .ok (.putfield 12, 3) := by decide +kernel
theorem dX2_init_15 : decode cX2_init 15 = .ok (.aload_n 0, 1) := by decide +kernel
theorem dX2_init_16 : decode cX2_init 16 = .ok (.bipush 48, 2) := by decide +kernel
theorem dX2_init_18 : decode cX2_init 18 = .ok (.newarray .int, 2) := by decide +kernel
theorem dX2_init_20 : decode cX2_init 20 = .ok (.putfield 18, 3) := by decide +kernel
theorem dX2_init_23 : decode cX2_init 23 = .ok (.return_, 1) := by decide +kernel
theorem dX2_look_0 : decode cX2_look 0 = .ok (.aload_n 0, 1) := by decide +kernel
theorem dX2_look_1 : decode cX2_look 1 = .ok (.getfield 12, 3) := by decide +kernel
theorem dX2_look_4 : decode cX2_look 4 = .ok (.aload_n 1, 1) := by decide +kernel
theorem dX2_look_5 : decode cX2_look 5 = .ok (.invokevirtual 22, 3) := by decide +kernel
theorem dX2_look_8 : decode cX2_look 8 = .ok (.aload_n 0, 1) := by decide +kernel
theorem dX2_look_9 : decode cX2_look 9 = .ok (.getfield 18, 3) := by decide +kernel
theorem dX2_look_12 : decode cX2_look 12 = .ok (.iconst 0, 1) := by decide +kernel
theorem dX2_look_13 : decode cX2_look 13 = .ok (.invokestatic 26, 3) := by decide +kernel
theorem dX2_look_16 : decode cX2_look 16 = .ok (.iconst 0, 1) := by decide +kernel
theorem dX2_look_17 : decode cX2_look 17 = .ok (.istore_n 3, 1) := by decide +kernel
theorem dX2_look_18 : decode cX2_look 18 = .ok (.iload_n 3, 1) := by decide +kernel
theorem dX2_look_19 : decode cX2_look 19 = .ok (.iload_n 2, 1) := by decide +kernel
theorem dX2_look_20 : decode cX2_look 20 = .ok (.if_icmp .ge 69, 3) := by decide +kernel
theorem dX2_look_23 : decode cX2_look 23 = .ok (.aload_n 0, 1) := by decide +kernel
theorem dX2_look_24 : decode cX2_look 24 = .ok (.getfield 12, 3) := by decide +kernel
theorem dX2_look_27 : decode cX2_look 27 = .ok (.invokevirtual 32, 3) := by decide +kernel
theorem dX2_look_30 : decode cX2_look 30 = .ok (.iconst 0, 1) := by decide +kernel
theorem dX2_look_31 : decode cX2_look 31 = .ok (.istore 4, 2) := by decide +kernel
theorem dX2_look_33 : decode cX2_look 33 = .ok (.iload 4, 2) := by decide +kernel
theorem dX2_look_35 : decode cX2_look 35 = .ok (.bipush 48, 2) := by decide +kernel
theorem dX2_look_37 : decode cX2_look 37 = .ok (.if_icmp .ge 46, 3) := by decide +kernel
theorem dX2_look_40 : decode cX2_look 40 = .ok (.aload_n 0, 1) := by decide +kernel
theorem dX2_look_41 : decode cX2_look 41 = .ok (.getfield 18, 3) := by decide +kernel
theorem dX2_look_44 : decode cX2_look 44 = .ok (.iload 4, 2) := by decide +kernel
theorem dX2_look_46 : decode cX2_look 46 = .ok (.iaload, 1) := by decide +kernel
theorem dX2_look_47 : decode cX2_look 47 = .ok (.aload_n 0, 1) := by decide +kernel
theorem dX2_look_48 : decode cX2_look 48 = .ok (.getfield 12, 3) := by decide +kernel
theorem dX2_look_51 : decode cX2_look 51 = .ok (.getfield 35, 3) := by decide +kernel
theorem dX2_look_54 : decode cX2_look 54 = .ok (.iload 4, 2) := by decide +kernel
theorem dX2_look_56 : decode cX2_look 56 = .ok (.iaload, 1) := by decide +kernel
theorem dX2_look_57 : decode cX2_look 57 = .ok (.if_icmp .ge 20, 3) := by decide +kernel
theorem dX2_look_60 : decode cX2_look 60 = .ok (.aload_n 0, 1) := by decide +kernel
theorem dX2_look_61 : decode cX2_look 61 = .ok (.getfield 18, 3) := by decide +kernel
theorem dX2_look_64 : decode cX2_look 64 = .ok (.iload 4, 2) := by decide +kernel
theorem dX2_look_66 : decode cX2_look 66 = .ok (.aload_n 0, 1) := by decide +kernel
theorem dX2_look_67 : decode cX2_look 67 = .ok (.getfield 12, 3) := by decide +kernel
theorem dX2_look_70 : decode cX2_look 70 = .ok (.getfield 35, 3) := by decide +kernel
theorem dX2_look_73 : decode cX2_look 73 = .ok (.iload 4, 2) := by decide +kernel
theorem dX2_look_75 : decode cX2_look 75 = .ok (.iaload, 1) := by decide +kernel
theorem dX2_look_76 : decode cX2_look 76 = .ok (.iastore, 1) := by decide +kernel
theorem dX2_look_77 : decode cX2_look 77 = .ok (.iinc 4 1, 3) := by decide +kernel
theorem dX2_look_80 : decode cX2_look 80 = .ok (.goto (-47), 3) := by decide +kernel
theorem dX2_look_83 : decode cX2_look 83 = .ok (.iinc 3 1, 3) := by decide +kernel
theorem dX2_look_86 : decode cX2_look 86 = .ok (.goto (-68), 3) := by decide +kernel
theorem dX2_look_89 : decode cX2_look 89 = .ok (.return_, 1) := by decide +kernel
theorem dX3_init_0 : decode cX3_init 0 = .ok (.aload_n 0, 1) := by decide +kernel
theorem dX3_init_1 : decode cX3_init 1 = .ok (.invokespecial 3, 3) := by decide +kernel
theorem dX3_init_4 : decode cX3_init 4 = .ok (.aload_n 0, 1) := by decide +kernel
theorem dX3_init_5 : decode cX3_init 5 = .ok (.bipush 6, 2) := by decide +kernel
theorem dX3_init_7 : decode cX3_init 7 = .ok (.newarray .boolean, 2) := by decide +kernel
theorem dX3_init_9 : decode cX3_init 9 = .ok (.putfield 9, 3) := by decide +kernel
theorem dX3_init_12 : decode cX3_init 12 = .ok (.aload_n 0, 1) := by decide +kernel
theorem dX3_init_13 : decode cX3_init 13 = .ok (.bipush 6, 2) := by decide +kernel
theorem dX3_init_15 : decode cX3_init 15 = .ok (.newarray .int, 2) := by decide +kernel
theorem dX3_init_17 : decode cX3_init 17 = .ok (.putfield 15, 3) := by decide +kernel
theorem dX3_init_20 : decode cX3_init 20 = .ok (.aload_n 0, 1) := by decide +kernel
theorem dX3_init_21 : decode cX3_init 21 = .ok (.bipush 6, 2) := by decide +kernel
theorem dX3_init_23 : decode cX3_init 23 = .ok (.newarray .int, 2) := by decide +kernel
theorem dX3_init_25 : decode cX3_init 25 = .ok (.putfield 19, 3) := by decide +kernel
theorem dX3_init_28 : decode cX3_init 28 = .ok (.aload_n 0, 1) := by decide +kernel
theorem dX3_init_29 : decode cX3_init 29 = .ok (.iconst 0, 1) := by decide +kernel
theorem dX3_init_30 : decode cX3_init 30 = .ok (.putfield 22, 3) := by decide +kernel
theorem dX3_init_33 : decode cX3_init 33 = .ok (.aload_n 0, 1) := by decide +kernel
theorem dX3_init_34 : decode cX3_init 34 = .ok (.iconst 0, 1) := by decide +kernel
theorem dX3_init_35 : decode cX3_init 35 = .ok (.putfield 26, 3) := by decide +kernel
theorem dX3_init_38 : decode cX3_init 38 = .ok (.return_, 1) := by decide +kernel
theorem dX3_enter_0 : decode cX3_enter 0 = .ok (.aload_n 0, 1) := by decide +kernel
theorem dX3_enter_1 : decode cX3_enter 1 = .ok (.getfield 22, 3) := by decide +kernel
theorem dX3_enter_4 : decode cX3_enter 4 = .ok (.istore_n 3, 1) := by decide +kernel
theorem dX3_enter_5 : decode cX3_enter 5 = .ok (.aload_n 0, 1) := by decide +kernel
theorem dX3_enter_6 : decode cX3_enter 6 = .ok (.getfield 15, 3) := by decide +kernel
theorem dX3_enter_9 : decode cX3_enter 9 = .ok (.iload_n 3, 1) := by decide +kernel
theorem dX3_enter_10 : decode cX3_enter 10 = .ok (.iload_n 1, 1) := by decide +kernel
theorem dX3_enter_11 : decode cX3_enter 11 = .ok (.iastore, 1) := by decide +kernel
theorem dX3_enter_12 : decode cX3_enter 12 = .ok (.aload_n 0, 1) := by decide +kernel
theorem dX3_enter_13 : decode cX3_enter 13 = .ok (.getfield 19, 3) := by decide +kernel
theorem dX3_enter_16 : decode cX3_enter 16 = .ok (.iload_n 3, 1) := by decide +kernel
theorem dX3_enter_17 : decode cX3_enter 17 = .ok (.iload_n 2, 1) := by decide +kernel
theorem dX3_enter_18 : decode cX3_enter 18 = .ok (.iastore, 1) := by decide +kernel
theorem dX3_enter_19 : decode cX3_enter 19 = .ok (.aload_n 0, 1) := by decide +kernel
theorem dX3_enter_20 : decode cX3_enter 20 = .ok (.getfield 9, 3) := by decide +kernel
theorem dX3_enter_23 : decode cX3_enter 23 = .ok (.iload_n 3, 1) := by decide +kernel
theorem dX3_enter_24 : decode cX3_enter 24 = .ok (.iconst 1, 1) := by decide +kernel
theorem dX3_enter_25 : decode cX3_enter 25 = .ok (.bastore, 1) := by decide +kernel
theorem dX3_enter_26 : decode cX3_enter 26 = .ok (.aload_n 0, 1) := by decide +kernel
theorem dX3_enter_27 : decode cX3_enter 27 = .ok (.dup, 1) := by decide +kernel
theorem dX3_enter_28 : decode cX3_enter 28 = .ok (.getfield 22, 3) := by decide +kernel
theorem dX3_enter_31 : decode cX3_enter 31 = .ok (.iconst 1, 1) := by decide +kernel
theorem dX3_enter_32 : decode cX3_enter 32 = .ok (.iadd, 1) := by decide +kernel
theorem dX3_enter_33 : decode cX3_enter 33 = .ok (.putfield 22, 3) := by decide +kernel
theorem dX3_enter_36 : decode cX3_enter 36 = .ok (.iload_n 3, 1) := by decide +kernel
theorem dX3_enter_37 : decode cX3_enter 37 = .ok (.ireturn, 1) := by decide +kernel
theorem dX3_decide_0 : decode cX3_decide 0 = .ok (.iconst 0, 1) := by decide +kernel
theorem dX3_decide_1 : decode cX3_decide 1 = .ok (.istore_n 2, 1) := by decide +kernel
theorem dX3_decide_2 : decode cX3_decide 2 = .ok (.iload_n 2, 1) := by decide +kernel
theorem dX3_decide_3 : decode cX3_decide 3 = .ok (.aload_n 0, 1) := by decide +kernel
theorem dX3_decide_4 : decode cX3_decide 4 = .ok (.getfield 22, 3) := by decide +kernel
theorem dX3_decide_7 : decode cX3_decide 7 = .ok (.if_icmp .ge 65, 3) := by decide +kernel
theorem dX3_decide_10 : decode cX3_decide 10 = .ok (.aload_n 1, 1) := by decide +kernel
theorem dX3_decide_11 : decode cX3_decide 11 = .ok (.getfield 29, 3) := by decide +kernel
theorem dX3_decide_14 : decode cX3_decide 14 = .ok (.aload_n 0, 1) := by decide +kernel
theorem dX3_decide_15 : decode cX3_decide 15 = .ok (.getfield 15, 3) := by decide +kernel
theorem dX3_decide_18 : decode cX3_decide 18 = .ok (.iload_n 2, 1) := by decide +kernel
theorem dX3_decide_19 : decode cX3_decide 19 = .ok (.iaload, 1) := by decide +kernel
theorem dX3_decide_20 : decode cX3_decide 20 = .ok (.iaload, 1) := by decide +kernel
theorem dX3_decide_21 : decode cX3_decide 21 = .ok (.aload_n 0, 1) := by decide +kernel
theorem dX3_decide_22 : decode cX3_decide 22 = .ok (.getfield 19, 3) := by decide +kernel
theorem dX3_decide_25 : decode cX3_decide 25 = .ok (.iload_n 2, 1) := by decide +kernel
theorem dX3_decide_26 : decode cX3_decide 26 = .ok (.iaload, 1) := by decide +kernel
theorem dX3_decide_27 : decode cX3_decide 27 = .ok (.if_icmp .ge 7, 3) := by decide +kernel
theorem dX3_decide_30 : decode cX3_decide 30 = .ok (.iconst 1, 1) := by decide +kernel
theorem dX3_decide_31 : decode cX3_decide 31 = .ok (.goto 4, 3) := by decide +kernel
theorem dX3_decide_34 : decode cX3_decide 34 = .ok (.iconst 0, 1) := by decide +kernel
theorem dX3_decide_35 : decode cX3_decide 35 = .ok (.istore_n 3, 1) := by decide +kernel
theorem dX3_decide_36 : decode cX3_decide 36 = .ok (.aload_n 0, 1) := by decide +kernel
theorem dX3_decide_37 : decode cX3_decide 37 = .ok (.getfield 9, 3) := by decide +kernel
theorem dX3_decide_40 : decode cX3_decide 40 = .ok (.iload_n 2, 1) := by decide +kernel
theorem dX3_decide_41 : decode cX3_decide 41 = .ok (.baload, 1) := by decide +kernel
theorem dX3_decide_42 : decode cX3_decide 42 = .ok (.ifCond .eq 17, 3) := by decide +kernel
theorem dX3_decide_45 : decode cX3_decide 45 = .ok (.iload_n 3, 1) := by decide +kernel
theorem dX3_decide_46 : decode cX3_decide 46 = .ok (.ifCond .ne 13, 3) := by decide +kernel
theorem dX3_decide_49 : decode cX3_decide 49 = .ok (.aload_n 0, 1) := by decide +kernel
theorem dX3_decide_50 : decode cX3_decide 50 = .ok (.dup, 1) := by decide +kernel
theorem dX3_decide_51 : decode cX3_decide 51 = .ok (.getfield 26, 3) := by decide +kernel
theorem dX3_decide_54 : decode cX3_decide 54 = .ok (.iconst 1, 1) := by decide +kernel
theorem dX3_decide_55 : decode cX3_decide 55 = .ok (.iadd, 1) := by decide +kernel
theorem dX3_decide_56 : decode cX3_decide 56 = .ok (.putfield 26, 3) := by decide +kernel
theorem dX3_decide_59 : decode cX3_decide 59 = .ok (.aload_n 0, 1) := by decide +kernel
theorem dX3_decide_60 : decode cX3_decide 60 = .ok (.getfield 9, 3) := by decide +kernel
theorem dX3_decide_63 : decode cX3_decide 63 = .ok (.iload_n 2, 1) := by decide +kernel
theorem dX3_decide_64 : decode cX3_decide 64 = .ok (.iload_n 3, 1) := by decide +kernel
theorem dX3_decide_65 : decode cX3_decide 65 = .ok (.bastore, 1) := by decide +kernel
theorem dX3_decide_66 : decode cX3_decide 66 = .ok (.iinc 2 1, 3) := by decide +kernel
theorem dX3_decide_69 : decode cX3_decide 69 = .ok (.goto (-67), 3) := by decide +kernel
theorem dX3_decide_72 : decode cX3_decide 72 = .ok (.return_, 1) := by decide +kernel
theorem dX4_init_0 : decode cX4_init 0 = .ok (.aload_n 0, 1) := by decide +kernel
theorem dX4_init_1 : decode cX4_init 1 = .ok (.invokespecial 3, 3) := by decide +kernel
theorem dX4_init_4 : decode cX4_init 4 = .ok (.aload_n 0, 1) := by decide +kernel
theorem dX4_init_5 : decode cX4_init 5 = .ok (.bipush 10, 2) := by decide +kernel
theorem dX4_init_7 : decode cX4_init 7 = .ok (.newarray .int, 2) := by decide +kernel
theorem dX4_init_9 : decode cX4_init 9 = .ok (.putfield 9, 3) := by decide +kernel
theorem dX4_init_12 : decode cX4_init 12 = .ok (.aload_n 0, 1) := by decide +kernel
theorem dX4_init_13 : decode cX4_init 13 = .ok (.bipush 10, 2) := by decide +kernel
theorem dX4_init_15 : decode cX4_init 15 = .ok (.newarray .int, 2) := by decide +kernel
theorem dX4_init_17 : decode cX4_init 17 = .ok (.putfield 15, 3) := by decide +kernel
theorem dX4_init_20 : decode cX4_init 20 = .ok (.aload_n 0, 1) := by decide +kernel
theorem dX4_init_21 : decode cX4_init 21 = .ok (.bipush 10, 2) := by decide +kernel
theorem dX4_init_23 : decode cX4_init 23 = .ok (.newarray .boolean, 2) := by decide +kernel
theorem dX4_init_25 : decode cX4_init 25 = .ok (.putfield 18, 3) := by decide +kernel
theorem dX4_init_28 : decode cX4_init 28 = .ok (.aload_n 0, 1) := by decide +kernel
theorem dX4_init_29 : decode cX4_init 29 = .ok (.bipush 10, 2) := by decide +kernel
theorem dX4_init_31 : decode cX4_init 31 = .ok (.newarray .int, 2) := by decide +kernel
theorem dX4_init_33 : decode cX4_init 33 = .ok (.putfield 22, 3) := by decide +kernel
theorem dX4_init_36 : decode cX4_init 36 = .ok (.aload_n 0, 1) := by decide +kernel
theorem dX4_init_37 : decode cX4_init 37 = .ok (.bipush 10, 2) := by decide +kernel
theorem dX4_init_39 : decode cX4_init 39 = .ok (.newarray .boolean, 2) := by decide +kernel
theorem dX4_init_41 : decode cX4_init 41 = .ok (.putfield 25, 3) := by decide +kernel
theorem dX4_init_44 : decode cX4_init 44 = .ok (.aload_n 0, 1) := by decide +kernel
theorem dX4_init_45 : decode cX4_init 45 = .ok (.bipush 10, 2) := by decide +kernel
theorem dX4_init_47 : decode cX4_init 47 = .ok (.newarray .int, 2) := by decide +kernel
theorem dX4_init_49 : decode cX4_init 49 = .ok (.putfield 28, 3) := by decide +kernel
theorem dX4_init_52 : decode cX4_init 52 = .ok (.aload_n 0, 1) := by decide +kernel
theorem dX4_init_53 : decode cX4_init 53 = .ok (.bipush 10, 2) := by decide +kernel
theorem dX4_init_55 : decode cX4_init 55 = .ok (.newarray .int, 2) := by decide +kernel
theorem dX4_init_57 : decode cX4_init 57 = .ok (.putfield 31, 3) := by decide +kernel
theorem dX4_init_60 : decode cX4_init 60 = .ok (.aload_n 0, 1) := by decide +kernel
theorem dX4_init_61 : decode cX4_init 61 = .ok (.bipush 10, 2) := by decide +kernel
theorem dX4_init_63 : decode cX4_init 63 = .ok (.newarray .int, 2) := by decide +kernel
theorem dX4_init_65 : decode cX4_init 65 = .ok (.putfield 34, 3) := by decide +kernel
theorem dX4_init_68 : decode cX4_init 68 = .ok (.aload_n 0, 1) := by decide +kernel
theorem dX4_init_69 : decode cX4_init 69 = .ok (.iconst 0, 1) := by decide +kernel
theorem dX4_init_70 : decode cX4_init 70 = .ok (.putfield 37, 3) := by decide +kernel
theorem dX4_init_73 : decode cX4_init 73 = .ok (.aload_n 0, 1) := by decide +kernel
theorem dX4_init_74 : decode cX4_init 74 = .ok (.lconst 0, 1) := by decide +kernel
theorem dX4_init_75 : decode cX4_init 75 = .ok (.putfield 41, 3) := by decide +kernel
theorem dX4_init_78 : decode cX4_init 78 = .ok (.return_, 1) := by decide +kernel
theorem dX4_enter_0 : decode cX4_enter 0 = .ok (.aload_n 0, 1) := by decide +kernel
theorem dX4_enter_1 : decode cX4_enter 1 = .ok (.getfield 37, 3) := by decide +kernel
theorem dX4_enter_4 : decode cX4_enter 4 = .ok (.istore_n 2, 1) := by decide +kernel
theorem dX4_enter_5 : decode cX4_enter 5 = .ok (.aload_n 0, 1) := by decide +kernel
theorem dX4_enter_6 : decode cX4_enter 6 = .ok (.getfield 15, 3) := by decide +kernel
theorem dX4_enter_9 : decode cX4_enter 9 = .ok (.iload_n 2, 1) := by decide +kernel
theorem dX4_enter_10 : decode cX4_enter 10 = .ok (.iload_n 1, 1) := by decide +kernel
theorem dX4_enter_11 : decode cX4_enter 11 = .ok (.iastore, 1) := by decide +kernel
theorem dX4_enter_12 : decode cX4_enter 12 = .ok (.aload_n 0, 1) := by decide +kernel
theorem dX4_enter_13 : decode cX4_enter 13 = .ok (.getfield 9, 3) := by decide +kernel
theorem dX4_enter_16 : decode cX4_enter 16 = .ok (.iload_n 2, 1) := by decide +kernel
theorem dX4_enter_17 : decode cX4_enter 17 = .ok (.bipush 50, 2) := by decide +kernel
theorem dX4_enter_19 : decode cX4_enter 19 = .ok (.iastore, 1) := by decide +kernel
theorem dX4_enter_20 : decode cX4_enter 20 = .ok (.aload_n 0, 1) := by decide +kernel
theorem dX4_enter_21 : decode cX4_enter 21 = .ok (.dup, 1) := by decide +kernel
theorem dX4_enter_22 : decode cX4_enter 22 = .ok (.getfield 37, 3) := by decide +kernel
theorem dX4_enter_25 : decode cX4_enter 25 = .ok (.iconst 1, 1) := by decide +kernel
theorem dX4_enter_26 : decode cX4_enter 26 = .ok (.iadd, 1) := by decide +kernel
theorem dX4_enter_27 : decode cX4_enter 27 = .ok (.putfield 37, 3) := by decide +kernel
theorem dX4_enter_30 : decode cX4_enter 30 = .ok (.iload_n 2, 1) := by decide +kernel
theorem dX4_enter_31 : decode cX4_enter 31 = .ok (.ireturn, 1) := by decide +kernel
theorem dX4_take_0 : decode cX4_take 0 = .ok (.aload_n 0, 1) := by decide +kernel
theorem dX4_take_1 : decode cX4_take 1 = .ok (.getfield 18, 3) := by decide +kernel
theorem dX4_take_4 : decode cX4_take 4 = .ok (.iload_n 1, 1) := by decide +kernel
theorem dX4_take_5 : decode cX4_take 5 = .ok (.iconst 1, 1) := by decide +kernel
theorem dX4_take_6 : decode cX4_take 6 = .ok (.bastore, 1) := by decide +kernel
theorem dX4_take_7 : decode cX4_take 7 = .ok (.aload_n 0, 1) := by decide +kernel
theorem dX4_take_8 : decode cX4_take 8 = .ok (.getfield 22, 3) := by decide +kernel
theorem dX4_take_11 : decode cX4_take 11 = .ok (.iload_n 1, 1) := by decide +kernel
theorem dX4_take_12 : decode cX4_take 12 = .ok (.iload_n 2, 1) := by decide +kernel
theorem dX4_take_13 : decode cX4_take 13 = .ok (.iastore, 1) := by decide +kernel
theorem dX4_take_14 : decode cX4_take 14 = .ok (.iconst 0, 1) := by decide +kernel
theorem dX4_take_15 : decode cX4_take 15 = .ok (.istore_n 3, 1) := by decide +kernel
theorem dX4_take_16 : decode cX4_take 16 = .ok (.iconst 0, 1) := by decide +kernel
theorem dX4_take_17 : decode cX4_take 17 = .ok (.istore 4, 2) := by decide +kernel
theorem dX4_take_19 : decode cX4_take 19 = .ok (.iload 4, 2) := by decide +kernel
theorem dX4_take_21 : decode cX4_take 21 = .ok (.aload_n 0, 1) := by decide +kernel
theorem dX4_take_22 : decode cX4_take 22 = .ok (.getfield 37, 3) := by decide +kernel
theorem dX4_take_25 : decode cX4_take 25 = .ok (.if_icmp .ge 22, 3) := by decide +kernel
theorem dX4_take_28 : decode cX4_take 28 = .ok (.aload_n 0, 1) := by decide +kernel
theorem dX4_take_29 : decode cX4_take 29 = .ok (.getfield 18, 3) := by decide +kernel
theorem dX4_take_32 : decode cX4_take 32 = .ok (.iload 4, 2) := by decide +kernel
theorem dX4_take_34 : decode cX4_take 34 = .ok (.baload, 1) := by decide +kernel
theorem dX4_take_35 : decode cX4_take 35 = .ok (.ifCond .eq 6, 3) := by decide +kernel
theorem dX4_take_38 : decode cX4_take 38 = .ok (.iinc 3 1, 3) := by decide +kernel
theorem dX4_take_41 : decode cX4_take 41 = .ok (.iinc 4 1, 3) := by decide +kernel
theorem dX4_take_44 : decode cX4_take 44 = .ok (.goto (-25), 3) := by decide +kernel
theorem dX4_take_47 : decode cX4_take 47 = .ok (.iload_n 3, 1) := by decide +kernel
theorem dX4_take_48 : decode cX4_take 48 = .ok (.ireturn, 1) := by decide +kernel
theorem dX4_forgetReadings_0 : decode cX4_forgetReadings 0 = .ok (.iconst 0, 1) := by decide +kernel
theorem dX4_forgetReadings_1 : decode cX4_forgetReadings 1 = .ok (.istore_n 1, 1) := by decide +kernel
theorem dX4_forgetReadings_2 : decode cX4_forgetReadings 2 = .ok (.iload_n 1, 1) := by decide +kernel
theorem dX4_forgetReadings_3 : decode cX4_forgetReadings 3 = .ok (.aload_n 0, 1) := by decide +kernel
theorem dX4_forgetReadings_4 : decode cX4_forgetReadings 4 = .ok (.getfield 37, 3) := by decide +kernel
theorem dX4_forgetReadings_7 : decode cX4_forgetReadings 7 = .ok (.if_icmp .ge 16, 3) := by decide +kernel
theorem dX4_forgetReadings_10 : decode cX4_forgetReadings 10 = .ok (.aload_n 0, 1) := by decide +kernel
theorem dX4_forgetReadings_11 : decode cX4_forgetReadings 11 = .ok (.getfield 18, 3) := by decide +kernel
theorem dX4_forgetReadings_14 : decode cX4_forgetReadings 14 = .ok (.iload_n 1, 1) := by decide +kernel
theorem dX4_forgetReadings_15 : decode cX4_forgetReadings 15 = .ok (.iconst 0, 1) := by decide +kernel
theorem dX4_forgetReadings_16 : decode cX4_forgetReadings 16 = .ok (.bastore, 1) := by decide +kernel
theorem dX4_forgetReadings_17 : decode cX4_forgetReadings 17 = .ok (.iinc 1 1, 3) := by decide +kernel
theorem dX4_forgetReadings_20 : decode cX4_forgetReadings 20 = .ok (.goto (-18), 3) := by decide +kernel
theorem dX4_forgetReadings_23 : decode cX4_forgetReadings 23 = .ok (.return_, 1) := by decide +kernel
theorem dX4_sign_0 : decode cX4_sign 0 = .ok (.aload_n 0, 1) := by decide +kernel
theorem dX4_sign_1 : decode cX4_sign 1 = .ok (.getfield 25, 3) := by decide +kernel
theorem dX4_sign_4 : decode cX4_sign 4 = .ok (.iload_n 1, 1) := by decide +kernel
theorem dX4_sign_5 : decode cX4_sign 5 = .ok (.baload, 1) := by decide +kernel
theorem dX4_sign_6 : decode cX4_sign 6 = .ok (.ifCond .eq 6, 3) := by decide +kernel
theorem dX4_sign_9 : decode cX4_sign 9 = .ok (.bipush 120, 2) := by decide +kernel
theorem dX4_sign_11 : decode cX4_sign 11 = .ok (.ireturn, 1) := by decide +kernel
theorem dX4_sign_12 : decode cX4_sign 12 = .ok (.aload_n 0, 1) := by decide +kernel
theorem dX4_sign_13 : decode cX4_sign 13 = .ok (.getfield 28, 3) := by decide +kernel
theorem dX4_sign_16 : decode cX4_sign 16 = .ok (.iload_n 1, 1) := by decide +kernel
theorem dX4_sign_17 : decode cX4_sign 17 = .ok (.iaload, 1) := by decide +kernel
theorem dX4_sign_18 : decode cX4_sign 18 = .ok (.ifCond .le 8, 3) := by decide +kernel
theorem dX4_sign_21 : decode cX4_sign 21 = .ok (.bipush 63, 2) := by decide +kernel
theorem dX4_sign_23 : decode cX4_sign 23 = .ok (.goto 5, 3) := by decide +kernel
theorem dX4_sign_26 : decode cX4_sign 26 = .ok (.bipush 43, 2) := by decide +kernel
theorem dX4_sign_28 : decode cX4_sign 28 = .ok (.ireturn, 1) := by decide +kernel
theorem dX4_counting_0 : decode cX4_counting 0 = .ok (.iconst 0, 1) := by decide +kernel
theorem dX4_counting_1 : decode cX4_counting 1 = .ok (.istore_n 1, 1) := by decide +kernel
theorem dX4_counting_2 : decode cX4_counting 2 = .ok (.iconst 0, 1) := by decide +kernel
theorem dX4_counting_3 : decode cX4_counting 3 = .ok (.istore_n 2, 1) := by decide +kernel
theorem dX4_counting_4 : decode cX4_counting 4 = .ok (.iload_n 2, 1) := by decide +kernel
theorem dX4_counting_5 : decode cX4_counting 5 = .ok (.aload_n 0, 1) := by decide +kernel
theorem dX4_counting_6 : decode cX4_counting 6 = .ok (.getfield 37, 3) := by decide +kernel
theorem dX4_counting_9 : decode cX4_counting 9 = .ok (.if_icmp .ge 21, 3) := by decide +kernel
theorem dX4_counting_12 : decode cX4_counting 12 = .ok (.aload_n 0, 1) := by decide +kernel
theorem dX4_counting_13 : decode cX4_counting 13 = .ok (.getfield 25, 3) := by decide +kernel
theorem dX4_counting_16 : decode cX4_counting 16 = .ok (.iload_n 2, 1) := by decide +kernel
theorem dX4_counting_17 : decode cX4_counting 17 = .ok (.baload, 1) := by decide +kernel
theorem dX4_counting_18 : decode cX4_counting 18 = .ok (.ifCond .ne 6, 3) := by decide +kernel
theorem dX4_counting_21 : decode cX4_counting 21 = .ok (.iinc 1 1, 3) := by decide +kernel
theorem dX4_counting_24 : decode cX4_counting 24 = .ok (.iinc 2 1, 3) := by decide +kernel
theorem dX4_counting_27 : decode cX4_counting 27 = .ok (.goto (-23), 3) := by decide +kernel
theorem dX4_counting_30 : decode cX4_counting 30 = .ok (.iload_n 1, 1) := by decide +kernel
theorem dX4_counting_31 : decode cX4_counting 31 = .ok (.ireturn, 1) := by decide +kernel
theorem dX4_meanAround_0 : decode cX4_meanAround 0 = .ok (.aload_n 0, 1) := by decide +kernel
theorem dX4_meanAround_1 : decode cX4_meanAround 1 = .ok (.getfield 18, 3) := by decide +kernel
theorem dX4_meanAround_4 : decode cX4_meanAround 4 = .ok (.iload_n 1, 1) := by decide +kernel
theorem dX4_meanAround_5 : decode cX4_meanAround 5 = .ok (.baload, 1) := by decide +kernel
theorem dX4_meanAround_6 : decode cX4_meanAround 6 = .ok (.ifCond .ne 5, 3) := by decide +kernel
theorem dX4_meanAround_9 : decode cX4_meanAround 9 = .ok (.iconst (-1), 1) := by decide +kernel
theorem dX4_meanAround_10 : decode cX4_meanAround 10 = .ok (.ireturn, 1) := by decide +kernel
theorem dX4_meanAround_11 : decode cX4_meanAround 11 = .ok (.iconst 0, 1) := by decide +kernel
theorem dX4_meanAround_12 : decode cX4_meanAround 12 = .ok (.istore_n 2, 1) := by decide +kernel
theorem dX4_meanAround_13 : decode cX4_meanAround 13 = .ok (.iconst 0, 1) := by decide +kernel
theorem dX4_meanAround_14 : decode cX4_meanAround 14 = .ok (.istore_n 3, 1) := by decide +kernel
theorem dX4_meanAround_15 : decode cX4_meanAround 15 = .ok (.iconst 0, 1) := by decide +kernel
theorem dX4_meanAround_16 : decode cX4_meanAround 16 = .ok (.istore 4, 2) := by decide +kernel
theorem dX4_meanAround_18 : decode cX4_meanAround 18 = .ok (.iload 4, 2) := by decide +kernel
theorem dX4_meanAround_20 : decode cX4_meanAround 20 = .ok (.aload_n 0, 1) := by decide +kernel
theorem dX4_meanAround_21 : decode cX4_meanAround 21 = .ok (.getfield 37, 3) := by decide +kernel
theorem dX4_meanAround_24 : decode cX4_meanAround 24 = .ok (.if_icmp .ge 67, 3) := by decide +kernel
theorem dX4_meanAround_27 : decode cX4_meanAround 27 = .ok (.iload 4, 2) := by decide +kernel
theorem dX4_meanAround_29 : decode cX4_meanAround 29 = .ok (.iload_n 1, 1) := by decide +kernel
theorem dX4_meanAround_30 : decode cX4_meanAround 30 = .ok (.if_icmp .eq 55, 3) := by decide +kernel
theorem dX4_meanAround_33 : decode cX4_meanAround 33 = .ok (.aload_n 0, 1) := by decide +kernel
theorem dX4_meanAround_34 : decode cX4_meanAround 34 = .ok (.getfield 18, 3) := by decide +kernel
theorem dX4_meanAround_37 : decode cX4_meanAround 37 = .ok (.iload 4, 2) := by decide +kernel
theorem dX4_meanAround_39 : decode cX4_meanAround 39 = .ok (.baload, 1) := by decide +kernel
theorem dX4_meanAround_40 : decode cX4_meanAround 40 = .ok (.ifCond .eq 45, 3) := by decide +kernel
theorem dX4_meanAround_43 : decode cX4_meanAround 43 = .ok (.aload_n 0, 1) := by decide +kernel
theorem dX4_meanAround_44 : decode cX4_meanAround 44 = .ok (.getfield 25, 3) := by decide +kernel
theorem dX4_meanAround_47 : decode cX4_meanAround 47 = .ok (.iload 4, 2) := by decide +kernel
theorem dX4_meanAround_49 : decode cX4_meanAround 49 = .ok (.baload, 1) := by decide +kernel
theorem dX4_meanAround_50 : decode cX4_meanAround 50 = .ok (.ifCond .ne 35, 3) := by decide +kernel
theorem dX4_meanAround_53 : decode cX4_meanAround 53 = .ok (.aload_n 0, 1) := by decide +kernel
theorem dX4_meanAround_54 : decode cX4_meanAround 54 = .ok (.getfield 15, 3) := by decide +kernel
theorem dX4_meanAround_57 : decode cX4_meanAround 57 = .ok (.iload 4, 2) := by decide +kernel
theorem dX4_meanAround_59 : decode cX4_meanAround 59 = .ok (.iaload, 1) := by decide +kernel
theorem dX4_meanAround_60 : decode cX4_meanAround 60 = .ok (.aload_n 0, 1) := by decide +kernel
theorem dX4_meanAround_61 : decode cX4_meanAround 61 = .ok (.getfield 15, 3) := by decide +kernel
theorem dX4_meanAround_64 : decode cX4_meanAround 64 = .ok (.iload_n 1, 1) := by decide +kernel
theorem dX4_meanAround_65 : decode cX4_meanAround 65 = .ok (.iaload, 1) := by decide +kernel
theorem dX4_meanAround_66 : decode cX4_meanAround 66 = .ok (.invokestatic 45, 3) := by decide +kernel
theorem dX4_meanAround_69 : decode cX4_meanAround 69 = .ok (.ifCond .eq 16, 3) := by decide +kernel
theorem dX4_meanAround_72 : decode cX4_meanAround 72 = .ok (.iinc 2 1, 3) := by decide +kernel
theorem dX4_meanAround_75 : decode cX4_meanAround 75 = .ok (.iload_n 3, 1) := by decide +kernel
theorem dX4_meanAround_76 : decode cX4_meanAround 76 = .ok (.aload_n 0, 1) := by decide +kernel
theorem dX4_meanAround_77 : decode cX4_meanAround 77 = .ok (.getfield 22, 3) := by decide +kernel
theorem dX4_meanAround_80 : decode cX4_meanAround 80 = .ok (.iload 4, 2) := by decide +kernel
theorem dX4_meanAround_82 : decode cX4_meanAround 82 = .ok (.iaload, 1) := by decide +kernel
theorem dX4_meanAround_83 : decode cX4_meanAround 83 = .ok (.iadd, 1) := by decide +kernel
theorem dX4_meanAround_84 : decode cX4_meanAround 84 = .ok (.istore_n 3, 1) := by decide +kernel
theorem dX4_meanAround_85 : decode cX4_meanAround 85 = .ok (.iinc 4 1, 3) := by decide +kernel
theorem dX4_meanAround_88 : decode cX4_meanAround 88 = .ok (.goto (-70), 3) := by decide +kernel
theorem dX4_meanAround_91 : decode cX4_meanAround 91 = .ok (.iload_n 2, 1) := by decide +kernel
theorem dX4_meanAround_92 : decode cX4_meanAround 92 = .ok (.iconst 2, 1) := by decide +kernel
theorem dX4_meanAround_93 : decode cX4_meanAround 93 = .ok (.if_icmp .ge 7, 3) := by decide +kernel
theorem dX4_meanAround_96 : decode cX4_meanAround 96 = .ok (.iconst (-1), 1) := by decide +kernel
theorem dX4_meanAround_97 : decode cX4_meanAround 97 = .ok (.goto 6, 3) := by decide +kernel
theorem dX4_meanAround_100 : decode cX4_meanAround 100 = .ok (.iload_n 3, 1) := by decide +kernel
theorem dX4_meanAround_101 : decode cX4_meanAround 101 = .ok (.iload_n 2, 1) := by decide +kernel
theorem dX4_meanAround_102 : decode cX4_meanAround 102 = .ok (.idiv, 1) := by decide +kernel
theorem dX4_meanAround_103 : decode cX4_meanAround 103 = .ok (.ireturn, 1) := by decide +kernel
theorem dX4_isNear_0 : decode cX4_isNear 0 = .ok (.iload_n 0, 1) := by decide +kernel
theorem dX4_isNear_1 : decode cX4_isNear 1 = .ok (.bipush 8, 2) := by decide +kernel
theorem dX4_isNear_3 : decode cX4_isNear 3 = .ok (.irem, 1) := by decide +kernel
theorem dX4_isNear_4 : decode cX4_isNear 4 = .ok (.iload_n 1, 1) := by decide +kernel
theorem dX4_isNear_5 : decode cX4_isNear 5 = .ok (.bipush 8, 2) := by decide +kernel
theorem dX4_isNear_7 : decode cX4_isNear 7 = .ok (.irem, 1) := by decide +kernel
theorem dX4_isNear_8 : decode cX4_isNear 8 = .ok (.isub, 1) := by decide +kernel
theorem dX4_isNear_9 : decode cX4_isNear 9 = .ok (.istore_n 2, 1) := by decide +kernel
theorem dX4_isNear_10 : decode cX4_isNear 10 = .ok (.iload_n 0, 1) := by decide +kernel
theorem dX4_isNear_11 : decode cX4_isNear 11 = .ok (.bipush 8, 2) := by decide +kernel
theorem dX4_isNear_13 : decode cX4_isNear 13 = .ok (.idiv, 1) := by decide +kernel
theorem dX4_isNear_14 : decode cX4_isNear 14 = .ok (.iload_n 1, 1) := by decide +kernel
theorem dX4_isNear_15 : decode cX4_isNear 15 = .ok (.bipush 8, 2) := by decide +kernel
theorem dX4_isNear_17 : decode cX4_isNear 17 = .ok (.idiv, 1) := by decide +kernel
theorem dX4_isNear_18 : decode cX4_isNear 18 = .ok (.isub, 1) := by decide +kernel
theorem dX4_isNear_19 : decode cX4_isNear 19 = .ok (.istore_n 3, 1) := by decide +kernel
theorem dX4_isNear_20 : decode cX4_isNear 20 = .ok (.iload_n 2, 1) := by decide +kernel
theorem dX4_isNear_21 : decode cX4_isNear 21 = .ok (.bipush (-2), 2) := by decide +kernel
theorem dX4_isNear_23 : decode cX4_isNear 23 = .ok (.if_icmp .lt 23, 3) := by decide +kernel
theorem dX4_isNear_26 : decode cX4_isNear 26 = .ok (.iload_n 2, 1) := by decide +kernel
theorem dX4_isNear_27 : decode cX4_isNear 27 = .ok (.iconst 2, 1) := by decide +kernel
theorem dX4_isNear_28 : decode cX4_isNear 28 = .ok (.if_icmp .gt 18, 3) := by decide +kernel
theorem dX4_isNear_31 : decode cX4_isNear 31 = .ok (.iload_n 3, 1) := by decide +kernel
theorem dX4_isNear_32 : decode cX4_isNear 32 = .ok (.bipush (-2), 2) := by decide +kernel
theorem dX4_isNear_34 : decode cX4_isNear 34 = .ok (.if_icmp .lt 12, 3) := by decide +kernel
theorem dX4_isNear_37 : decode cX4_isNear 37 = .ok (.iload_n 3, 1) := by decide +kernel
theorem dX4_isNear_38 : decode cX4_isNear 38 = .ok (.iconst 2, 1) := by decide +kernel
theorem dX4_isNear_39 : decode cX4_isNear 39 = .ok (.if_icmp .gt 7, 3) := by decide +kernel
theorem dX4_isNear_42 : decode cX4_isNear 42 = .ok (.iconst 1, 1) := by decide +kernel
theorem dX4_isNear_43 : decode cX4_isNear 43 = .ok (.goto 4, 3) := by decide +kernel
theorem dX4_isNear_46 : decode cX4_isNear 46 = .ok (.iconst 0, 1) := by decide +kernel
theorem dX4_isNear_47 : decode cX4_isNear 47 = .ok (.ireturn, 1) := by decide +kernel
theorem dX4_judgeAll_0 : decode cX4_judgeAll 0 = .ok (.iconst 0, 1) := by decide +kernel
theorem dX4_judgeAll_1 : decode cX4_judgeAll 1 = .ok (.istore_n 1, 1) := by decide +kernel
theorem dX4_judgeAll_2 : decode cX4_judgeAll 2 = .ok (.iload_n 1, 1) := by decide +kernel
theorem dX4_judgeAll_3 : decode cX4_judgeAll 3 = .ok (.aload_n 0, 1) := by decide +kernel
theorem dX4_judgeAll_4 : decode cX4_judgeAll 4 = .ok (.getfield 37, 3) := by decide +kernel
theorem dX4_judgeAll_7 : decode cX4_judgeAll 7 = .ok (.if_icmp .ge 20, 3) := by decide +kernel
theorem dX4_judgeAll_10 : decode cX4_judgeAll 10 = .ok (.aload_n 0, 1) := by decide +kernel
theorem dX4_judgeAll_11 : decode cX4_judgeAll 11 = .ok (.getfield 34, 3) := by decide +kernel
theorem dX4_judgeAll_14 : decode cX4_judgeAll 14 = .ok (.iload_n 1, 1) := by decide +kernel
theorem dX4_judgeAll_15 : decode cX4_judgeAll 15 = .ok (.aload_n 0, 1) := by decide +kernel
theorem dX4_judgeAll_16 : decode cX4_judgeAll 16 = .ok (.iload_n 1, 1) := by decide +kernel
theorem dX4_judgeAll_17 : decode cX4_judgeAll 17 = .ok (.invokevirtual 49, 3) := by decide +kernel
theorem dX4_judgeAll_20 : decode cX4_judgeAll 20 = .ok (.iastore, 1) := by decide +kernel
theorem dX4_judgeAll_21 : decode cX4_judgeAll 21 = .ok (.iinc 1 1, 3) := by decide +kernel
theorem dX4_judgeAll_24 : decode cX4_judgeAll 24 = .ok (.goto (-22), 3) := by decide +kernel
theorem dX4_judgeAll_27 : decode cX4_judgeAll 27 = .ok (.iconst 0, 1) := by decide +kernel
theorem dX4_judgeAll_28 : decode cX4_judgeAll 28 = .ok (.istore_n 1, 1) := by decide +kernel
theorem dX4_judgeAll_29 : decode cX4_judgeAll 29 = .ok (.iload_n 1, 1) := by decide +kernel
theorem dX4_judgeAll_30 : decode cX4_judgeAll 30 = .ok (.aload_n 0, 1) := by decide +kernel
theorem dX4_judgeAll_31 : decode cX4_judgeAll 31 = .ok (.getfield 37, 3) := by decide +kernel
theorem dX4_judgeAll_34 : decode cX4_judgeAll 34 = .ok (.if_icmp .ge 42, 3) := by decide +kernel
theorem dX4_judgeAll_37 : decode cX4_judgeAll 37 = .ok (.aload_n 0, 1) := by decide +kernel
theorem dX4_judgeAll_38 : decode cX4_judgeAll 38 = .ok (.getfield 34, 3) := by decide +kernel
theorem dX4_judgeAll_41 : decode cX4_judgeAll 41 = .ok (.iload_n 1, 1) := by decide +kernel
theorem dX4_judgeAll_42 : decode cX4_judgeAll 42 = .ok (.iaload, 1) := by decide +kernel
theorem dX4_judgeAll_43 : decode cX4_judgeAll 43 = .ok (.iconst 1, 1) := by decide +kernel
theorem dX4_judgeAll_44 : decode cX4_judgeAll 44 = .ok (.if_icmp .ne 11, 3) := by decide +kernel
theorem dX4_judgeAll_47 : decode cX4_judgeAll 47 = .ok (.aload_n 0, 1) := by decide +kernel
theorem dX4_judgeAll_48 : decode cX4_judgeAll 48 = .ok (.iload_n 1, 1) := by decide +kernel
theorem dX4_judgeAll_49 : decode cX4_judgeAll 49 = .ok (.invokevirtual 53, 3) := by decide +kernel
theorem dX4_judgeAll_52 : decode cX4_judgeAll 52 = .ok (.goto 18, 3) := by decide +kernel
theorem dX4_judgeAll_55 : decode cX4_judgeAll 55 = .ok (.aload_n 0, 1) := by decide +kernel
theorem dX4_judgeAll_56 : decode cX4_judgeAll 56 = .ok (.getfield 34, 3) := by decide +kernel
theorem dX4_judgeAll_59 : decode cX4_judgeAll 59 = .ok (.iload_n 1, 1) := by decide +kernel
theorem dX4_judgeAll_60 : decode cX4_judgeAll 60 = .ok (.iaload, 1) := by decide +kernel
theorem dX4_judgeAll_61 : decode cX4_judgeAll 61 = .ok (.iconst 2, 1) := by decide +kernel
theorem dX4_judgeAll_62 : decode cX4_judgeAll 62 = .ok (.if_icmp .ne 8, 3) := by decide +kernel
theorem dX4_judgeAll_65 : decode cX4_judgeAll 65 = .ok (.aload_n 0, 1) := by decide +kernel
theorem dX4_judgeAll_66 : decode cX4_judgeAll 66 = .ok (.iload_n 1, 1) := by decide +kernel
theorem dX4_judgeAll_67 : decode cX4_judgeAll 67 = .ok (.invokevirtual 57, 3) := by decide +kernel
theorem dX4_judgeAll_70 : decode cX4_judgeAll 70 = .ok (.iinc 1 1, 3) := by decide +kernel
theorem dX4_judgeAll_73 : decode cX4_judgeAll 73 = .ok (.goto (-44), 3) := by decide +kernel
theorem dX4_judgeAll_76 : decode cX4_judgeAll 76 = .ok (.return_, 1) := by decide +kernel
theorem dX4_verdictOn_0 : decode cX4_verdictOn 0 = .ok (.aload_n 0, 1) := by decide +kernel
theorem dX4_verdictOn_1 : decode cX4_verdictOn 1 = .ok (.iload_n 1, 1) := by decide +kernel
theorem dX4_verdictOn_2 : decode cX4_verdictOn 2 = .ok (.invokevirtual 60, 3) := by decide +kernel
theorem dX4_verdictOn_5 : decode cX4_verdictOn 5 = .ok (.istore_n 2, 1) := by decide +kernel
theorem dX4_verdictOn_6 : decode cX4_verdictOn 6 = .ok (.iload_n 2, 1) := by decide +kernel
theorem dX4_verdictOn_7 : decode cX4_verdictOn 7 = .ok (.iconst (-1), 1) := by decide +kernel
theorem dX4_verdictOn_8 : decode cX4_verdictOn 8 = .ok (.if_icmp .ne 5, 3) := by decide +kernel
theorem dX4_verdictOn_11 : decode cX4_verdictOn 11 = .ok (.iconst 0, 1) := by decide +kernel
theorem dX4_verdictOn_12 : decode cX4_verdictOn 12 = .ok (.ireturn, 1) := by decide +kernel
theorem dX4_verdictOn_13 : decode cX4_verdictOn 13 = .ok (.aload_n 0, 1) := by decide +kernel
theorem dX4_verdictOn_14 : decode cX4_verdictOn 14 = .ok (.getfield 22, 3) := by decide +kernel
theorem dX4_verdictOn_17 : decode cX4_verdictOn 17 = .ok (.iload_n 1, 1) := by decide +kernel
theorem dX4_verdictOn_18 : decode cX4_verdictOn 18 = .ok (.iaload, 1) := by decide +kernel
theorem dX4_verdictOn_19 : decode cX4_verdictOn 19 = .ok (.iload_n 2, 1) := by decide +kernel
theorem dX4_verdictOn_20 : decode cX4_verdictOn 20 = .ok (.if_icmp .ge 14, 3) := by decide +kernel
theorem dX4_verdictOn_23 : decode cX4_verdictOn 23 = .ok (.iload_n 2, 1) := by decide +kernel
theorem dX4_verdictOn_24 : decode cX4_verdictOn 24 = .ok (.aload_n 0, 1) := by decide +kernel
theorem dX4_verdictOn_25 : decode cX4_verdictOn 25 = .ok (.getfield 22, 3) := by decide +kernel
theorem dX4_verdictOn_28 : decode cX4_verdictOn 28 = .ok (.iload_n 1, 1) := by decide +kernel
theorem dX4_verdictOn_29 : decode cX4_verdictOn 29 = .ok (.iaload, 1) := by decide +kernel
theorem dX4_verdictOn_30 : decode cX4_verdictOn 30 = .ok (.isub, 1) := by decide +kernel
theorem dX4_verdictOn_31 : decode cX4_verdictOn 31 = .ok (.goto 11, 3) := by decide +kernel
theorem dX4_verdictOn_34 : decode cX4_verdictOn 34 = .ok (.aload_n 0, 1) := by decide +kernel
theorem dX4_verdictOn_35 : decode cX4_verdictOn 35 = .ok (.getfield 22, 3) := by decide +kernel
theorem dX4_verdictOn_38 : decode cX4_verdictOn 38 = .ok (.iload_n 1, 1) := by decide +kernel
theorem dX4_verdictOn_39 : decode cX4_verdictOn 39 = .ok (.iaload, 1) := by decide +kernel
theorem dX4_verdictOn_40 : decode cX4_verdictOn 40 = .ok (.iload_n 2, 1) := by decide +kernel
theorem dX4_verdictOn_41 : decode cX4_verdictOn 41 = .ok (.isub, 1) := by decide +kernel
theorem dX4_verdictOn_42 : decode cX4_verdictOn 42 = .ok (.istore_n 3, 1) := by decide +kernel
theorem dX4_verdictOn_43 : decode cX4_verdictOn 43 = .ok (.iload_n 3, 1) := by decide +kernel
theorem dX4_verdictOn_44 : decode cX4_verdictOn 44 = .ok (.iload_n 2, 1) := by decide +kernel
theorem dX4_verdictOn_45 : decode cX4_verdictOn 45 = .ok (.iconst 2, 1) := by decide +kernel
theorem dX4_verdictOn_46 : decode cX4_verdictOn 46 = .ok (.idiv, 1) := by decide +kernel
theorem dX4_verdictOn_47 : decode cX4_verdictOn 47 = .ok (.if_icmp .le 9, 3) := by decide +kernel
theorem dX4_verdictOn_50 : decode cX4_verdictOn 50 = .ok (.iload_n 3, 1) := by decide +kernel
theorem dX4_verdictOn_51 : decode cX4_verdictOn 51 = .ok (.bipush 20, 2) := by decide +kernel
theorem dX4_verdictOn_53 : decode cX4_verdictOn 53 = .ok (.if_icmp .gt 7, 3) := by decide +kernel
theorem dX4_verdictOn_56 : decode cX4_verdictOn 56 = .ok (.iconst 1, 1) := by decide +kernel
theorem dX4_verdictOn_57 : decode cX4_verdictOn 57 = .ok (.goto 4, 3) := by decide +kernel
theorem dX4_verdictOn_60 : decode cX4_verdictOn 60 = .ok (.iconst 2, 1) := by decide +kernel
theorem dX4_verdictOn_61 : decode cX4_verdictOn 61 = .ok (.ireturn, 1) := by decide +kernel
theorem dX4_believe_0 : decode cX4_believe 0 = .ok (.aload_n 0, 1) := by decide +kernel
theorem dX4_believe_1 : decode cX4_believe 1 = .ok (.getfield 28, 3) := by decide +kernel
theorem dX4_believe_4 : decode cX4_believe 4 = .ok (.iload_n 1, 1) := by decide +kernel
theorem dX4_believe_5 : decode cX4_believe 5 = .ok (.iconst 0, 1) := by decide +kernel
theorem dX4_believe_6 : decode cX4_believe 6 = .ok (.iastore, 1) := by decide +kernel
theorem dX4_believe_7 : decode cX4_believe 7 = .ok (.aload_n 0, 1) := by decide +kernel
theorem dX4_believe_8 : decode cX4_believe 8 = .ok (.getfield 31, 3) := by decide +kernel
theorem dX4_believe_11 : decode cX4_believe 11 = .ok (.iload_n 1, 1) := by decide +kernel
theorem dX4_believe_12 : decode cX4_believe 12 = .ok (.dup2, 1) := by decide +kernel
theorem dX4_believe_13 : decode cX4_believe 13 = .ok (.iaload, 1) := by decide +kernel
theorem dX4_believe_14 : decode cX4_believe 14 = .ok (.iconst 1, 1) := by decide +kernel
theorem dX4_believe_15 : decode cX4_believe 15 = .ok (.iadd, 1) := by decide +kernel
theorem dX4_believe_16 : decode cX4_believe 16 = .ok (.iastore, 1) := by decide +kernel
theorem dX4_believe_17 : decode cX4_believe 17 = .ok (.aload_n 0, 1) := by decide +kernel
theorem dX4_believe_18 : decode cX4_believe 18 = .ok (.getfield 9, 3) := by decide +kernel
theorem dX4_believe_21 : decode cX4_believe 21 = .ok (.iload_n 1, 1) := by decide +kernel
theorem dX4_believe_22 : decode cX4_believe 22 = .ok (.iaload, 1) := by decide +kernel
theorem dX4_believe_23 : decode cX4_believe 23 = .ok (.bipush 10, 2) := by decide +kernel
theorem dX4_believe_25 : decode cX4_believe 25 = .ok (.iadd, 1) := by decide +kernel
theorem dX4_believe_26 : decode cX4_believe 26 = .ok (.istore_n 2, 1) := by decide +kernel
theorem dX4_believe_27 : decode cX4_believe 27 = .ok (.aload_n 0, 1) := by decide +kernel
theorem dX4_believe_28 : decode cX4_believe 28 = .ok (.getfield 9, 3) := by decide +kernel
theorem dX4_believe_31 : decode cX4_believe 31 = .ok (.iload_n 1, 1) := by decide +kernel
theorem dX4_believe_32 : decode cX4_believe 32 = .ok (.iload_n 2, 1) := by decide +kernel
theorem dX4_believe_33 : decode cX4_believe 33 = .ok (.bipush 100, 2) := by decide +kernel
theorem dX4_believe_35 : decode cX4_believe 35 = .ok (.if_icmp .le 8, 3) := by decide +kernel
theorem dX4_believe_38 : decode cX4_believe 38 = .ok (.bipush 100, 2) := by decide +kernel
theorem dX4_believe_40 : decode cX4_believe 40 = .ok (.goto 4, 3) := by decide +kernel
theorem dX4_believe_43 : decode cX4_believe 43 = .ok (.iload_n 2, 1) := by decide +kernel
theorem dX4_believe_44 : decode cX4_believe 44 = .ok (.iastore, 1) := by decide +kernel
theorem dX4_believe_45 : decode cX4_believe 45 = .ok (.aload_n 0, 1) := by decide +kernel
theorem dX4_believe_46 : decode cX4_believe 46 = .ok (.getfield 25, 3) := by decide +kernel
theorem dX4_believe_49 : decode cX4_believe 49 = .ok (.iload_n 1, 1) := by decide +kernel
theorem dX4_believe_50 : decode cX4_believe 50 = .ok (.baload, 1) := by decide +kernel
theorem dX4_believe_51 : decode cX4_believe 51 = .ok (.ifCond .eq 28, 3) := by decide +kernel
theorem dX4_believe_54 : decode cX4_believe 54 = .ok (.aload_n 0, 1) := by decide +kernel
theorem dX4_believe_55 : decode cX4_believe 55 = .ok (.getfield 31, 3) := by decide +kernel
theorem dX4_believe_58 : decode cX4_believe 58 = .ok (.iload_n 1, 1) := by decide +kernel
theorem dX4_believe_59 : decode cX4_believe 59 = .ok (.iaload, 1) := by decide +kernel
theorem dX4_believe_60 : decode cX4_believe 60 = .ok (.iconst 3, 1) := by decide +kernel
theorem dX4_believe_61 : decode cX4_believe 61 = .ok (.if_icmp .lt 18, 3) := by decide +kernel
theorem dX4_believe_64 : decode cX4_believe 64 = .ok (.aload_n 0, 1) := by decide +kernel
theorem dX4_believe_65 : decode cX4_believe 65 = .ok (.getfield 25, 3) := by decide +kernel
theorem dX4_believe_68 : decode cX4_believe 68 = .ok (.iload_n 1, 1) := by decide +kernel
theorem dX4_believe_69 : decode cX4_believe 69 = .ok (.iconst 0, 1) := by decide +kernel
theorem dX4_believe_70 : decode cX4_believe 70 = .ok (.bastore, 1) := by decide +kernel
theorem dX4_believe_71 : decode cX4_believe 71 = .ok (.aload_n 0, 1) := by decide +kernel
theorem dX4_believe_72 : decode cX4_believe 72 = .ok (.getfield 9, 3) := by decide +kernel
theorem dX4_believe_75 : decode cX4_believe 75 = .ok (.iload_n 1, 1) := by decide +kernel
theorem dX4_believe_76 : decode cX4_believe 76 = .ok (.bipush 30, 2) := by decide +kernel
theorem dX4_believe_78 : decode cX4_believe 78 = .ok (.iastore, 1) := by decide +kernel
theorem dX4_believe_79 : decode cX4_believe 79 = .ok (.return_, 1) := by decide +kernel
theorem dX4_doubt_0 : decode cX4_doubt 0 = .ok (.aload_n 0, 1) := by decide +kernel
theorem dX4_doubt_1 : decode cX4_doubt 1 = .ok (.getfield 31, 3) := by decide +kernel
theorem dX4_doubt_4 : decode cX4_doubt 4 = .ok (.iload_n 1, 1) := by decide +kernel
theorem dX4_doubt_5 : decode cX4_doubt 5 = .ok (.iconst 0, 1) := by decide +kernel
theorem dX4_doubt_6 : decode cX4_doubt 6 = .ok (.iastore, 1) := by decide +kernel
theorem dX4_doubt_7 : decode cX4_doubt 7 = .ok (.aload_n 0, 1) := by decide +kernel
theorem dX4_doubt_8 : decode cX4_doubt 8 = .ok (.getfield 28, 3) := by decide +kernel
theorem dX4_doubt_11 : decode cX4_doubt 11 = .ok (.iload_n 1, 1) := by decide +kernel
theorem dX4_doubt_12 : decode cX4_doubt 12 = .ok (.dup2, 1) := by decide +kernel
theorem dX4_doubt_13 : decode cX4_doubt 13 = .ok (.iaload, 1) := by decide +kernel
theorem dX4_doubt_14 : decode cX4_doubt 14 = .ok (.iconst 1, 1) := by decide +kernel
theorem dX4_doubt_15 : decode cX4_doubt 15 = .ok (.iadd, 1) := by decide +kernel
theorem dX4_doubt_16 : decode cX4_doubt 16 = .ok (.iastore, 1) := by decide +kernel
theorem dX4_doubt_17 : decode cX4_doubt 17 = .ok (.aload_n 0, 1) := by decide +kernel
theorem dX4_doubt_18 : decode cX4_doubt 18 = .ok (.getfield 9, 3) := by decide +kernel
theorem dX4_doubt_21 : decode cX4_doubt 21 = .ok (.iload_n 1, 1) := by decide +kernel
theorem dX4_doubt_22 : decode cX4_doubt 22 = .ok (.iaload, 1) := by decide +kernel
theorem dX4_doubt_23 : decode cX4_doubt 23 = .ok (.bipush 20, 2) := by decide +kernel
theorem dX4_doubt_25 : decode cX4_doubt 25 = .ok (.isub, 1) := by decide +kernel
theorem dX4_doubt_26 : decode cX4_doubt 26 = .ok (.istore_n 2, 1) := by decide +kernel
theorem dX4_doubt_27 : decode cX4_doubt 27 = .ok (.aload_n 0, 1) := by decide +kernel
theorem dX4_doubt_28 : decode cX4_doubt 28 = .ok (.getfield 9, 3) := by decide +kernel
theorem dX4_doubt_31 : decode cX4_doubt 31 = .ok (.iload_n 1, 1) := by decide +kernel
theorem dX4_doubt_32 : decode cX4_doubt 32 = .ok (.iload_n 2, 1) := by decide +kernel
theorem dX4_doubt_33 : decode cX4_doubt 33 = .ok (.ifCond .ge 7, 3) := by decide +kernel
theorem dX4_doubt_36 : decode cX4_doubt 36 = .ok (.iconst 0, 1) := by decide +kernel
theorem dX4_doubt_37 : decode cX4_doubt 37 = .ok (.goto 4, 3) := by decide +kernel
theorem dX4_doubt_40 : decode cX4_doubt 40 = .ok (.iload_n 2, 1) := by decide +kernel
theorem dX4_doubt_41 : decode cX4_doubt 41 = .ok (.iastore, 1) := by decide +kernel
theorem dX4_doubt_42 : decode cX4_doubt 42 = .ok (.aload_n 0, 1) := by decide +kernel
theorem dX4_doubt_43 : decode cX4_doubt 43 = .ok (.getfield 28, 3) := by decide +kernel
theorem dX4_doubt_46 : decode cX4_doubt 46 = .ok (.iload_n 1, 1) := by decide +kernel
theorem dX4_doubt_47 : decode cX4_doubt 47 = .ok (.iaload, 1) := by decide +kernel
theorem dX4_doubt_48 : decode cX4_doubt 48 = .ok (.iconst 2, 1) := by decide +kernel
theorem dX4_doubt_49 : decode cX4_doubt 49 = .ok (.if_icmp .lt 10, 3) := by decide +kernel
theorem dX4_doubt_52 : decode cX4_doubt 52 = .ok (.aload_n 0, 1) := by decide +kernel
theorem dX4_doubt_53 : decode cX4_doubt 53 = .ok (.getfield 25, 3) := by decide +kernel
theorem dX4_doubt_56 : decode cX4_doubt 56 = .ok (.iload_n 1, 1) := by decide +kernel
theorem dX4_doubt_57 : decode cX4_doubt 57 = .ok (.iconst 1, 1) := by decide +kernel
theorem dX4_doubt_58 : decode cX4_doubt 58 = .ok (.bastore, 1) := by decide +kernel
theorem dX4_doubt_59 : decode cX4_doubt 59 = .ok (.return_, 1) := by decide +kernel
theorem dX4_mendAll_0 : decode cX4_mendAll 0 = .ok (.iconst 0, 1) := by decide +kernel
theorem dX4_mendAll_1 : decode cX4_mendAll 1 = .ok (.istore_n 2, 1) := by decide +kernel
theorem dX4_mendAll_2 : decode cX4_mendAll 2 = .ok (.iload_n 2, 1) := by decide +kernel
theorem dX4_mendAll_3 : decode cX4_mendAll 3 = .ok (.bipush 48, 2) := by decide +kernel
theorem dX4_mendAll_5 : decode cX4_mendAll 5 = .ok (.if_icmp .ge 140, 3) := by decide +kernel
theorem dX4_mendAll_8 : decode cX4_mendAll 8 = .ok (.iconst 0, 1) := by decide +kernel
theorem dX4_mendAll_9 : decode cX4_mendAll 9 = .ok (.istore_n 3, 1) := by decide +kernel
theorem dX4_mendAll_10 : decode cX4_mendAll 10 = .ok (.iconst 0, 1) := by decide +kernel
theorem dX4_mendAll_11 : decode cX4_mendAll 11 = .ok (.istore 4, 2) := by decide +kernel
theorem dX4_mendAll_13 : decode cX4_mendAll 13 = .ok (.iconst 0, 1) := by decide +kernel
theorem dX4_mendAll_14 : decode cX4_mendAll 14 = .ok (.istore 5, 2) := by decide +kernel
theorem dX4_mendAll_16 : decode cX4_mendAll 16 = .ok (.iload 5, 2) := by decide +kernel
theorem dX4_mendAll_18 : decode cX4_mendAll 18 = .ok (.aload_n 0, 1) := by decide +kernel
theorem dX4_mendAll_19 : decode cX4_mendAll 19 = .ok (.getfield 37, 3) := by decide +kernel
theorem dX4_mendAll_22 : decode cX4_mendAll 22 = .ok (.if_icmp .ge 70, 3) := by decide +kernel
theorem dX4_mendAll_25 : decode cX4_mendAll 25 = .ok (.aload_n 0, 1) := by decide +kernel
theorem dX4_mendAll_26 : decode cX4_mendAll 26 = .ok (.getfield 15, 3) := by decide +kernel
theorem dX4_mendAll_29 : decode cX4_mendAll 29 = .ok (.iload 5, 2) := by decide +kernel
theorem dX4_mendAll_31 : decode cX4_mendAll 31 = .ok (.iaload, 1) := by decide +kernel
theorem dX4_mendAll_32 : decode cX4_mendAll 32 = .ok (.iload_n 2, 1) := by decide +kernel
theorem dX4_mendAll_33 : decode cX4_mendAll 33 = .ok (.if_icmp .ne 53, 3) := by decide +kernel
theorem dX4_mendAll_36 : decode cX4_mendAll 36 = .ok (.aload_n 0, 1) := by decide +kernel
theorem dX4_mendAll_37 : decode cX4_mendAll 37 = .ok (.getfield 18, 3) := by decide +kernel
theorem dX4_mendAll_40 : decode cX4_mendAll 40 = .ok (.iload 5, 2) := by decide +kernel
theorem dX4_mendAll_42 : decode cX4_mendAll 42 = .ok (.baload, 1) := by decide +kernel
theorem dX4_mendAll_43 : decode cX4_mendAll 43 = .ok (.ifCond .eq 43, 3) := by decide +kernel
theorem dX4_mendAll_46 : decode cX4_mendAll 46 = .ok (.aload_n 0, 1) := by decide +kernel
theorem dX4_mendAll_47 : decode cX4_mendAll 47 = .ok (.getfield 25, 3) := by decide +kernel
theorem dX4_mendAll_50 : decode cX4_mendAll 50 = .ok (.iload 5, 2) := by decide +kernel
theorem dX4_mendAll_52 : decode cX4_mendAll 52 = .ok (.baload, 1) := by decide +kernel
theorem dX4_mendAll_53 : decode cX4_mendAll 53 = .ok (.ifCond .ne 33, 3) := by decide +kernel
theorem dX4_mendAll_56 : decode cX4_mendAll 56 = .ok (.iload_n 3, 1) := by decide +kernel
theorem dX4_mendAll_57 : decode cX4_mendAll 57 = .ok (.aload_n 0, 1) := by decide +kernel
theorem dX4_mendAll_58 : decode cX4_mendAll 58 = .ok (.getfield 9, 3) := by decide +kernel
theorem dX4_mendAll_61 : decode cX4_mendAll 61 = .ok (.iload 5, 2) := by decide +kernel
theorem dX4_mendAll_63 : decode cX4_mendAll 63 = .ok (.iaload, 1) := by decide +kernel
theorem dX4_mendAll_64 : decode cX4_mendAll 64 = .ok (.iadd, 1) := by decide +kernel
theorem dX4_mendAll_65 : decode cX4_mendAll 65 = .ok (.istore_n 3, 1) := by decide +kernel
theorem dX4_mendAll_66 : decode cX4_mendAll 66 = .ok (.iload 4, 2) := by decide +kernel
theorem dX4_mendAll_68 : decode cX4_mendAll 68 = .ok (.aload_n 0, 1) := by decide +kernel
theorem dX4_mendAll_69 : decode cX4_mendAll 69 = .ok (.getfield 9, 3) := by decide +kernel
theorem dX4_mendAll_72 : decode cX4_mendAll 72 = .ok (.iload 5, 2) := by decide +kernel
theorem dX4_mendAll_74 : decode cX4_mendAll 74 = .ok (.iaload, 1) := by decide +kernel
theorem dX4_mendAll_75 : decode cX4_mendAll 75 = .ok (.aload_n 0, 1) := by decide +kernel
theorem dX4_mendAll_76 : decode cX4_mendAll 76 = .ok (.getfield 22, 3) := by decide +kernel
theorem dX4_mendAll_79 : decode cX4_mendAll 79 = .ok (.iload 5, 2) := by decide +kernel
theorem dX4_mendAll_81 : decode cX4_mendAll 81 = .ok (.iaload, 1) := by decide +kernel
theorem dX4_mendAll_82 : decode cX4_mendAll 82 = .ok (.imul, 1) := by decide +kernel
theorem dX4_mendAll_83 : decode cX4_mendAll 83 = .ok (.iadd, 1) := by decide +kernel
theorem dX4_mendAll_84 : decode cX4_mendAll 84 = .ok (.istore 4, 2) := by decide +kernel
theorem dX4_mendAll_86 : decode cX4_mendAll 86 = .ok (.iinc 5 1, 3) := by decide +kernel
theorem dX4_mendAll_89 : decode cX4_mendAll 89 = .ok (.goto (-73), 3) := by decide +kernel
theorem dX4_mendAll_92 : decode cX4_mendAll 92 = .ok (.iload_n 3, 1) := by decide +kernel
theorem dX4_mendAll_93 : decode cX4_mendAll 93 = .ok (.ifCond .le 46, 3) := by decide +kernel
theorem dX4_mendAll_96 : decode cX4_mendAll 96 = .ok (.iload 4, 2) := by decide +kernel
theorem dX4_mendAll_98 : decode cX4_mendAll 98 = .ok (.iload_n 3, 1) := by decide +kernel
theorem dX4_mendAll_99 : decode cX4_mendAll 99 = .ok (.idiv, 1) := by decide +kernel
theorem dX4_mendAll_100 : decode cX4_mendAll 100 = .ok (.aload_n 1, 1) := by decide +kernel
theorem dX4_mendAll_101 : decode cX4_mendAll 101 = .ok (.getfield 63, 3) := by decide +kernel
theorem dX4_mendAll_104 : decode cX4_mendAll 104 = .ok (.iload_n 2, 1) := by decide +kernel
theorem dX4_mendAll_105 : decode cX4_mendAll 105 = .ok (.iaload, 1) := by decide +kernel
theorem dX4_mendAll_106 : decode cX4_mendAll 106 = .ok (.isub, 1) := by decide +kernel
theorem dX4_mendAll_107 : decode cX4_mendAll 107 = .ok (.iload_n 3, 1) := by decide +kernel
theorem dX4_mendAll_108 : decode cX4_mendAll 108 = .ok (.imul, 1) := by decide +kernel
theorem dX4_mendAll_109 : decode cX4_mendAll 109 = .ok (.iload_n 3, 1) := by decide +kernel
theorem dX4_mendAll_110 : decode cX4_mendAll 110 = .ok (.bipush 100, 2) := by decide +kernel
theorem dX4_mendAll_112 : decode cX4_mendAll 112 = .ok (.iadd, 1) := by decide +kernel
theorem dX4_mendAll_113 : decode cX4_mendAll 113 = .ok (.idiv, 1) := by decide +kernel
theorem dX4_mendAll_114 : decode cX4_mendAll 114 = .ok (.istore 5, 2) := by decide +kernel
theorem dX4_mendAll_116 : decode cX4_mendAll 116 = .ok (.aload_n 1, 1) := by decide +kernel
theorem dX4_mendAll_117 : decode cX4_mendAll 117 = .ok (.getfield 63, 3) := by decide +kernel
theorem dX4_mendAll_120 : decode cX4_mendAll 120 = .ok (.iload_n 2, 1) := by decide +kernel
theorem dX4_mendAll_121 : decode cX4_mendAll 121 = .ok (.dup2, 1) := by decide +kernel
theorem dX4_mendAll_122 : decode cX4_mendAll 122 = .ok (.iaload, 1) := by decide +kernel
theorem dX4_mendAll_123 : decode cX4_mendAll 123 = .ok (.iload 5, 2) := by decide +kernel
theorem dX4_mendAll_125 : decode cX4_mendAll 125 = .ok (.iadd, 1) := by decide +kernel
theorem dX4_mendAll_126 : decode cX4_mendAll 126 = .ok (.iastore, 1) := by decide +kernel
theorem dX4_mendAll_127 : decode cX4_mendAll 127 = .ok (.aload_n 0, 1) := by decide +kernel
theorem dX4_mendAll_128 : decode cX4_mendAll 128 = .ok (.dup, 1) := by decide +kernel
theorem dX4_mendAll_129 : decode cX4_mendAll 129 = .ok (.getfield 41, 3) := by decide +kernel
theorem dX4_mendAll_132 : decode cX4_mendAll 132 = .ok (.iload 5, 2) := by decide +kernel
theorem dX4_mendAll_134 : decode cX4_mendAll 134 = .ok (.i2l, 1) := by decide +kernel
theorem dX4_mendAll_135 : decode cX4_mendAll 135 = .ok (.ladd, 1) := by decide +kernel
theorem dX4_mendAll_136 : decode cX4_mendAll 136 = .ok (.putfield 41, 3) := by decide +kernel
theorem dX4_mendAll_139 : decode cX4_mendAll 139 = .ok (.iinc 2 1, 3) := by decide +kernel
theorem dX4_mendAll_142 : decode cX4_mendAll 142 = .ok (.goto (-140), 3) := by decide +kernel
theorem dX4_mendAll_145 : decode cX4_mendAll 145 = .ok (.return_, 1) := by decide +kernel
theorem dX4_trustsAreLike_0 : decode cX4_trustsAreLike 0 = .ok (.aload_n 0, 1) := by decide +kernel
theorem dX4_trustsAreLike_1 : decode cX4_trustsAreLike 1 = .ok (.getfield 37, 3) := by decide +kernel
theorem dX4_trustsAreLike_4 : decode cX4_trustsAreLike 4 = .ok (.aload_n 1, 1) := by decide +kernel
theorem dX4_trustsAreLike_5 : decode cX4_trustsAreLike 5 = .ok (.getfield 37, 3) := by decide +kernel
theorem dX4_trustsAreLike_8 : decode cX4_trustsAreLike 8 = .ok (.if_icmp .eq 5, 3) := by decide +kernel
theorem dX4_trustsAreLike_11 : decode cX4_trustsAreLike 11 = .ok (.iconst 0, 1) := by decide +kernel
theorem dX4_trustsAreLike_12 : decode cX4_trustsAreLike 12 = .ok (.ireturn, 1) := by decide +kernel
theorem dX4_trustsAreLike_13 : decode cX4_trustsAreLike 13 = .ok (.iconst 0, 1) := by decide +kernel
theorem dX4_trustsAreLike_14 : decode cX4_trustsAreLike 14 = .ok (.istore_n 2, 1) := by decide +kernel
theorem dX4_trustsAreLike_15 : decode cX4_trustsAreLike 15 = .ok (.iload_n 2, 1) := by decide +kernel
theorem dX4_trustsAreLike_16 : decode cX4_trustsAreLike 16 = .ok (.aload_n 0, 1) := by decide +kernel
theorem dX4_trustsAreLike_17 : decode cX4_trustsAreLike 17 = .ok (.getfield 37, 3) := by decide +kernel
theorem dX4_trustsAreLike_20 : decode cX4_trustsAreLike 20 = .ok (.if_icmp .ge 26, 3) := by decide +kernel
theorem dX4_trustsAreLike_23 : decode cX4_trustsAreLike 23 = .ok (.aload_n 0, 1) := by decide +kernel
theorem dX4_trustsAreLike_24 : decode cX4_trustsAreLike 24 = .ok (.getfield 9, 3) := by decide +kernel
theorem dX4_trustsAreLike_27 : decode cX4_trustsAreLike 27 = .ok (.iload_n 2, 1) := by decide +kernel
theorem dX4_trustsAreLike_28 : decode cX4_trustsAreLike 28 = .ok (.iaload, 1) := by decide +kernel
theorem dX4_trustsAreLike_29 : decode cX4_trustsAreLike 29 = .ok (.aload_n 1, 1) := by decide +kernel
theorem dX4_trustsAreLike_30 : decode cX4_trustsAreLike 30 = .ok (.getfield 9, 3) := by decide +kernel
theorem dX4_trustsAreLike_33 : decode cX4_trustsAreLike 33 = .ok (.iload_n 2, 1) := by decide +kernel
theorem dX4_trustsAreLike_34 : decode cX4_trustsAreLike 34 = .ok (.iaload, 1) := by decide +kernel
theorem dX4_trustsAreLike_35 : decode cX4_trustsAreLike 35 = .ok (.if_icmp .eq 5, 3) := by decide +kernel
theorem dX4_trustsAreLike_38 : decode cX4_trustsAreLike 38 = .ok (.iconst 0, 1) := by decide +kernel
theorem dX4_trustsAreLike_39 : decode cX4_trustsAreLike 39 = .ok (.ireturn, 1) := by decide +kernel
theorem dX4_trustsAreLike_40 : decode cX4_trustsAreLike 40 = .ok (.iinc 2 1, 3) := by decide +kernel
theorem dX4_trustsAreLike_43 : decode cX4_trustsAreLike 43 = .ok (.goto (-28), 3) := by decide +kernel
theorem dX4_trustsAreLike_46 : decode cX4_trustsAreLike 46 = .ok (.iconst 1, 1) := by decide +kernel
theorem dX4_trustsAreLike_47 : decode cX4_trustsAreLike 47 = .ok (.ireturn, 1) := by decide +kernel
theorem dX5_init_0 : decode cX5_init 0 = .ok (.aload_n 0, 1) := by decide +kernel
theorem dX5_init_1 : decode cX5_init 1 = .ok (.invokespecial 3, 3) := by decide +kernel
theorem dX5_init_4 : decode cX5_init 4 = .ok (.aload_n 0, 1) := by decide +kernel
theorem dX5_init_5 : decode cX5_init 5 = .ok (.bipush 12, 2) := by decide +kernel
theorem dX5_init_7 : decode cX5_init 7 = .ok (.newarray .boolean, 2) := by decide +kernel
theorem dX5_init_9 : decode cX5_init 9 = .ok (.putfield 9, 3) := by decide +kernel
theorem dX5_init_12 : decode cX5_init 12 = .ok (.aload_n 0, 1) := by decide +kernel
theorem dX5_init_13 : decode cX5_init 13 = .ok (.bipush 12, 2) := by decide +kernel
theorem dX5_init_15 : decode cX5_init 15 = .ok (.newarray .int, 2) := by decide +kernel
theorem dX5_init_17 : decode cX5_init 17 = .ok (.putfield 15, 3) := by decide +kernel
theorem dX5_init_20 : decode cX5_init 20 = .ok (.aload_n 0, 1) := by decide +kernel
theorem dX5_init_21 : decode cX5_init 21 = .ok (.bipush 12, 2) := by decide +kernel
theorem dX5_init_23 : decode cX5_init 23 = .ok (.newarray .int, 2) := by decide +kernel
theorem dX5_init_25 : decode cX5_init 25 = .ok (.putfield 19, 3) := by decide +kernel
theorem dX5_init_28 : decode cX5_init 28 = .ok (.aload_n 0, 1) := by decide +kernel
theorem dX5_init_29 : decode cX5_init 29 = .ok (.bipush 12, 2) := by decide +kernel
theorem dX5_init_31 : decode cX5_init 31 = .ok (.newarray .int, 2) := by decide +kernel
theorem dX5_init_33 : decode cX5_init 33 = .ok (.putfield 22, 3) := by decide +kernel
theorem dX5_init_36 : decode cX5_init 36 = .ok (.aload_n 0, 1) := by decide +kernel
theorem dX5_init_37 : decode cX5_init 37 = .ok (.bipush 12, 2) := by decide +kernel
theorem dX5_init_39 : decode cX5_init 39 = .ok (.newarray .int, 2) := by decide +kernel
theorem dX5_init_41 : decode cX5_init 41 = .ok (.putfield 25, 3) := by decide +kernel
theorem dX5_init_44 : decode cX5_init 44 = .ok (.aload_n 0, 1) := by decide +kernel
theorem dX5_init_45 : decode cX5_init 45 = .ok (.iconst 0, 1) := by decide +kernel
theorem dX5_init_46 : decode cX5_init 46 = .ok (.putfield 28, 3) := by decide +kernel
theorem dX5_init_49 : decode cX5_init 49 = .ok (.aload_n 0, 1) := by decide +kernel
theorem dX5_init_50 : decode cX5_init 50 = .ok (.bipush 32, 2) := by decide +kernel
theorem dX5_init_52 : decode cX5_init 52 = .ok (.newarray .int, 2) := by decide +kernel
theorem dX5_init_54 : decode cX5_init 54 = .ok (.putfield 32, 3) := by decide +kernel
theorem dX5_init_57 : decode cX5_init 57 = .ok (.aload_n 0, 1) := by decide +kernel
theorem dX5_init_58 : decode cX5_init 58 = .ok (.bipush 32, 2) := by decide +kernel
theorem dX5_init_60 : decode cX5_init 60 = .ok (.newarray .int, 2) := by decide +kernel
theorem dX5_init_62 : decode cX5_init 62 = .ok (.putfield 35, 3) := by decide +kernel
theorem dX5_init_65 : decode cX5_init 65 = .ok (.aload_n 0, 1) := by decide +kernel
theorem dX5_init_66 : decode cX5_init 66 = .ok (.bipush 32, 2) := by decide +kernel
theorem dX5_init_68 : decode cX5_init 68 = .ok (.newarray .int, 2) := by decide +kernel
theorem dX5_init_70 : decode cX5_init 70 = .ok (.putfield 38, 3) := by decide +kernel
theorem dX5_init_73 : decode cX5_init 73 = .ok (.aload_n 0, 1) := by decide +kernel
theorem dX5_init_74 : decode cX5_init 74 = .ok (.iconst 0, 1) := by decide +kernel
theorem dX5_init_75 : decode cX5_init 75 = .ok (.putfield 41, 3) := by decide +kernel
theorem dX5_init_78 : decode cX5_init 78 = .ok (.return_, 1) := by decide +kernel
theorem dX5_enter_0 : decode cX5_enter 0 = .ok (.aload_n 0, 1) := by decide +kernel
theorem dX5_enter_1 : decode cX5_enter 1 = .ok (.getfield 28, 3) := by decide +kernel
theorem dX5_enter_4 : decode cX5_enter 4 = .ok (.istore 5, 2) := by decide +kernel
theorem dX5_enter_6 : decode cX5_enter 6 = .ok (.aload_n 0, 1) := by decide +kernel
theorem dX5_enter_7 : decode cX5_enter 7 = .ok (.getfield 15, 3) := by decide +kernel
theorem dX5_enter_10 : decode cX5_enter 10 = .ok (.iload 5, 2) := by decide +kernel
theorem dX5_enter_12 : decode cX5_enter 12 = .ok (.iload_n 1, 1) := by decide +kernel
theorem dX5_enter_13 : decode cX5_enter 13 = .ok (.iastore, 1) := by decide +kernel
theorem dX5_enter_14 : decode cX5_enter 14 = .ok (.aload_n 0, 1) := by decide +kernel
theorem dX5_enter_15 : decode cX5_enter 15 = .ok (.getfield 19, 3) := by decide +kernel
theorem dX5_enter_18 : decode cX5_enter 18 = .ok (.iload 5, 2) := by decide +kernel
theorem dX5_enter_20 : decode cX5_enter 20 = .ok (.iload_n 2, 1) := by decide +kernel
theorem dX5_enter_21 : decode cX5_enter 21 = .ok (.iastore, 1) := by decide +kernel
theorem dX5_enter_22 : decode cX5_enter 22 = .ok (.aload_n 0, 1) := by decide +kernel
theorem dX5_enter_23 : decode cX5_enter 23 = .ok (.getfield 22, 3) := by decide +kernel
theorem dX5_enter_26 : decode cX5_enter 26 = .ok (.iload 5, 2) := by decide +kernel
theorem dX5_enter_28 : decode cX5_enter 28 = .ok (.iload_n 3, 1) := by decide +kernel
theorem dX5_enter_29 : decode cX5_enter 29 = .ok (.iastore, 1) := by decide +kernel
theorem dX5_enter_30 : decode cX5_enter 30 = .ok (.aload_n 0, 1) := by decide +kernel
theorem dX5_enter_31 : decode cX5_enter 31 = .ok (.getfield 25, 3) := by decide +kernel
theorem dX5_enter_34 : decode cX5_enter 34 = .ok (.iload 5, 2) := by decide +kernel
theorem dX5_enter_36 : decode cX5_enter 36 = .ok (.iload 4, 2) := by decide +kernel
theorem dX5_enter_38 : decode cX5_enter 38 = .ok (.iastore, 1) := by decide +kernel
theorem dX5_enter_39 : decode cX5_enter 39 = .ok (.aload_n 0, 1) := by decide +kernel
theorem dX5_enter_40 : decode cX5_enter 40 = .ok (.dup, 1) := by decide +kernel
theorem dX5_enter_41 : decode cX5_enter 41 = .ok (.getfield 28, 3) := by decide +kernel
theorem dX5_enter_44 : decode cX5_enter 44 = .ok (.iconst 1, 1) := by decide +kernel
theorem dX5_enter_45 : decode cX5_enter 45 = .ok (.iadd, 1) := by decide +kernel
theorem dX5_enter_46 : decode cX5_enter 46 = .ok (.putfield 28, 3) := by decide +kernel
theorem dX5_enter_49 : decode cX5_enter 49 = .ok (.iload 5, 2) := by decide +kernel
theorem dX5_enter_51 : decode cX5_enter 51 = .ok (.ireturn, 1) := by decide +kernel
theorem dX5_warnAll_0 : decode cX5_warnAll 0 = .ok (.iconst 0, 1) := by decide +kernel
theorem dX5_warnAll_1 : decode cX5_warnAll 1 = .ok (.istore 4, 2) := by decide +kernel
theorem dX5_warnAll_3 : decode cX5_warnAll 3 = .ok (.iload 4, 2) := by decide +kernel
theorem dX5_warnAll_5 : decode cX5_warnAll 5 = .ok (.aload_n 0, 1) := by decide +kernel
theorem dX5_warnAll_6 : decode cX5_warnAll 6 = .ok (.getfield 28, 3) := by decide +kernel
theorem dX5_warnAll_9 : decode cX5_warnAll 9 = .ok (.if_icmp .ge 108, 3) := by decide +kernel
theorem dX5_warnAll_12 : decode cX5_warnAll 12 = .ok (.aload_n 1, 1) := by decide +kernel
theorem dX5_warnAll_13 : decode cX5_warnAll 13 = .ok (.getfield 44, 3) := by decide +kernel
theorem dX5_warnAll_16 : decode cX5_warnAll 16 = .ok (.aload_n 0, 1) := by decide +kernel
theorem dX5_warnAll_17 : decode cX5_warnAll 17 = .ok (.getfield 15, 3) := by decide +kernel
theorem dX5_warnAll_20 : decode cX5_warnAll 20 = .ok (.iload 4, 2) := by decide +kernel
theorem dX5_warnAll_22 : decode cX5_warnAll 22 = .ok (.iaload, 1) := by decide +kernel
theorem dX5_warnAll_23 : decode cX5_warnAll 23 = .ok (.iaload, 1) := by decide +kernel
theorem dX5_warnAll_24 : decode cX5_warnAll 24 = .ok (.istore 5, 2) := by decide +kernel
theorem dX5_warnAll_26 : decode cX5_warnAll 26 = .ok (.aload_n 0, 1) := by decide +kernel
theorem dX5_warnAll_27 : decode cX5_warnAll 27 = .ok (.getfield 9, 3) := by decide +kernel
theorem dX5_warnAll_30 : decode cX5_warnAll 30 = .ok (.iload 4, 2) := by decide +kernel
theorem dX5_warnAll_32 : decode cX5_warnAll 32 = .ok (.baload, 1) := by decide +kernel
theorem dX5_warnAll_33 : decode cX5_warnAll 33 = .ok (.ifCond .ne 45, 3) := by decide +kernel
theorem dX5_warnAll_36 : decode cX5_warnAll 36 = .ok (.iload 5, 2) := by decide +kernel
theorem dX5_warnAll_38 : decode cX5_warnAll 38 = .ok (.aload_n 0, 1) := by decide +kernel
theorem dX5_warnAll_39 : decode cX5_warnAll 39 = .ok (.getfield 19, 3) := by decide +kernel
theorem dX5_warnAll_42 : decode cX5_warnAll 42 = .ok (.iload 4, 2) := by decide +kernel
theorem dX5_warnAll_44 : decode cX5_warnAll 44 = .ok (.iaload, 1) := by decide +kernel
theorem dX5_warnAll_45 : decode cX5_warnAll 45 = .ok (.if_icmp .lt 33, 3) := by decide +kernel
theorem dX5_warnAll_48 : decode cX5_warnAll 48 = .ok (.aload_n 0, 1) := by decide +kernel
theorem dX5_warnAll_49 : decode cX5_warnAll 49 = .ok (.iload 4, 2) := by decide +kernel
theorem dX5_warnAll_51 : decode cX5_warnAll 51 = .ok (.iload_n 3, 1) := by decide +kernel
theorem dX5_warnAll_52 : decode cX5_warnAll 52 = .ok (.invokevirtual 49, 3) := by decide +kernel
theorem dX5_warnAll_55 : decode cX5_warnAll 55 = .ok (.ifCond .eq 23, 3) := by decide +kernel
theorem dX5_warnAll_58 : decode cX5_warnAll 58 = .ok (.aload_n 0, 1) := by decide +kernel
theorem dX5_warnAll_59 : decode cX5_warnAll 59 = .ok (.getfield 9, 3) := by decide +kernel
theorem dX5_warnAll_62 : decode cX5_warnAll 62 = .ok (.iload 4, 2) := by decide +kernel
theorem dX5_warnAll_64 : decode cX5_warnAll 64 = .ok (.iconst 1, 1) := by decide +kernel
theorem dX5_warnAll_65 : decode cX5_warnAll 65 = .ok (.bastore, 1) := by decide +kernel
theorem dX5_warnAll_66 : decode cX5_warnAll 66 = .ok (.aload_n 0, 1) := by decide +kernel
theorem dX5_warnAll_67 : decode cX5_warnAll 67 = .ok (.iload_n 2, 1) := by decide +kernel
theorem dX5_warnAll_68 : decode cX5_warnAll 68 = .ok (.iload 4, 2) := by decide +kernel
theorem dX5_warnAll_70 : decode cX5_warnAll 70 = .ok (.iload 5, 2) := by decide +kernel
theorem dX5_warnAll_72 : decode cX5_warnAll 72 = .ok (.invokevirtual 53, 3) := by decide +kernel
theorem dX5_warnAll_75 : decode cX5_warnAll 75 = .ok (.goto 36, 3) := by decide +kernel
theorem dX5_warnAll_78 : decode cX5_warnAll 78 = .ok (.aload_n 0, 1) := by decide +kernel
theorem dX5_warnAll_79 : decode cX5_warnAll 79 = .ok (.getfield 9, 3) := by decide +kernel
theorem dX5_warnAll_82 : decode cX5_warnAll 82 = .ok (.iload 4, 2) := by decide +kernel
theorem dX5_warnAll_84 : decode cX5_warnAll 84 = .ok (.baload, 1) := by decide +kernel
theorem dX5_warnAll_85 : decode cX5_warnAll 85 = .ok (.ifCond .eq 26, 3) := by decide +kernel
theorem dX5_warnAll_88 : decode cX5_warnAll 88 = .ok (.iload 5, 2) := by decide +kernel
theorem dX5_warnAll_90 : decode cX5_warnAll 90 = .ok (.aload_n 0, 1) := by decide +kernel
theorem dX5_warnAll_91 : decode cX5_warnAll 91 = .ok (.getfield 19, 3) := by decide +kernel
theorem dX5_warnAll_94 : decode cX5_warnAll 94 = .ok (.iload 4, 2) := by decide +kernel
theorem dX5_warnAll_96 : decode cX5_warnAll 96 = .ok (.iaload, 1) := by decide +kernel
theorem dX5_warnAll_97 : decode cX5_warnAll 97 = .ok (.bipush 10, 2) := by decide +kernel
theorem dX5_warnAll_99 : decode cX5_warnAll 99 = .ok (.isub, 1) := by decide +kernel
theorem dX5_warnAll_100 : decode cX5_warnAll 100 = .ok (.if_icmp .ge 11, 3) := by decide +kernel
theorem dX5_warnAll_103 : decode cX5_warnAll 103 = .ok (.aload_n 0, 1) := by decide +kernel
theorem dX5_warnAll_104 : decode cX5_warnAll 104 = .ok (.getfield 9, 3) := by decide +kernel
theorem dX5_warnAll_107 : decode cX5_warnAll 107 = .ok (.iload 4, 2) := by decide +kernel
theorem dX5_warnAll_109 : decode cX5_warnAll 109 = .ok (.iconst 0, 1) := by decide +kernel
theorem dX5_warnAll_110 : decode cX5_warnAll 110 = .ok (.bastore, 1) := by decide +kernel
theorem dX5_warnAll_111 : decode cX5_warnAll 111 = .ok (.iinc 4 1, 3) := by decide +kernel
theorem dX5_warnAll_114 : decode cX5_warnAll 114 = .ok (.goto (-111), 3) := by decide +kernel
theorem dX5_warnAll_117 : decode cX5_warnAll 117 = .ok (.return_, 1) := by decide +kernel
theorem dX5_hasHour_0 : decode cX5_hasHour 0 = .ok (.aload_n 0, 1) := by decide +kernel
theorem dX5_hasHour_1 : decode cX5_hasHour 1 = .ok (.getfield 22, 3) := by decide +kernel
theorem dX5_hasHour_4 : decode cX5_hasHour 4 = .ok (.iload_n 1, 1) := by decide +kernel
theorem dX5_hasHour_5 : decode cX5_hasHour 5 = .ok (.iaload, 1) := by decide +kernel
theorem dX5_hasHour_6 : decode cX5_hasHour 6 = .ok (.iload_n 2, 1) := by decide +kernel
theorem dX5_hasHour_7 : decode cX5_hasHour 7 = .ok (.if_icmp .gt 7, 3) := by decide +kernel
theorem dX5_hasHour_10 : decode cX5_hasHour 10 = .ok (.iconst 1, 1) := by decide +kernel
theorem dX5_hasHour_11 : decode cX5_hasHour 11 = .ok (.goto 4, 3) := by decide +kernel
theorem dX5_hasHour_14 : decode cX5_hasHour 14 = .ok (.iconst 0, 1) := by decide +kernel
theorem dX5_hasHour_15 : decode cX5_hasHour 15 = .ok (.istore_n 3, 1) := by decide +kernel
theorem dX5_hasHour_16 : decode cX5_hasHour 16 = .ok (.iload_n 2, 1) := by decide +kernel
theorem dX5_hasHour_17 : decode cX5_hasHour 17 = .ok (.aload_n 0, 1) := by decide +kernel
theorem dX5_hasHour_18 : decode cX5_hasHour 18 = .ok (.getfield 25, 3) := by decide +kernel
theorem dX5_hasHour_21 : decode cX5_hasHour 21 = .ok (.iload_n 1, 1) := by decide +kernel
theorem dX5_hasHour_22 : decode cX5_hasHour 22 = .ok (.iaload, 1) := by decide +kernel
theorem dX5_hasHour_23 : decode cX5_hasHour 23 = .ok (.if_icmp .gt 7, 3) := by decide +kernel
theorem dX5_hasHour_26 : decode cX5_hasHour 26 = .ok (.iconst 1, 1) := by decide +kernel
theorem dX5_hasHour_27 : decode cX5_hasHour 27 = .ok (.goto 4, 3) := by decide +kernel
theorem dX5_hasHour_30 : decode cX5_hasHour 30 = .ok (.iconst 0, 1) := by decide +kernel
theorem dX5_hasHour_31 : decode cX5_hasHour 31 = .ok (.istore 4, 2) := by decide +kernel
theorem dX5_hasHour_33 : decode cX5_hasHour 33 = .ok (.aload_n 0, 1) := by decide +kernel
theorem dX5_hasHour_34 : decode cX5_hasHour 34 = .ok (.getfield 25, 3) := by decide +kernel
theorem dX5_hasHour_37 : decode cX5_hasHour 37 = .ok (.iload_n 1, 1) := by decide +kernel
theorem dX5_hasHour_38 : decode cX5_hasHour 38 = .ok (.iaload, 1) := by decide +kernel
theorem dX5_hasHour_39 : decode cX5_hasHour 39 = .ok (.aload_n 0, 1) := by decide +kernel
theorem dX5_hasHour_40 : decode cX5_hasHour 40 = .ok (.getfield 22, 3) := by decide +kernel
theorem dX5_hasHour_43 : decode cX5_hasHour 43 = .ok (.iload_n 1, 1) := by decide +kernel
theorem dX5_hasHour_44 : decode cX5_hasHour 44 = .ok (.iaload, 1) := by decide +kernel
theorem dX5_hasHour_45 : decode cX5_hasHour 45 = .ok (.if_icmp .ge 7, 3) := by decide +kernel
theorem dX5_hasHour_48 : decode cX5_hasHour 48 = .ok (.iconst 1, 1) := by decide +kernel
theorem dX5_hasHour_49 : decode cX5_hasHour 49 = .ok (.goto 4, 3) := by decide +kernel
theorem dX5_hasHour_52 : decode cX5_hasHour 52 = .ok (.iconst 0, 1) := by decide +kernel
theorem dX5_hasHour_53 : decode cX5_hasHour 53 = .ok (.istore 5, 2) := by decide +kernel
theorem dX5_hasHour_55 : decode cX5_hasHour 55 = .ok (.iload 5, 2) := by decide +kernel
theorem dX5_hasHour_57 : decode cX5_hasHour 57 = .ok (.ifCond .eq 20, 3) := by decide +kernel
theorem dX5_hasHour_60 : decode cX5_hasHour 60 = .ok (.iload_n 3, 1) := by decide +kernel
theorem dX5_hasHour_61 : decode cX5_hasHour 61 = .ok (.ifCond .ne 8, 3) := by decide +kernel
theorem dX5_hasHour_64 : decode cX5_hasHour 64 = .ok (.iload 4, 2) := by decide +kernel
theorem dX5_hasHour_66 : decode cX5_hasHour 66 = .ok (.ifCond .eq 7, 3) := by decide +kernel
theorem dX5_hasHour_69 : decode cX5_hasHour 69 = .ok (.iconst 1, 1) := by decide +kernel
theorem dX5_hasHour_70 : decode cX5_hasHour 70 = .ok (.goto 21, 3) := by decide +kernel
theorem dX5_hasHour_73 : decode cX5_hasHour 73 = .ok (.iconst 0, 1) := by decide +kernel
theorem dX5_hasHour_74 : decode cX5_hasHour 74 = .ok (.goto 17, 3) := by decide +kernel
theorem dX5_hasHour_77 : decode cX5_hasHour 77 = .ok (.iload_n 3, 1) := by decide +kernel
theorem dX5_hasHour_78 : decode cX5_hasHour 78 = .ok (.ifCond .eq 12, 3) := by decide +kernel
theorem dX5_hasHour_81 : decode cX5_hasHour 81 = .ok (.iload 4, 2) := by decide +kernel
theorem dX5_hasHour_83 : decode cX5_hasHour 83 = .ok (.ifCond .eq 7, 3) := by decide +kernel
theorem dX5_hasHour_86 : decode cX5_hasHour 86 = .ok (.iconst 1, 1) := by decide +kernel
theorem dX5_hasHour_87 : decode cX5_hasHour 87 = .ok (.goto 4, 3) := by decide +kernel
theorem dX5_hasHour_90 : decode cX5_hasHour 90 = .ok (.iconst 0, 1) := by decide +kernel
theorem dX5_hasHour_91 : decode cX5_hasHour 91 = .ok (.ireturn, 1) := by decide +kernel
theorem dX5_send_0 : decode cX5_send 0 = .ok (.aload_n 0, 1) := by decide +kernel
theorem dX5_send_1 : decode cX5_send 1 = .ok (.getfield 41, 3) := by decide +kernel
theorem dX5_send_4 : decode cX5_send 4 = .ok (.aload_n 0, 1) := by decide +kernel
theorem dX5_send_5 : decode cX5_send 5 = .ok (.getfield 32, 3) := by decide +kernel
theorem dX5_send_8 : decode cX5_send 8 = .ok (.arraylength, 1) := by decide +kernel
theorem dX5_send_9 : decode cX5_send 9 = .ok (.if_icmp .lt 54, 3) := by decide +kernel
theorem dX5_send_12 : decode cX5_send 12 = .ok (.aload_n 0, 1) := by decide +kernel
theorem dX5_send_13 : decode cX5_send 13 = .ok (.aload_n 0, 1) := by decide +kernel
theorem dX5_send_14 : decode cX5_send 14 = .ok (.getfield 32, 3) := by decide +kernel
theorem dX5_send_17 : decode cX5_send 17 = .ok (.aload_n 0, 1) := by decide +kernel
theorem dX5_send_18 : decode cX5_send 18 = .ok (.getfield 41, 3) := by decide +kernel
theorem dX5_send_21 : decode cX5_send 21 = .ok (.iconst 2, 1) := by decide +kernel
theorem dX5_send_22 : decode cX5_send 22 = .ok (.imul, 1) := by decide +kernel
theorem dX5_send_23 : decode cX5_send 23 = .ok (.invokestatic 57, 3) := by decide +kernel
theorem dX5_send_26 : decode cX5_send 26 = .ok (.putfield 32, 3) := by decide +kernel
theorem dX5_send_29 : decode cX5_send 29 = .ok (.aload_n 0, 1) := by decide +kernel
theorem dX5_send_30 : decode cX5_send 30 = .ok (.aload_n 0, 1) := by decide +kernel
theorem dX5_send_31 : decode cX5_send 31 = .ok (.getfield 35, 3) := by decide +kernel
theorem dX5_send_34 : decode cX5_send 34 = .ok (.aload_n 0, 1) := by decide +kernel
theorem dX5_send_35 : decode cX5_send 35 = .ok (.getfield 41, 3) := by decide +kernel
theorem dX5_send_38 : decode cX5_send 38 = .ok (.iconst 2, 1) := by decide +kernel
theorem dX5_send_39 : decode cX5_send 39 = .ok (.imul, 1) := by decide +kernel
theorem dX5_send_40 : decode cX5_send 40 = .ok (.invokestatic 57, 3) := by decide +kernel
theorem dX5_send_43 : decode cX5_send 43 = .ok (.putfield 35, 3) := by decide +kernel
theorem dX5_send_46 : decode cX5_send 46 = .ok (.aload_n 0, 1) := by decide +kernel
theorem dX5_send_47 : decode cX5_send 47 = .ok (.aload_n 0, 1) := by decide +kernel
theorem dX5_send_48 : decode cX5_send 48 = .ok (.getfield 38, 3) := by decide +kernel
theorem dX5_send_51 : decode cX5_send 51 = .ok (.aload_n 0, 1) := by decide +kernel
theorem dX5_send_52 : decode cX5_send 52 = .ok (.getfield 41, 3) := by decide +kernel
theorem dX5_send_55 : decode cX5_send 55 = .ok (.iconst 2, 1) := by decide +kernel
theorem dX5_send_56 : decode cX5_send 56 = .ok (.imul, 1) := by decide +kernel
theorem dX5_send_57 : decode cX5_send 57 = .ok (.invokestatic 57, 3) := by decide +kernel
theorem dX5_send_60 : decode cX5_send 60 = .ok (.putfield 38, 3) := by decide +kernel
theorem dX5_send_63 : decode cX5_send 63 = .ok (.aload_n 0, 1) := by decide +kernel
theorem dX5_send_64 : decode cX5_send 64 = .ok (.getfield 32, 3) := by decide +kernel
theorem dX5_send_67 : decode cX5_send 67 = .ok (.aload_n 0, 1) := by decide +kernel
theorem dX5_send_68 : decode cX5_send 68 = .ok (.getfield 41, 3) := by decide +kernel
theorem dX5_send_71 : decode cX5_send 71 = .ok (.iload_n 1, 1) := by decide +kernel
theorem dX5_send_72 : decode cX5_send 72 = .ok (.iastore, 1) := by decide +kernel
theorem dX5_send_73 : decode cX5_send 73 = .ok (.aload_n 0, 1) := by decide +kernel
theorem dX5_send_74 : decode cX5_send 74 = .ok (.getfield 35, 3) := by decide +kernel
theorem dX5_send_77 : decode cX5_send 77 = .ok (.aload_n 0, 1) := by decide +kernel
theorem dX5_send_78 : decode cX5_send 78 = .ok (.getfield 41, 3) := by decide +kernel
theorem dX5_send_81 : decode cX5_send 81 = .ok (.iload_n 2, 1) := by decide +kernel
theorem dX5_send_82 : decode cX5_send 82 = .ok (.iastore, 1) := by decide +kernel
theorem dX5_send_83 : decode cX5_send 83 = .ok (.aload_n 0, 1) := by decide +kernel
theorem dX5_send_84 : decode cX5_send 84 = .ok (.getfield 38, 3) := by decide +kernel
theorem dX5_send_87 : decode cX5_send 87 = .ok (.aload_n 0, 1) := by decide +kernel
theorem dX5_send_88 : decode cX5_send 88 = .ok (.getfield 41, 3) := by decide +kernel
theorem dX5_send_91 : decode cX5_send 91 = .ok (.iload_n 3, 1) := by decide +kernel
theorem dX5_send_92 : decode cX5_send 92 = .ok (.iastore, 1) := by decide +kernel
theorem dX5_send_93 : decode cX5_send 93 = .ok (.aload_n 0, 1) := by decide +kernel
theorem dX5_send_94 : decode cX5_send 94 = .ok (.dup, 1) := by decide +kernel
theorem dX5_send_95 : decode cX5_send 95 = .ok (.getfield 41, 3) := by decide +kernel
theorem dX5_send_98 : decode cX5_send 98 = .ok (.iconst 1, 1) := by decide +kernel
theorem dX5_send_99 : decode cX5_send 99 = .ok (.iadd, 1) := by decide +kernel
theorem dX5_send_100 : decode cX5_send 100 = .ok (.putfield 41, 3) := by decide +kernel
theorem dX5_send_103 : decode cX5_send 103 = .ok (.return_, 1) := by decide +kernel
theorem dX5_sentAreLike_0 : decode cX5_sentAreLike 0 = .ok (.aload_n 0, 1) := by decide +kernel
theorem dX5_sentAreLike_1 : decode cX5_sentAreLike 1 = .ok (.getfield 41, 3) := by decide +kernel
theorem dX5_sentAreLike_4 : decode cX5_sentAreLike 4 = .ok (.aload_n 1, 1) := by decide +kernel
theorem dX5_sentAreLike_5 : decode cX5_sentAreLike 5 = .ok (.getfield 41, 3) := by decide +kernel
theorem dX5_sentAreLike_8 : decode cX5_sentAreLike 8 = .ok (.if_icmp .eq 5, 3) := by decide +kernel
theorem dX5_sentAreLike_11 : decode cX5_sentAreLike 11 = .ok (.iconst 0, 1) := by decide +kernel
theorem dX5_sentAreLike_12 : decode cX5_sentAreLike 12 = .ok (.ireturn, 1) := by decide +kernel
theorem dX5_sentAreLike_13 : decode cX5_sentAreLike 13 = .ok (.iconst 0, 1) := by decide +kernel
theorem dX5_sentAreLike_14 : decode cX5_sentAreLike 14 = .ok (.istore_n 2, 1) := by decide +kernel
theorem dX5_sentAreLike_15 : decode cX5_sentAreLike 15 = .ok (.iload_n 2, 1) := by decide +kernel
theorem dX5_sentAreLike_16 : decode cX5_sentAreLike 16 = .ok (.aload_n 0, 1) := by decide +kernel
theorem dX5_sentAreLike_17 : decode cX5_sentAreLike 17 = .ok (.getfield 41, 3) := by decide +kernel
theorem dX5_sentAreLike_20 : decode cX5_sentAreLike 20 = .ok (.if_icmp .ge 56, 3) := by decide +kernel
theorem dX5_sentAreLike_23 : decode cX5_sentAreLike 23 = .ok (.aload_n 0, 1) := by decide +kernel
theorem dX5_sentAreLike_24 : decode cX5_sentAreLike 24 = .ok (.getfield 32, 3) := by decide +kernel
theorem dX5_sentAreLike_27 : decode cX5_sentAreLike 27 = .ok (.iload_n 2, 1) := by decide +kernel
theorem dX5_sentAreLike_28 : decode cX5_sentAreLike 28 = .ok (.iaload, 1) := by decide +kernel
theorem dX5_sentAreLike_29 : decode cX5_sentAreLike 29 = .ok (.aload_n 1, 1) := by decide +kernel
theorem dX5_sentAreLike_30 : decode cX5_sentAreLike 30 = .ok (.getfield 32, 3) := by decide +kernel
theorem dX5_sentAreLike_33 : decode cX5_sentAreLike 33 = .ok (.iload_n 2, 1) := by decide +kernel
theorem dX5_sentAreLike_34 : decode cX5_sentAreLike 34 = .ok (.iaload, 1) := by decide +kernel
theorem dX5_sentAreLike_35 : decode cX5_sentAreLike 35 = .ok (.if_icmp .ne 33, 3) := by decide +kernel
theorem dX5_sentAreLike_38 : decode cX5_sentAreLike 38 = .ok (.aload_n 0, 1) := by decide +kernel
theorem dX5_sentAreLike_39 : decode cX5_sentAreLike 39 = .ok (.getfield 35, 3) := by decide +kernel
theorem dX5_sentAreLike_42 : decode cX5_sentAreLike 42 = .ok (.iload_n 2, 1) := by decide +kernel
theorem dX5_sentAreLike_43 : decode cX5_sentAreLike 43 = .ok (.iaload, 1) := by decide +kernel
theorem dX5_sentAreLike_44 : decode cX5_sentAreLike 44 = .ok (.aload_n 1, 1) := by decide +kernel
theorem dX5_sentAreLike_45 : decode cX5_sentAreLike 45 = .ok (.getfield 35, 3) := by decide +kernel
theorem dX5_sentAreLike_48 : decode cX5_sentAreLike 48 = .ok (.iload_n 2, 1) := by decide +kernel
theorem dX5_sentAreLike_49 : decode cX5_sentAreLike 49 = .ok (.iaload, 1) := by decide +kernel
theorem dX5_sentAreLike_50 : decode cX5_sentAreLike 50 = .ok (.if_icmp .ne 18, 3) := by decide +kernel
theorem dX5_sentAreLike_53 : decode cX5_sentAreLike 53 = .ok (.aload_n 0, 1) := by decide +kernel
theorem dX5_sentAreLike_54 : decode cX5_sentAreLike 54 = .ok (.getfield 38, 3) := by decide +kernel
theorem dX5_sentAreLike_57 : decode cX5_sentAreLike 57 = .ok (.iload_n 2, 1) := by decide +kernel
theorem dX5_sentAreLike_58 : decode cX5_sentAreLike 58 = .ok (.iaload, 1) := by decide +kernel
theorem dX5_sentAreLike_59 : decode cX5_sentAreLike 59 = .ok (.aload_n 1, 1) := by decide +kernel
theorem dX5_sentAreLike_60 : decode cX5_sentAreLike 60 = .ok (.getfield 38, 3) := by decide +kernel
theorem dX5_sentAreLike_63 : decode cX5_sentAreLike 63 = .ok (.iload_n 2, 1) := by decide +kernel
theorem dX5_sentAreLike_64 : decode cX5_sentAreLike 64 = .ok (.iaload, 1) := by decide +kernel
theorem dX5_sentAreLike_65 : decode cX5_sentAreLike 65 = .ok (.if_icmp .eq 5, 3) := by decide +kernel
theorem dX5_sentAreLike_68 : decode cX5_sentAreLike 68 = .ok (.iconst 0, 1) := by decide +kernel
theorem dX5_sentAreLike_69 : decode cX5_sentAreLike 69 = .ok (.ireturn, 1) := by decide +kernel
theorem dX5_sentAreLike_70 : decode cX5_sentAreLike 70 = .ok (.iinc 2 1, 3) := by decide +kernel
theorem dX5_sentAreLike_73 : decode cX5_sentAreLike 73 = .ok (.goto (-58), 3) := by decide +kernel
theorem dX5_sentAreLike_76 : decode cX5_sentAreLike 76 = .ok (.iconst 1, 1) := by decide +kernel
theorem dX5_sentAreLike_77 : decode cX5_sentAreLike 77 = .ok (.ireturn, 1) := by decide +kernel
theorem dX6_init_0 : decode cX6_init 0 = .ok (.aload_n 0, 1) := by decide +kernel
theorem dX6_init_1 : decode cX6_init 1 = .ok (.invokespecial 3, 3) := by decide +kernel
theorem dX6_init_4 : decode cX6_init 4 = .ok (.aload_n 0, 1) := by decide +kernel
theorem dX6_init_5 : decode cX6_init 5 = .ok (.new 9, 3) := by decide +kernel
theorem dX6_init_8 : decode cX6_init 8 = .ok (.dup, 1) := by decide +kernel
theorem dX6_init_9 : decode cX6_init 9 = .ok (.invokespecial 11, 3) := by decide +kernel
theorem dX6_init_12 : decode cX6_init 12 = .ok (.putfield 12, 3) := by decide +kernel
theorem dX6_init_15 : decode cX6_init 15 = .ok (.aload_n 0, 1) := by decide +kernel
theorem dX6_init_16 : decode cX6_init 16 = .ok (.new 18, 3) := by decide +kernel
theorem dX6_init_19 : decode cX6_init 19 = .ok (.dup, 1) := by decide +kernel
theorem dX6_init_20 : decode cX6_init 20 = .ok (.invokespecial 20, 3) := by decide +kernel
theorem dX6_init_23 : decode cX6_init 23 = .ok (.putfield 21, 3) := by decide +kernel
theorem dX6_init_26 : decode cX6_init 26 = .ok (.aload_n 0, 1) := by decide +kernel
theorem dX6_init_27 : decode cX6_init 27 = .ok (.new 25, 3) := by decide +kernel
theorem dX6_init_30 : decode cX6_init 30 = .ok (.dup, 1) := by decide +kernel
theorem dX6_init_31 : decode cX6_init 31 = .ok (.invokespecial 27, 3) := by decide +kernel
theorem dX6_init_34 : decode cX6_init 34 = .ok (.putfield 28, 3) := by decide +kernel
theorem dX6_init_37 : decode cX6_init 37 = .ok (.aload_n 0, 1) := by decide +kernel
theorem dX6_init_38 : decode cX6_init 38 = .ok (.new 32, 3) := by decide +kernel
theorem dX6_init_41 : decode cX6_init 41 = .ok (.dup, 1) := by decide +kernel
theorem dX6_init_42 : decode cX6_init 42 = .ok (.invokespecial 34, 3) := by decide +kernel
theorem dX6_init_45 : decode cX6_init 45 = .ok (.putfield 35, 3) := by decide +kernel
theorem dX6_init_48 : decode cX6_init 48 = .ok (.aload_n 0, 1) := by decide +kernel
theorem dX6_init_49 : decode cX6_init 49 = .ok (.new 39, 3) := by decide +kernel
theorem dX6_init_52 : decode cX6_init 52 = .ok (.dup, 1) := by decide +kernel
theorem dX6_init_53 : decode cX6_init 53 = .ok (.invokespecial 41, 3) := by decide +kernel
theorem dX6_init_56 : decode cX6_init 56 = .ok (.putfield 42, 3) := by decide +kernel
theorem dX6_init_59 : decode cX6_init 59 = .ok (.aload_n 0, 1) := by decide +kernel
theorem dX6_init_60 : decode cX6_init 60 = .ok (.iconst 0, 1) := by decide +kernel
theorem dX6_init_61 : decode cX6_init 61 = .ok (.putfield 46, 3) := by decide +kernel
theorem dX6_init_64 : decode cX6_init 64 = .ok (.return_, 1) := by decide +kernel
theorem dX6_perform_0 : decode cX6_perform 0 = .ok (.aload_n 1, 1) := by decide +kernel
theorem dX6_perform_1 : decode cX6_perform 1 = .ok (.getfield 50, 3) := by decide +kernel
theorem dX6_perform_4 : decode cX6_perform 4 = .ok (.tableswitch 229 1 10 #[56, 72, 88, 108, 120, 136, 148, 164, 188, 204], 56) := by decide +kernel
theorem dX6_perform_60 : decode cX6_perform 60 = .ok (.aload_n 0, 1) := by decide +kernel
theorem dX6_perform_61 : decode cX6_perform 61 = .ok (.getfield 12, 3) := by decide +kernel
theorem dX6_perform_64 : decode cX6_perform 64 = .ok (.aload_n 1, 1) := by decide +kernel
theorem dX6_perform_65 : decode cX6_perform 65 = .ok (.getfield 55, 3) := by decide +kernel
theorem dX6_perform_68 : decode cX6_perform 68 = .ok (.aload_n 1, 1) := by decide +kernel
theorem dX6_perform_69 : decode cX6_perform 69 = .ok (.getfield 58, 3) := by decide +kernel
theorem dX6_perform_72 : decode cX6_perform 72 = .ok (.invokevirtual 61, 3) := by decide +kernel
theorem dX6_perform_75 : decode cX6_perform 75 = .ok (.ireturn, 1) := by decide +kernel
theorem dX6_perform_76 : decode cX6_perform 76 = .ok (.aload_n 0, 1) := by decide +kernel
theorem dX6_perform_77 : decode cX6_perform 77 = .ok (.getfield 12, 3) := by decide +kernel
theorem dX6_perform_80 : decode cX6_perform 80 = .ok (.aload_n 1, 1) := by decide +kernel
theorem dX6_perform_81 : decode cX6_perform 81 = .ok (.getfield 55, 3) := by decide +kernel
theorem dX6_perform_84 : decode cX6_perform 84 = .ok (.aload_n 1, 1) := by decide +kernel
theorem dX6_perform_85 : decode cX6_perform 85 = .ok (.getfield 58, 3) := by decide +kernel
theorem dX6_perform_88 : decode cX6_perform 88 = .ok (.invokevirtual 65, 3) := by decide +kernel
theorem dX6_perform_91 : decode cX6_perform 91 = .ok (.ireturn, 1) := by decide +kernel
theorem dX6_perform_92 : decode cX6_perform 92 = .ok (.aload_n 0, 1) := by decide +kernel
theorem dX6_perform_93 : decode cX6_perform 93 = .ok (.getfield 12, 3) := by decide +kernel
theorem dX6_perform_96 : decode cX6_perform 96 = .ok (.aload_n 1, 1) := by decide +kernel
theorem dX6_perform_97 : decode cX6_perform 97 = .ok (.getfield 55, 3) := by decide +kernel
theorem dX6_perform_100 : decode cX6_perform 100 = .ok (.aload_n 1, 1) := by decide +kernel
theorem dX6_perform_101 : decode cX6_perform 101 = .ok (.getfield 58, 3) := by decide +kernel
theorem dX6_perform_104 : decode cX6_perform 104 = .ok (.aload_n 1, 1) := by decide +kernel
theorem dX6_perform_105 : decode cX6_perform 105 = .ok (.getfield 68, 3) := by decide +kernel
theorem dX6_perform_108 : decode cX6_perform 108 = .ok (.invokevirtual 71, 3) := by decide +kernel
theorem dX6_perform_111 : decode cX6_perform 111 = .ok (.ireturn, 1) := by decide +kernel
theorem dX6_perform_112 : decode cX6_perform 112 = .ok (.aload_n 0, 1) := by decide +kernel
theorem dX6_perform_113 : decode cX6_perform 113 = .ok (.getfield 12, 3) := by decide +kernel
theorem dX6_perform_116 : decode cX6_perform 116 = .ok (.aload_n 1, 1) := by decide +kernel
theorem dX6_perform_117 : decode cX6_perform 117 = .ok (.getfield 55, 3) := by decide +kernel
theorem dX6_perform_120 : decode cX6_perform 120 = .ok (.invokevirtual 75, 3) := by decide +kernel
theorem dX6_perform_123 : decode cX6_perform 123 = .ok (.ireturn, 1) := by decide +kernel
theorem dX6_perform_124 : decode cX6_perform 124 = .ok (.aload_n 0, 1) := by decide +kernel
theorem dX6_perform_125 : decode cX6_perform 125 = .ok (.getfield 12, 3) := by decide +kernel
theorem dX6_perform_128 : decode cX6_perform 128 = .ok (.aload_n 1, 1) := by decide +kernel
theorem dX6_perform_129 : decode cX6_perform 129 = .ok (.getfield 55, 3) := by decide +kernel
theorem dX6_perform_132 : decode cX6_perform 132 = .ok (.aload_n 1, 1) := by decide +kernel
theorem dX6_perform_133 : decode cX6_perform 133 = .ok (.getfield 58, 3) := by decide +kernel
theorem dX6_perform_136 : decode cX6_perform 136 = .ok (.invokevirtual 79, 3) := by decide +kernel
theorem dX6_perform_139 : decode cX6_perform 139 = .ok (.ireturn, 1) := by decide +kernel
theorem dX6_perform_140 : decode cX6_perform 140 = .ok (.aload_n 0, 1) := by decide +kernel
theorem dX6_perform_141 : decode cX6_perform 141 = .ok (.getfield 28, 3) := by decide +kernel
theorem dX6_perform_144 : decode cX6_perform 144 = .ok (.aload_n 1, 1) := by decide +kernel
theorem dX6_perform_145 : decode cX6_perform 145 = .ok (.getfield 55, 3) := by decide +kernel
theorem dX6_perform_148 : decode cX6_perform 148 = .ok (.invokevirtual 82, 3) := by decide +kernel
theorem dX6_perform_151 : decode cX6_perform 151 = .ok (.ireturn, 1) := by decide +kernel
theorem dX6_perform_152 : decode cX6_perform 152 = .ok (.aload_n 0, 1) := by decide +kernel
theorem dX6_perform_153 : decode cX6_perform 153 = .ok (.getfield 28, 3) := by decide +kernel
theorem dX6_perform_156 : decode cX6_perform 156 = .ok (.aload_n 1, 1) := by decide +kernel
theorem dX6_perform_157 : decode cX6_perform 157 = .ok (.getfield 55, 3) := by decide +kernel
theorem dX6_perform_160 : decode cX6_perform 160 = .ok (.aload_n 1, 1) := by decide +kernel
theorem dX6_perform_161 : decode cX6_perform 161 = .ok (.getfield 58, 3) := by decide +kernel
theorem dX6_perform_164 : decode cX6_perform 164 = .ok (.invokevirtual 85, 3) := by decide +kernel
theorem dX6_perform_167 : decode cX6_perform 167 = .ok (.ireturn, 1) := by decide +kernel
theorem dX6_perform_168 : decode cX6_perform 168 = .ok (.aload_n 0, 1) := by decide +kernel
theorem dX6_perform_169 : decode cX6_perform 169 = .ok (.getfield 35, 3) := by decide +kernel
theorem dX6_perform_172 : decode cX6_perform 172 = .ok (.aload_n 1, 1) := by decide +kernel
theorem dX6_perform_173 : decode cX6_perform 173 = .ok (.getfield 55, 3) := by decide +kernel
theorem dX6_perform_176 : decode cX6_perform 176 = .ok (.aload_n 1, 1) := by decide +kernel
theorem dX6_perform_177 : decode cX6_perform 177 = .ok (.getfield 58, 3) := by decide +kernel
theorem dX6_perform_180 : decode cX6_perform 180 = .ok (.aload_n 1, 1) := by decide +kernel
theorem dX6_perform_181 : decode cX6_perform 181 = .ok (.getfield 68, 3) := by decide +kernel
theorem dX6_perform_184 : decode cX6_perform 184 = .ok (.aload_n 1, 1) := by decide +kernel
theorem dX6_perform_185 : decode cX6_perform 185 = .ok (.getfield 88, 3) := by decide +kernel
theorem dX6_perform_188 : decode cX6_perform 188 = .ok (.invokevirtual 91, 3) := by decide +kernel
theorem dX6_perform_191 : decode cX6_perform 191 = .ok (.ireturn, 1) := by decide +kernel
theorem dX6_perform_192 : decode cX6_perform 192 = .ok (.aload_n 0, 1) := by decide +kernel
theorem dX6_perform_193 : decode cX6_perform 193 = .ok (.getfield 42, 3) := by decide +kernel
theorem dX6_perform_196 : decode cX6_perform 196 = .ok (.aload_n 1, 1) := by decide +kernel
theorem dX6_perform_197 : decode cX6_perform 197 = .ok (.getfield 55, 3) := by decide +kernel
theorem dX6_perform_200 : decode cX6_perform 200 = .ok (.aload_n 1, 1) := by decide +kernel
theorem dX6_perform_201 : decode cX6_perform 201 = .ok (.getfield 58, 3) := by decide +kernel
