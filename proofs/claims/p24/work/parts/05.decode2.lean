theorem dX6_perform_204 : decode cX6_perform 204 = .ok (.invokevirtual 94, 3) := by decide +kernel
theorem dX6_perform_207 : decode cX6_perform 207 = .ok (.ireturn, 1) := by decide +kernel
theorem dX6_perform_208 : decode cX6_perform 208 = .ok (.iconst 0, 1) := by decide +kernel
theorem dX6_perform_209 : decode cX6_perform 209 = .ok (.istore_n 2, 1) := by decide +kernel
theorem dX6_perform_210 : decode cX6_perform 210 = .ok (.iload_n 2, 1) := by decide +kernel
theorem dX6_perform_211 : decode cX6_perform 211 = .ok (.aload_n 1, 1) := by decide +kernel
theorem dX6_perform_212 : decode cX6_perform 212 = .ok (.getfield 55, 3) := by decide +kernel
theorem dX6_perform_215 : decode cX6_perform 215 = .ok (.if_icmp .ge 13, 3) := by decide +kernel
theorem dX6_perform_218 : decode cX6_perform 218 = .ok (.aload_n 0, 1) := by decide +kernel
theorem dX6_perform_219 : decode cX6_perform 219 = .ok (.invokevirtual 96, 3) := by decide +kernel
theorem dX6_perform_222 : decode cX6_perform 222 = .ok (.iinc 2 1, 3) := by decide +kernel
theorem dX6_perform_225 : decode cX6_perform 225 = .ok (.goto (-15), 3) := by decide +kernel
theorem dX6_perform_228 : decode cX6_perform 228 = .ok (.aload_n 0, 1) := by decide +kernel
theorem dX6_perform_229 : decode cX6_perform 229 = .ok (.getfield 46, 3) := by decide +kernel
theorem dX6_perform_232 : decode cX6_perform 232 = .ok (.ireturn, 1) := by decide +kernel
theorem dX6_perform_233 : decode cX6_perform 233 = .ok (.iconst 0, 1) := by decide +kernel
theorem dX6_perform_234 : decode cX6_perform 234 = .ok (.ireturn, 1) := by decide +kernel
theorem dX6_runHour_0 : decode cX6_runHour 0 = .ok (.aload_n 0, 1) := by decide +kernel
theorem dX6_runHour_1 : decode cX6_runHour 1 = .ok (.getfield 46, 3) := by decide +kernel
theorem dX6_runHour_4 : decode cX6_runHour 4 = .ok (.bipush 24, 2) := by decide +kernel
theorem dX6_runHour_6 : decode cX6_runHour 6 = .ok (.irem, 1) := by decide +kernel
theorem dX6_runHour_7 : decode cX6_runHour 7 = .ok (.istore_n 1, 1) := by decide +kernel
theorem dX6_runHour_8 : decode cX6_runHour 8 = .ok (.aload_n 0, 1) := by decide +kernel
theorem dX6_runHour_9 : decode cX6_runHour 9 = .ok (.getfield 12, 3) := by decide +kernel
theorem dX6_runHour_12 : decode cX6_runHour 12 = .ok (.invokevirtual 99, 3) := by decide +kernel
theorem dX6_runHour_15 : decode cX6_runHour 15 = .ok (.aload_n 0, 1) := by decide +kernel
theorem dX6_runHour_16 : decode cX6_runHour 16 = .ok (.getfield 28, 3) := by decide +kernel
theorem dX6_runHour_19 : decode cX6_runHour 19 = .ok (.invokevirtual 102, 3) := by decide +kernel
theorem dX6_runHour_22 : decode cX6_runHour 22 = .ok (.aload_n 0, 1) := by decide +kernel
theorem dX6_runHour_23 : decode cX6_runHour 23 = .ok (.getfield 28, 3) := by decide +kernel
theorem dX6_runHour_26 : decode cX6_runHour 26 = .ok (.aload_n 0, 1) := by decide +kernel
theorem dX6_runHour_27 : decode cX6_runHour 27 = .ok (.getfield 12, 3) := by decide +kernel
theorem dX6_runHour_30 : decode cX6_runHour 30 = .ok (.invokevirtual 105, 3) := by decide +kernel
theorem dX6_runHour_33 : decode cX6_runHour 33 = .ok (.aload_n 0, 1) := by decide +kernel
theorem dX6_runHour_34 : decode cX6_runHour 34 = .ok (.getfield 35, 3) := by decide +kernel
theorem dX6_runHour_37 : decode cX6_runHour 37 = .ok (.aload_n 0, 1) := by decide +kernel
theorem dX6_runHour_38 : decode cX6_runHour 38 = .ok (.getfield 12, 3) := by decide +kernel
theorem dX6_runHour_41 : decode cX6_runHour 41 = .ok (.aload_n 0, 1) := by decide +kernel
theorem dX6_runHour_42 : decode cX6_runHour 42 = .ok (.getfield 46, 3) := by decide +kernel
theorem dX6_runHour_45 : decode cX6_runHour 45 = .ok (.iload_n 1, 1) := by decide +kernel
theorem dX6_runHour_46 : decode cX6_runHour 46 = .ok (.invokevirtual 109, 3) := by decide +kernel
theorem dX6_runHour_49 : decode cX6_runHour 49 = .ok (.iload_n 1, 1) := by decide +kernel
theorem dX6_runHour_50 : decode cX6_runHour 50 = .ok (.bipush 23, 2) := by decide +kernel
theorem dX6_runHour_52 : decode cX6_runHour 52 = .ok (.if_icmp .ne 37, 3) := by decide +kernel
theorem dX6_runHour_55 : decode cX6_runHour 55 = .ok (.aload_n 0, 1) := by decide +kernel
theorem dX6_runHour_56 : decode cX6_runHour 56 = .ok (.getfield 42, 3) := by decide +kernel
theorem dX6_runHour_59 : decode cX6_runHour 59 = .ok (.getfield 113, 3) := by decide +kernel
theorem dX6_runHour_62 : decode cX6_runHour 62 = .ok (.ifCond .le 27, 3) := by decide +kernel
theorem dX6_runHour_65 : decode cX6_runHour 65 = .ok (.aload_n 0, 1) := by decide +kernel
theorem dX6_runHour_66 : decode cX6_runHour 66 = .ok (.getfield 21, 3) := by decide +kernel
theorem dX6_runHour_69 : decode cX6_runHour 69 = .ok (.aload_n 0, 1) := by decide +kernel
theorem dX6_runHour_70 : decode cX6_runHour 70 = .ok (.getfield 12, 3) := by decide +kernel
theorem dX6_runHour_73 : decode cX6_runHour 73 = .ok (.bipush 12, 2) := by decide +kernel
theorem dX6_runHour_75 : decode cX6_runHour 75 = .ok (.invokevirtual 116, 3) := by decide +kernel
theorem dX6_runHour_78 : decode cX6_runHour 78 = .ok (.aload_n 0, 1) := by decide +kernel
theorem dX6_runHour_79 : decode cX6_runHour 79 = .ok (.getfield 42, 3) := by decide +kernel
theorem dX6_runHour_82 : decode cX6_runHour 82 = .ok (.aload_n 0, 1) := by decide +kernel
theorem dX6_runHour_83 : decode cX6_runHour 83 = .ok (.getfield 21, 3) := by decide +kernel
theorem dX6_runHour_86 : decode cX6_runHour 86 = .ok (.invokevirtual 120, 3) := by decide +kernel
theorem dX6_runHour_89 : decode cX6_runHour 89 = .ok (.aload_n 0, 1) := by decide +kernel
theorem dX6_runHour_90 : decode cX6_runHour 90 = .ok (.dup, 1) := by decide +kernel
theorem dX6_runHour_91 : decode cX6_runHour 91 = .ok (.getfield 46, 3) := by decide +kernel
theorem dX6_runHour_94 : decode cX6_runHour 94 = .ok (.iconst 1, 1) := by decide +kernel
theorem dX6_runHour_95 : decode cX6_runHour 95 = .ok (.iadd, 1) := by decide +kernel
theorem dX6_runHour_96 : decode cX6_runHour 96 = .ok (.putfield 46, 3) := by decide +kernel
theorem dX6_runHour_99 : decode cX6_runHour 99 = .ok (.aload_n 0, 1) := by decide +kernel
theorem dX6_runHour_100 : decode cX6_runHour 100 = .ok (.getfield 28, 3) := by decide +kernel
theorem dX6_runHour_103 : decode cX6_runHour 103 = .ok (.invokevirtual 124, 3) := by decide +kernel
theorem dX6_runHour_106 : decode cX6_runHour 106 = .ok (.return_, 1) := by decide +kernel
theorem dX6_isLike_0 : decode cX6_isLike 0 = .ok (.iconst 0, 1) := by decide +kernel
theorem dX6_isLike_1 : decode cX6_isLike 1 = .ok (.istore_n 2, 1) := by decide +kernel
theorem dX6_isLike_2 : decode cX6_isLike 2 = .ok (.iload_n 2, 1) := by decide +kernel
theorem dX6_isLike_3 : decode cX6_isLike 3 = .ok (.bipush 48, 2) := by decide +kernel
theorem dX6_isLike_5 : decode cX6_isLike 5 = .ok (.if_icmp .ge 32, 3) := by decide +kernel
theorem dX6_isLike_8 : decode cX6_isLike 8 = .ok (.aload_n 0, 1) := by decide +kernel
theorem dX6_isLike_9 : decode cX6_isLike 9 = .ok (.getfield 12, 3) := by decide +kernel
theorem dX6_isLike_12 : decode cX6_isLike 12 = .ok (.getfield 127, 3) := by decide +kernel
theorem dX6_isLike_15 : decode cX6_isLike 15 = .ok (.iload_n 2, 1) := by decide +kernel
theorem dX6_isLike_16 : decode cX6_isLike 16 = .ok (.iaload, 1) := by decide +kernel
theorem dX6_isLike_17 : decode cX6_isLike 17 = .ok (.aload_n 1, 1) := by decide +kernel
theorem dX6_isLike_18 : decode cX6_isLike 18 = .ok (.getfield 12, 3) := by decide +kernel
theorem dX6_isLike_21 : decode cX6_isLike 21 = .ok (.getfield 127, 3) := by decide +kernel
theorem dX6_isLike_24 : decode cX6_isLike 24 = .ok (.iload_n 2, 1) := by decide +kernel
theorem dX6_isLike_25 : decode cX6_isLike 25 = .ok (.iaload, 1) := by decide +kernel
theorem dX6_isLike_26 : decode cX6_isLike 26 = .ok (.if_icmp .eq 5, 3) := by decide +kernel
theorem dX6_isLike_29 : decode cX6_isLike 29 = .ok (.iconst 0, 1) := by decide +kernel
theorem dX6_isLike_30 : decode cX6_isLike 30 = .ok (.ireturn, 1) := by decide +kernel
theorem dX6_isLike_31 : decode cX6_isLike 31 = .ok (.iinc 2 1, 3) := by decide +kernel
theorem dX6_isLike_34 : decode cX6_isLike 34 = .ok (.goto (-32), 3) := by decide +kernel
theorem dX6_isLike_37 : decode cX6_isLike 37 = .ok (.aload_n 0, 1) := by decide +kernel
theorem dX6_isLike_38 : decode cX6_isLike 38 = .ok (.getfield 28, 3) := by decide +kernel
theorem dX6_isLike_41 : decode cX6_isLike 41 = .ok (.aload_n 1, 1) := by decide +kernel
theorem dX6_isLike_42 : decode cX6_isLike 42 = .ok (.getfield 28, 3) := by decide +kernel
theorem dX6_isLike_45 : decode cX6_isLike 45 = .ok (.invokevirtual 131, 3) := by decide +kernel
theorem dX6_isLike_48 : decode cX6_isLike 48 = .ok (.ifCond .eq 21, 3) := by decide +kernel
theorem dX6_isLike_51 : decode cX6_isLike 51 = .ok (.aload_n 0, 1) := by decide +kernel
theorem dX6_isLike_52 : decode cX6_isLike 52 = .ok (.getfield 35, 3) := by decide +kernel
theorem dX6_isLike_55 : decode cX6_isLike 55 = .ok (.aload_n 1, 1) := by decide +kernel
theorem dX6_isLike_56 : decode cX6_isLike 56 = .ok (.getfield 35, 3) := by decide +kernel
theorem dX6_isLike_59 : decode cX6_isLike 59 = .ok (.invokevirtual 135, 3) := by decide +kernel
theorem dX6_isLike_62 : decode cX6_isLike 62 = .ok (.ifCond .eq 7, 3) := by decide +kernel
theorem dX6_isLike_65 : decode cX6_isLike 65 = .ok (.iconst 1, 1) := by decide +kernel
theorem dX6_isLike_66 : decode cX6_isLike 66 = .ok (.goto 4, 3) := by decide +kernel
theorem dX6_isLike_69 : decode cX6_isLike 69 = .ok (.iconst 0, 1) := by decide +kernel
theorem dX6_isLike_70 : decode cX6_isLike 70 = .ok (.ireturn, 1) := by decide +kernel
theorem dX7_init_0 : decode cX7_init 0 = .ok (.aload_n 0, 1) := by decide +kernel
theorem dX7_init_1 : decode cX7_init 1 = .ok (.invokespecial 1, 3) := by decide +kernel
theorem dX7_init_4 : decode cX7_init 4 = .ok (.aload_n 0, 1) := by decide +kernel
theorem dX7_init_5 : decode cX7_init 5 = .ok (.new 7, 3) := by decide +kernel
theorem dX7_init_8 : decode cX7_init 8 = .ok (.dup, 1) := by decide +kernel
theorem dX7_init_9 : decode cX7_init 9 = .ok (.invokespecial 9, 3) := by decide +kernel
theorem dX7_init_12 : decode cX7_init 12 = .ok (.putfield 10, 3) := by decide +kernel
theorem dX7_init_15 : decode cX7_init 15 = .ok (.aload_n 0, 1) := by decide +kernel
theorem dX7_init_16 : decode cX7_init 16 = .ok (.new 7, 3) := by decide +kernel
theorem dX7_init_19 : decode cX7_init 19 = .ok (.dup, 1) := by decide +kernel
theorem dX7_init_20 : decode cX7_init 20 = .ok (.invokespecial 9, 3) := by decide +kernel
theorem dX7_init_23 : decode cX7_init 23 = .ok (.putfield 16, 3) := by decide +kernel
theorem dX7_init_26 : decode cX7_init 26 = .ok (.aload_n 0, 1) := by decide +kernel
theorem dX7_init_27 : decode cX7_init 27 = .ok (.sipush 512, 3) := by decide +kernel
theorem dX7_init_30 : decode cX7_init 30 = .ok (.anewarray 19, 3) := by decide +kernel
theorem dX7_init_33 : decode cX7_init 33 = .ok (.putfield 21, 3) := by decide +kernel
theorem dX7_init_36 : decode cX7_init 36 = .ok (.aload_n 0, 1) := by decide +kernel
theorem dX7_init_37 : decode cX7_init 37 = .ok (.iconst 0, 1) := by decide +kernel
theorem dX7_init_38 : decode cX7_init 38 = .ok (.putfield 25, 3) := by decide +kernel
theorem dX7_init_41 : decode cX7_init 41 = .ok (.aload_n 0, 1) := by decide +kernel
theorem dX7_init_42 : decode cX7_init 42 = .ok (.iconst 0, 1) := by decide +kernel
theorem dX7_init_43 : decode cX7_init 43 = .ok (.putfield 29, 3) := by decide +kernel
theorem dX7_init_46 : decode cX7_init 46 = .ok (.return_, 1) := by decide +kernel
theorem dX7_setFuel_0 : decode cX7_setFuel 0 = .ok (.iload_n 1, 1) := by decide +kernel
theorem dX7_setFuel_1 : decode cX7_setFuel 1 = .ok (.iload_n 2, 1) := by decide +kernel
theorem dX7_setFuel_2 : decode cX7_setFuel 2 = .ok (.invokestatic 32, 3) := by decide +kernel
theorem dX7_setFuel_5 : decode cX7_setFuel 5 = .ok (.istore 4, 2) := by decide +kernel
theorem dX7_setFuel_7 : decode cX7_setFuel 7 = .ok (.iload_n 3, 1) := by decide +kernel
theorem dX7_setFuel_8 : decode cX7_setFuel 8 = .ok (.iconst 0, 1) := by decide +kernel
theorem dX7_setFuel_9 : decode cX7_setFuel 9 = .ok (.bipush 99, 2) := by decide +kernel
theorem dX7_setFuel_11 : decode cX7_setFuel 11 = .ok (.invokestatic 36, 3) := by decide +kernel
theorem dX7_setFuel_14 : decode cX7_setFuel 14 = .ok (.aload_n 0, 1) := by decide +kernel
theorem dX7_setFuel_15 : decode cX7_setFuel 15 = .ok (.getfield 10, 3) := by decide +kernel
theorem dX7_setFuel_18 : decode cX7_setFuel 18 = .ok (.aload_n 0, 1) := by decide +kernel
theorem dX7_setFuel_19 : decode cX7_setFuel 19 = .ok (.iconst 1, 1) := by decide +kernel
theorem dX7_setFuel_20 : decode cX7_setFuel 20 = .ok (.iload 4, 2) := by decide +kernel
theorem dX7_setFuel_22 : decode cX7_setFuel 22 = .ok (.iload_n 3, 1) := by decide +kernel
theorem dX7_setFuel_23 : decode cX7_setFuel 23 = .ok (.iconst 0, 1) := by decide +kernel
theorem dX7_setFuel_24 : decode cX7_setFuel 24 = .ok (.iconst 0, 1) := by decide +kernel
theorem dX7_setFuel_25 : decode cX7_setFuel 25 = .ok (.invokevirtual 40, 3) := by decide +kernel
theorem dX7_setFuel_28 : decode cX7_setFuel 28 = .ok (.invokevirtual 44, 3) := by decide +kernel
theorem dX7_setFuel_31 : decode cX7_setFuel 31 = .ok (.ireturn, 1) := by decide +kernel
theorem dX7_light_0 : decode cX7_light 0 = .ok (.iload_n 1, 1) := by decide +kernel
theorem dX7_light_1 : decode cX7_light 1 = .ok (.iload_n 2, 1) := by decide +kernel
theorem dX7_light_2 : decode cX7_light 2 = .ok (.invokestatic 32, 3) := by decide +kernel
theorem dX7_light_5 : decode cX7_light 5 = .ok (.istore 4, 2) := by decide +kernel
theorem dX7_light_7 : decode cX7_light 7 = .ok (.iload_n 3, 1) := by decide +kernel
theorem dX7_light_8 : decode cX7_light 8 = .ok (.iconst 1, 1) := by decide +kernel
theorem dX7_light_9 : decode cX7_light 9 = .ok (.bipush 9, 2) := by decide +kernel
theorem dX7_light_11 : decode cX7_light 11 = .ok (.invokestatic 36, 3) := by decide +kernel
theorem dX7_light_14 : decode cX7_light 14 = .ok (.aload_n 0, 1) := by decide +kernel
theorem dX7_light_15 : decode cX7_light 15 = .ok (.getfield 10, 3) := by decide +kernel
theorem dX7_light_18 : decode cX7_light 18 = .ok (.getfield 48, 3) := by decide +kernel
theorem dX7_light_21 : decode cX7_light 21 = .ok (.getfield 52, 3) := by decide +kernel
theorem dX7_light_24 : decode cX7_light 24 = .ok (.iload 4, 2) := by decide +kernel
theorem dX7_light_26 : decode cX7_light 26 = .ok (.iaload, 1) := by decide +kernel
theorem dX7_light_27 : decode cX7_light 27 = .ok (.ifCond .eq 19, 3) := by decide +kernel
theorem dX7_light_30 : decode cX7_light 30 = .ok (.aload_n 0, 1) := by decide +kernel
theorem dX7_light_31 : decode cX7_light 31 = .ok (.getfield 10, 3) := by decide +kernel
theorem dX7_light_34 : decode cX7_light 34 = .ok (.getfield 48, 3) := by decide +kernel
theorem dX7_light_37 : decode cX7_light 37 = .ok (.getfield 58, 3) := by decide +kernel
theorem dX7_light_40 : decode cX7_light 40 = .ok (.iload 4, 2) := by decide +kernel
theorem dX7_light_42 : decode cX7_light 42 = .ok (.baload, 1) := by decide +kernel
theorem dX7_light_43 : decode cX7_light 43 = .ok (.ifCond .eq 13, 3) := by decide +kernel
theorem dX7_light_46 : decode cX7_light 46 = .ok (.new 62, 3) := by decide +kernel
theorem dX7_light_49 : decode cX7_light 49 = .ok (.dup, 1) := by decide +kernel
theorem dX7_light_50 : decode cX7_light 50 = .ok (.ldc 64, 2) := by decide +kernel
theorem dX7_light_52 : decode cX7_light 52 = .ok (.invokespecial 66, 3) := by decide +kernel
theorem dX7_light_55 : decode cX7_light 55 = .ok (.athrow, 1) := by decide +kernel
theorem dX7_light_56 : decode cX7_light 56 = .ok (.aload_n 0, 1) := by decide +kernel
theorem dX7_light_57 : decode cX7_light 57 = .ok (.getfield 10, 3) := by decide +kernel
theorem dX7_light_60 : decode cX7_light 60 = .ok (.aload_n 0, 1) := by decide +kernel
theorem dX7_light_61 : decode cX7_light 61 = .ok (.iconst 2, 1) := by decide +kernel
theorem dX7_light_62 : decode cX7_light 62 = .ok (.iload 4, 2) := by decide +kernel
theorem dX7_light_64 : decode cX7_light 64 = .ok (.iload_n 3, 1) := by decide +kernel
theorem dX7_light_65 : decode cX7_light 65 = .ok (.iconst 0, 1) := by decide +kernel
theorem dX7_light_66 : decode cX7_light 66 = .ok (.iconst 0, 1) := by decide +kernel
theorem dX7_light_67 : decode cX7_light 67 = .ok (.invokevirtual 40, 3) := by decide +kernel
theorem dX7_light_70 : decode cX7_light 70 = .ok (.invokevirtual 44, 3) := by decide +kernel
theorem dX7_light_73 : decode cX7_light 73 = .ok (.iconst 1, 1) := by decide +kernel
theorem dX7_light_74 : decode cX7_light 74 = .ok (.if_icmp .ne 7, 3) := by decide +kernel
theorem dX7_light_77 : decode cX7_light 77 = .ok (.iconst 1, 1) := by decide +kernel
theorem dX7_light_78 : decode cX7_light 78 = .ok (.goto 4, 3) := by decide +kernel
theorem dX7_light_81 : decode cX7_light 81 = .ok (.iconst 0, 1) := by decide +kernel
theorem dX7_light_82 : decode cX7_light 82 = .ok (.ireturn, 1) := by decide +kernel
theorem dX7_setWind_0 : decode cX7_setWind 0 = .ok (.iload_n 1, 1) := by decide +kernel
theorem dX7_setWind_1 : decode cX7_setWind 1 = .ok (.iconst (-1), 1) := by decide +kernel
theorem dX7_setWind_2 : decode cX7_setWind 2 = .ok (.iconst 1, 1) := by decide +kernel
theorem dX7_setWind_3 : decode cX7_setWind 3 = .ok (.invokestatic 36, 3) := by decide +kernel
theorem dX7_setWind_6 : decode cX7_setWind 6 = .ok (.iload_n 2, 1) := by decide +kernel
theorem dX7_setWind_7 : decode cX7_setWind 7 = .ok (.iconst (-1), 1) := by decide +kernel
theorem dX7_setWind_8 : decode cX7_setWind 8 = .ok (.iconst 1, 1) := by decide +kernel
theorem dX7_setWind_9 : decode cX7_setWind 9 = .ok (.invokestatic 36, 3) := by decide +kernel
theorem dX7_setWind_12 : decode cX7_setWind 12 = .ok (.iload_n 3, 1) := by decide +kernel
theorem dX7_setWind_13 : decode cX7_setWind 13 = .ok (.iconst 0, 1) := by decide +kernel
theorem dX7_setWind_14 : decode cX7_setWind 14 = .ok (.iload_n 1, 1) := by decide +kernel
theorem dX7_setWind_15 : decode cX7_setWind 15 = .ok (.ifCond .ne 11, 3) := by decide +kernel
theorem dX7_setWind_18 : decode cX7_setWind 18 = .ok (.iload_n 2, 1) := by decide +kernel
theorem dX7_setWind_19 : decode cX7_setWind 19 = .ok (.ifCond .ne 7, 3) := by decide +kernel
theorem dX7_setWind_22 : decode cX7_setWind 22 = .ok (.iconst 0, 1) := by decide +kernel
theorem dX7_setWind_23 : decode cX7_setWind 23 = .ok (.goto 4, 3) := by decide +kernel
theorem dX7_setWind_26 : decode cX7_setWind 26 = .ok (.iconst 4, 1) := by decide +kernel
theorem dX7_setWind_27 : decode cX7_setWind 27 = .ok (.invokestatic 36, 3) := by decide +kernel
theorem dX7_setWind_30 : decode cX7_setWind 30 = .ok (.aload_n 0, 1) := by decide +kernel
theorem dX7_setWind_31 : decode cX7_setWind 31 = .ok (.getfield 10, 3) := by decide +kernel
theorem dX7_setWind_34 : decode cX7_setWind 34 = .ok (.aload_n 0, 1) := by decide +kernel
theorem dX7_setWind_35 : decode cX7_setWind 35 = .ok (.iconst 3, 1) := by decide +kernel
theorem dX7_setWind_36 : decode cX7_setWind 36 = .ok (.iload_n 1, 1) := by decide +kernel
theorem dX7_setWind_37 : decode cX7_setWind 37 = .ok (.iload_n 2, 1) := by decide +kernel
theorem dX7_setWind_38 : decode cX7_setWind 38 = .ok (.iload_n 3, 1) := by decide +kernel
theorem dX7_setWind_39 : decode cX7_setWind 39 = .ok (.iconst 0, 1) := by decide +kernel
theorem dX7_setWind_40 : decode cX7_setWind 40 = .ok (.invokevirtual 40, 3) := by decide +kernel
theorem dX7_setWind_43 : decode cX7_setWind 43 = .ok (.invokevirtual 44, 3) := by decide +kernel
theorem dX7_setWind_46 : decode cX7_setWind 46 = .ok (.ireturn, 1) := by decide +kernel
theorem dX7_setRain_0 : decode cX7_setRain 0 = .ok (.iload_n 1, 1) := by decide +kernel
theorem dX7_setRain_1 : decode cX7_setRain 1 = .ok (.iconst 0, 1) := by decide +kernel
theorem dX7_setRain_2 : decode cX7_setRain 2 = .ok (.bipush 9, 2) := by decide +kernel
theorem dX7_setRain_4 : decode cX7_setRain 4 = .ok (.invokestatic 36, 3) := by decide +kernel
theorem dX7_setRain_7 : decode cX7_setRain 7 = .ok (.aload_n 0, 1) := by decide +kernel
theorem dX7_setRain_8 : decode cX7_setRain 8 = .ok (.getfield 10, 3) := by decide +kernel
theorem dX7_setRain_11 : decode cX7_setRain 11 = .ok (.aload_n 0, 1) := by decide +kernel
theorem dX7_setRain_12 : decode cX7_setRain 12 = .ok (.iconst 4, 1) := by decide +kernel
theorem dX7_setRain_13 : decode cX7_setRain 13 = .ok (.iload_n 1, 1) := by decide +kernel
theorem dX7_setRain_14 : decode cX7_setRain 14 = .ok (.iconst 0, 1) := by decide +kernel
theorem dX7_setRain_15 : decode cX7_setRain 15 = .ok (.iconst 0, 1) := by decide +kernel
theorem dX7_setRain_16 : decode cX7_setRain 16 = .ok (.iconst 0, 1) := by decide +kernel
theorem dX7_setRain_17 : decode cX7_setRain 17 = .ok (.invokevirtual 40, 3) := by decide +kernel
theorem dX7_setRain_20 : decode cX7_setRain 20 = .ok (.invokevirtual 44, 3) := by decide +kernel
theorem dX7_setRain_23 : decode cX7_setRain 23 = .ok (.ireturn, 1) := by decide +kernel
theorem dX7_digLine_0 : decode cX7_digLine 0 = .ok (.iload_n 1, 1) := by decide +kernel
theorem dX7_digLine_1 : decode cX7_digLine 1 = .ok (.iload_n 2, 1) := by decide +kernel
theorem dX7_digLine_2 : decode cX7_digLine 2 = .ok (.invokestatic 32, 3) := by decide +kernel
theorem dX7_digLine_5 : decode cX7_digLine 5 = .ok (.istore 4, 2) := by decide +kernel
theorem dX7_digLine_7 : decode cX7_digLine 7 = .ok (.iload_n 3, 1) := by decide +kernel
theorem dX7_digLine_8 : decode cX7_digLine 8 = .ok (.iconst 0, 1) := by decide +kernel
theorem dX7_digLine_9 : decode cX7_digLine 9 = .ok (.iconst 2, 1) := by decide +kernel
theorem dX7_digLine_10 : decode cX7_digLine 10 = .ok (.invokestatic 36, 3) := by decide +kernel
theorem dX7_digLine_13 : decode cX7_digLine 13 = .ok (.aload_n 0, 1) := by decide +kernel
theorem dX7_digLine_14 : decode cX7_digLine 14 = .ok (.getfield 10, 3) := by decide +kernel
theorem dX7_digLine_17 : decode cX7_digLine 17 = .ok (.getfield 48, 3) := by decide +kernel
theorem dX7_digLine_20 : decode cX7_digLine 20 = .ok (.getfield 58, 3) := by decide +kernel
theorem dX7_digLine_23 : decode cX7_digLine 23 = .ok (.iload 4, 2) := by decide +kernel
theorem dX7_digLine_25 : decode cX7_digLine 25 = .ok (.baload, 1) := by decide +kernel
theorem dX7_digLine_26 : decode cX7_digLine 26 = .ok (.ifCond .ne 20, 3) := by decide +kernel
theorem dX7_digLine_29 : decode cX7_digLine 29 = .ok (.aload_n 0, 1) := by decide +kernel
theorem dX7_digLine_30 : decode cX7_digLine 30 = .ok (.getfield 10, 3) := by decide +kernel
theorem dX7_digLine_33 : decode cX7_digLine 33 = .ok (.getfield 48, 3) := by decide +kernel
theorem dX7_digLine_36 : decode cX7_digLine 36 = .ok (.getfield 69, 3) := by decide +kernel
theorem dX7_digLine_39 : decode cX7_digLine 39 = .ok (.iload 4, 2) := by decide +kernel
theorem dX7_digLine_41 : decode cX7_digLine 41 = .ok (.iaload, 1) := by decide +kernel
theorem dX7_digLine_42 : decode cX7_digLine 42 = .ok (.iconst 4, 1) := by decide +kernel
theorem dX7_digLine_43 : decode cX7_digLine 43 = .ok (.if_icmp .le 13, 3) := by decide +kernel
theorem dX7_digLine_46 : decode cX7_digLine 46 = .ok (.new 62, 3) := by decide +kernel
theorem dX7_digLine_49 : decode cX7_digLine 49 = .ok (.dup, 1) := by decide +kernel
theorem dX7_digLine_50 : decode cX7_digLine 50 = .ok (.ldc 72, 2) := by decide +kernel
theorem dX7_digLine_52 : decode cX7_digLine 52 = .ok (.invokespecial 66, 3) := by decide +kernel
theorem dX7_digLine_55 : decode cX7_digLine 55 = .ok (.athrow, 1) := by decide +kernel
theorem dX7_digLine_56 : decode cX7_digLine 56 = .ok (.aload_n 0, 1) := by decide +kernel
theorem dX7_digLine_57 : decode cX7_digLine 57 = .ok (.getfield 10, 3) := by decide +kernel
theorem dX7_digLine_60 : decode cX7_digLine 60 = .ok (.aload_n 0, 1) := by decide +kernel
theorem dX7_digLine_61 : decode cX7_digLine 61 = .ok (.iconst 5, 1) := by decide +kernel
theorem dX7_digLine_62 : decode cX7_digLine 62 = .ok (.iload 4, 2) := by decide +kernel
theorem dX7_digLine_64 : decode cX7_digLine 64 = .ok (.iload_n 3, 1) := by decide +kernel
theorem dX7_digLine_65 : decode cX7_digLine 65 = .ok (.iconst 0, 1) := by decide +kernel
theorem dX7_digLine_66 : decode cX7_digLine 66 = .ok (.iconst 0, 1) := by decide +kernel
theorem dX7_digLine_67 : decode cX7_digLine 67 = .ok (.invokevirtual 40, 3) := by decide +kernel
theorem dX7_digLine_70 : decode cX7_digLine 70 = .ok (.invokevirtual 44, 3) := by decide +kernel
theorem dX7_digLine_73 : decode cX7_digLine 73 = .ok (.ireturn, 1) := by decide +kernel
theorem dX7_addSensor_0 : decode cX7_addSensor 0 = .ok (.iload_n 1, 1) := by decide +kernel
theorem dX7_addSensor_1 : decode cX7_addSensor 1 = .ok (.iload_n 2, 1) := by decide +kernel
theorem dX7_addSensor_2 : decode cX7_addSensor 2 = .ok (.invokestatic 32, 3) := by decide +kernel
theorem dX7_addSensor_5 : decode cX7_addSensor 5 = .ok (.istore_n 3, 1) := by decide +kernel
theorem dX7_addSensor_6 : decode cX7_addSensor 6 = .ok (.aload_n 0, 1) := by decide +kernel
theorem dX7_addSensor_7 : decode cX7_addSensor 7 = .ok (.getfield 10, 3) := by decide +kernel
theorem dX7_addSensor_10 : decode cX7_addSensor 10 = .ok (.getfield 74, 3) := by decide +kernel
theorem dX7_addSensor_13 : decode cX7_addSensor 13 = .ok (.getfield 78, 3) := by decide +kernel
theorem dX7_addSensor_16 : decode cX7_addSensor 16 = .ok (.bipush 10, 2) := by decide +kernel
theorem dX7_addSensor_18 : decode cX7_addSensor 18 = .ok (.invokestatic 83, 3) := by decide +kernel
theorem dX7_addSensor_21 : decode cX7_addSensor 21 = .ok (.aload_n 0, 1) := by decide +kernel
theorem dX7_addSensor_22 : decode cX7_addSensor 22 = .ok (.getfield 10, 3) := by decide +kernel
theorem dX7_addSensor_25 : decode cX7_addSensor 25 = .ok (.aload_n 0, 1) := by decide +kernel
theorem dX7_addSensor_26 : decode cX7_addSensor 26 = .ok (.bipush 6, 2) := by decide +kernel
theorem dX7_addSensor_28 : decode cX7_addSensor 28 = .ok (.iload_n 3, 1) := by decide +kernel
theorem dX7_addSensor_29 : decode cX7_addSensor 29 = .ok (.iconst 0, 1) := by decide +kernel
theorem dX7_addSensor_30 : decode cX7_addSensor 30 = .ok (.iconst 0, 1) := by decide +kernel
theorem dX7_addSensor_31 : decode cX7_addSensor 31 = .ok (.iconst 0, 1) := by decide +kernel
theorem dX7_addSensor_32 : decode cX7_addSensor 32 = .ok (.invokevirtual 40, 3) := by decide +kernel
theorem dX7_addSensor_35 : decode cX7_addSensor 35 = .ok (.invokevirtual 44, 3) := by decide +kernel
theorem dX7_addSensor_38 : decode cX7_addSensor 38 = .ok (.ireturn, 1) := by decide +kernel
theorem dX7_read_0 : decode cX7_read 0 = .ok (.iload_n 1, 1) := by decide +kernel
theorem dX7_read_1 : decode cX7_read 1 = .ok (.aload_n 0, 1) := by decide +kernel
theorem dX7_read_2 : decode cX7_read 2 = .ok (.getfield 10, 3) := by decide +kernel
theorem dX7_read_5 : decode cX7_read 5 = .ok (.getfield 74, 3) := by decide +kernel
theorem dX7_read_8 : decode cX7_read 8 = .ok (.getfield 78, 3) := by decide +kernel
theorem dX7_read_11 : decode cX7_read 11 = .ok (.invokestatic 87, 3) := by decide +kernel
theorem dX7_read_14 : decode cX7_read 14 = .ok (.iload_n 2, 1) := by decide +kernel
theorem dX7_read_15 : decode cX7_read 15 = .ok (.iconst 0, 1) := by decide +kernel
theorem dX7_read_16 : decode cX7_read 16 = .ok (.sipush 9999, 3) := by decide +kernel
theorem dX7_read_19 : decode cX7_read 19 = .ok (.invokestatic 36, 3) := by decide +kernel
theorem dX7_read_22 : decode cX7_read 22 = .ok (.aload_n 0, 1) := by decide +kernel
theorem dX7_read_23 : decode cX7_read 23 = .ok (.getfield 10, 3) := by decide +kernel
theorem dX7_read_26 : decode cX7_read 26 = .ok (.aload_n 0, 1) := by decide +kernel
theorem dX7_read_27 : decode cX7_read 27 = .ok (.bipush 7, 2) := by decide +kernel
theorem dX7_read_29 : decode cX7_read 29 = .ok (.iload_n 1, 1) := by decide +kernel
theorem dX7_read_30 : decode cX7_read 30 = .ok (.iload_n 2, 1) := by decide +kernel
theorem dX7_read_31 : decode cX7_read 31 = .ok (.iconst 0, 1) := by decide +kernel
theorem dX7_read_32 : decode cX7_read 32 = .ok (.iconst 0, 1) := by decide +kernel
theorem dX7_read_33 : decode cX7_read 33 = .ok (.invokevirtual 40, 3) := by decide +kernel
theorem dX7_read_36 : decode cX7_read 36 = .ok (.invokevirtual 44, 3) := by decide +kernel
theorem dX7_read_39 : decode cX7_read 39 = .ok (.ireturn, 1) := by decide +kernel
theorem dX7_trust_0 : decode cX7_trust 0 = .ok (.iload_n 1, 1) := by decide +kernel
theorem dX7_trust_1 : decode cX7_trust 1 = .ok (.aload_n 0, 1) := by decide +kernel
theorem dX7_trust_2 : decode cX7_trust 2 = .ok (.getfield 10, 3) := by decide +kernel
theorem dX7_trust_5 : decode cX7_trust 5 = .ok (.getfield 74, 3) := by decide +kernel
theorem dX7_trust_8 : decode cX7_trust 8 = .ok (.getfield 78, 3) := by decide +kernel
theorem dX7_trust_11 : decode cX7_trust 11 = .ok (.invokestatic 87, 3) := by decide +kernel
theorem dX7_trust_14 : decode cX7_trust 14 = .ok (.aload_n 0, 1) := by decide +kernel
theorem dX7_trust_15 : decode cX7_trust 15 = .ok (.getfield 10, 3) := by decide +kernel
theorem dX7_trust_18 : decode cX7_trust 18 = .ok (.getfield 74, 3) := by decide +kernel
theorem dX7_trust_21 : decode cX7_trust 21 = .ok (.getfield 90, 3) := by decide +kernel
theorem dX7_trust_24 : decode cX7_trust 24 = .ok (.iload_n 1, 1) := by decide +kernel
theorem dX7_trust_25 : decode cX7_trust 25 = .ok (.iaload, 1) := by decide +kernel
theorem dX7_trust_26 : decode cX7_trust 26 = .ok (.ireturn, 1) := by decide +kernel
theorem dX7_stateOf_0 : decode cX7_stateOf 0 = .ok (.iload_n 1, 1) := by decide +kernel
theorem dX7_stateOf_1 : decode cX7_stateOf 1 = .ok (.aload_n 0, 1) := by decide +kernel
theorem dX7_stateOf_2 : decode cX7_stateOf 2 = .ok (.getfield 10, 3) := by decide +kernel
theorem dX7_stateOf_5 : decode cX7_stateOf 5 = .ok (.getfield 74, 3) := by decide +kernel
theorem dX7_stateOf_8 : decode cX7_stateOf 8 = .ok (.getfield 78, 3) := by decide +kernel
theorem dX7_stateOf_11 : decode cX7_stateOf 11 = .ok (.invokestatic 87, 3) := by decide +kernel
theorem dX7_stateOf_14 : decode cX7_stateOf 14 = .ok (.aload_n 0, 1) := by decide +kernel
theorem dX7_stateOf_15 : decode cX7_stateOf 15 = .ok (.getfield 10, 3) := by decide +kernel
theorem dX7_stateOf_18 : decode cX7_stateOf 18 = .ok (.getfield 74, 3) := by decide +kernel
theorem dX7_stateOf_21 : decode cX7_stateOf 21 = .ok (.iload_n 1, 1) := by decide +kernel
theorem dX7_stateOf_22 : decode cX7_stateOf 22 = .ok (.invokevirtual 93, 3) := by decide +kernel
theorem dX7_stateOf_25 : decode cX7_stateOf 25 = .ok (.ireturn, 1) := by decide +kernel
theorem dX7_judged_0 : decode cX7_judged 0 = .ok (.iload_n 1, 1) := by decide +kernel
theorem dX7_judged_1 : decode cX7_judged 1 = .ok (.aload_n 0, 1) := by decide +kernel
theorem dX7_judged_2 : decode cX7_judged 2 = .ok (.getfield 10, 3) := by decide +kernel
theorem dX7_judged_5 : decode cX7_judged 5 = .ok (.getfield 74, 3) := by decide +kernel
theorem dX7_judged_8 : decode cX7_judged 8 = .ok (.getfield 78, 3) := by decide +kernel
theorem dX7_judged_11 : decode cX7_judged 11 = .ok (.invokestatic 87, 3) := by decide +kernel
theorem dX7_judged_14 : decode cX7_judged 14 = .ok (.aload_n 0, 1) := by decide +kernel
theorem dX7_judged_15 : decode cX7_judged 15 = .ok (.getfield 10, 3) := by decide +kernel
theorem dX7_judged_18 : decode cX7_judged 18 = .ok (.getfield 74, 3) := by decide +kernel
theorem dX7_judged_21 : decode cX7_judged 21 = .ok (.iload_n 1, 1) := by decide +kernel
theorem dX7_judged_22 : decode cX7_judged 22 = .ok (.invokevirtual 97, 3) := by decide +kernel
theorem dX7_judged_25 : decode cX7_judged 25 = .ok (.istore_n 2, 1) := by decide +kernel
theorem dX7_judged_26 : decode cX7_judged 26 = .ok (.iload_n 2, 1) := by decide +kernel
theorem dX7_judged_27 : decode cX7_judged 27 = .ok (.iconst (-1), 1) := by decide +kernel
theorem dX7_judged_28 : decode cX7_judged 28 = .ok (.if_icmp .ne 13, 3) := by decide +kernel
theorem dX7_judged_31 : decode cX7_judged 31 = .ok (.new 62, 3) := by decide +kernel
theorem dX7_judged_34 : decode cX7_judged 34 = .ok (.dup, 1) := by decide +kernel
theorem dX7_judged_35 : decode cX7_judged 35 = .ok (.ldc 101, 2) := by decide +kernel
theorem dX7_judged_37 : decode cX7_judged 37 = .ok (.invokespecial 66, 3) := by decide +kernel
theorem dX7_judged_40 : decode cX7_judged 40 = .ok (.athrow, 1) := by decide +kernel
theorem dX7_judged_41 : decode cX7_judged 41 = .ok (.iload_n 2, 1) := by decide +kernel
theorem dX7_judged_42 : decode cX7_judged 42 = .ok (.ireturn, 1) := by decide +kernel
theorem dX7_subscribe_0 : decode cX7_subscribe 0 = .ok (.iload_n 1, 1) := by decide +kernel
theorem dX7_subscribe_1 : decode cX7_subscribe 1 = .ok (.iload_n 2, 1) := by decide +kernel
theorem dX7_subscribe_2 : decode cX7_subscribe 2 = .ok (.invokestatic 32, 3) := by decide +kernel
theorem dX7_subscribe_5 : decode cX7_subscribe 5 = .ok (.istore 6, 2) := by decide +kernel
theorem dX7_subscribe_7 : decode cX7_subscribe 7 = .ok (.iload_n 3, 1) := by decide +kernel
theorem dX7_subscribe_8 : decode cX7_subscribe 8 = .ok (.bipush 20, 2) := by decide +kernel
theorem dX7_subscribe_10 : decode cX7_subscribe 10 = .ok (.sipush 9999, 3) := by decide +kernel
theorem dX7_subscribe_13 : decode cX7_subscribe 13 = .ok (.invokestatic 36, 3) := by decide +kernel
theorem dX7_subscribe_16 : decode cX7_subscribe 16 = .ok (.iload 4, 2) := by decide +kernel
theorem dX7_subscribe_18 : decode cX7_subscribe 18 = .ok (.iconst 0, 1) := by decide +kernel
theorem dX7_subscribe_19 : decode cX7_subscribe 19 = .ok (.bipush 23, 2) := by decide +kernel
theorem dX7_subscribe_21 : decode cX7_subscribe 21 = .ok (.invokestatic 36, 3) := by decide +kernel
theorem dX7_subscribe_24 : decode cX7_subscribe 24 = .ok (.iload 5, 2) := by decide +kernel
theorem dX7_subscribe_26 : decode cX7_subscribe 26 = .ok (.iconst 0, 1) := by decide +kernel
theorem dX7_subscribe_27 : decode cX7_subscribe 27 = .ok (.bipush 23, 2) := by decide +kernel
theorem dX7_subscribe_29 : decode cX7_subscribe 29 = .ok (.invokestatic 36, 3) := by decide +kernel
theorem dX7_subscribe_32 : decode cX7_subscribe 32 = .ok (.aload_n 0, 1) := by decide +kernel
theorem dX7_subscribe_33 : decode cX7_subscribe 33 = .ok (.getfield 10, 3) := by decide +kernel
theorem dX7_subscribe_36 : decode cX7_subscribe 36 = .ok (.getfield 103, 3) := by decide +kernel
theorem dX7_subscribe_39 : decode cX7_subscribe 39 = .ok (.getfield 107, 3) := by decide +kernel
theorem dX7_subscribe_42 : decode cX7_subscribe 42 = .ok (.bipush 12, 2) := by decide +kernel
theorem dX7_subscribe_44 : decode cX7_subscribe 44 = .ok (.invokestatic 83, 3) := by decide +kernel
theorem dX7_subscribe_47 : decode cX7_subscribe 47 = .ok (.aload_n 0, 1) := by decide +kernel
theorem dX7_subscribe_48 : decode cX7_subscribe 48 = .ok (.getfield 10, 3) := by decide +kernel
theorem dX7_subscribe_51 : decode cX7_subscribe 51 = .ok (.aload_n 0, 1) := by decide +kernel
theorem dX7_subscribe_52 : decode cX7_subscribe 52 = .ok (.bipush 8, 2) := by decide +kernel
theorem dX7_subscribe_54 : decode cX7_subscribe 54 = .ok (.iload 6, 2) := by decide +kernel
theorem dX7_subscribe_56 : decode cX7_subscribe 56 = .ok (.iload_n 3, 1) := by decide +kernel
theorem dX7_subscribe_57 : decode cX7_subscribe 57 = .ok (.iload 4, 2) := by decide +kernel
theorem dX7_subscribe_59 : decode cX7_subscribe 59 = .ok (.iload 5, 2) := by decide +kernel
theorem dX7_subscribe_61 : decode cX7_subscribe 61 = .ok (.invokevirtual 40, 3) := by decide +kernel
theorem dX7_subscribe_64 : decode cX7_subscribe 64 = .ok (.invokevirtual 44, 3) := by decide +kernel
theorem dX7_subscribe_67 : decode cX7_subscribe 67 = .ok (.ireturn, 1) := by decide +kernel
theorem dX7_addSchool_0 : decode cX7_addSchool 0 = .ok (.iload_n 1, 1) := by decide +kernel
theorem dX7_addSchool_1 : decode cX7_addSchool 1 = .ok (.iload_n 2, 1) := by decide +kernel
theorem dX7_addSchool_2 : decode cX7_addSchool 2 = .ok (.invokestatic 32, 3) := by decide +kernel
theorem dX7_addSchool_5 : decode cX7_addSchool 5 = .ok (.istore 4, 2) := by decide +kernel
theorem dX7_addSchool_7 : decode cX7_addSchool 7 = .ok (.iload_n 3, 1) := by decide +kernel
theorem dX7_addSchool_8 : decode cX7_addSchool 8 = .ok (.bipush 20, 2) := by decide +kernel
theorem dX7_addSchool_10 : decode cX7_addSchool 10 = .ok (.sipush 9999, 3) := by decide +kernel
theorem dX7_addSchool_13 : decode cX7_addSchool 13 = .ok (.invokestatic 36, 3) := by decide +kernel
theorem dX7_addSchool_16 : decode cX7_addSchool 16 = .ok (.aload_n 0, 1) := by decide +kernel
theorem dX7_addSchool_17 : decode cX7_addSchool 17 = .ok (.getfield 10, 3) := by decide +kernel
theorem dX7_addSchool_20 : decode cX7_addSchool 20 = .ok (.getfield 110, 3) := by decide +kernel
theorem dX7_addSchool_23 : decode cX7_addSchool 23 = .ok (.getfield 114, 3) := by decide +kernel
theorem dX7_addSchool_26 : decode cX7_addSchool 26 = .ok (.bipush 6, 2) := by decide +kernel
theorem dX7_addSchool_28 : decode cX7_addSchool 28 = .ok (.invokestatic 83, 3) := by decide +kernel
theorem dX7_addSchool_31 : decode cX7_addSchool 31 = .ok (.aload_n 0, 1) := by decide +kernel
theorem dX7_addSchool_32 : decode cX7_addSchool 32 = .ok (.getfield 10, 3) := by decide +kernel
theorem dX7_addSchool_35 : decode cX7_addSchool 35 = .ok (.aload_n 0, 1) := by decide +kernel
theorem dX7_addSchool_36 : decode cX7_addSchool 36 = .ok (.bipush 9, 2) := by decide +kernel
theorem dX7_addSchool_38 : decode cX7_addSchool 38 = .ok (.iload 4, 2) := by decide +kernel
theorem dX7_addSchool_40 : decode cX7_addSchool 40 = .ok (.iload_n 3, 1) := by decide +kernel
theorem dX7_addSchool_41 : decode cX7_addSchool 41 = .ok (.iconst 0, 1) := by decide +kernel
theorem dX7_addSchool_42 : decode cX7_addSchool 42 = .ok (.iconst 0, 1) := by decide +kernel
theorem dX7_addSchool_43 : decode cX7_addSchool 43 = .ok (.invokevirtual 40, 3) := by decide +kernel
theorem dX7_addSchool_46 : decode cX7_addSchool 46 = .ok (.invokevirtual 44, 3) := by decide +kernel
theorem dX7_addSchool_49 : decode cX7_addSchool 49 = .ok (.ireturn, 1) := by decide +kernel
theorem dX7_isOpen_0 : decode cX7_isOpen 0 = .ok (.iload_n 1, 1) := by decide +kernel
theorem dX7_isOpen_1 : decode cX7_isOpen 1 = .ok (.aload_n 0, 1) := by decide +kernel
theorem dX7_isOpen_2 : decode cX7_isOpen 2 = .ok (.getfield 10, 3) := by decide +kernel
theorem dX7_isOpen_5 : decode cX7_isOpen 5 = .ok (.getfield 110, 3) := by decide +kernel
theorem dX7_isOpen_8 : decode cX7_isOpen 8 = .ok (.getfield 114, 3) := by decide +kernel
theorem dX7_isOpen_11 : decode cX7_isOpen 11 = .ok (.invokestatic 87, 3) := by decide +kernel
theorem dX7_isOpen_14 : decode cX7_isOpen 14 = .ok (.aload_n 0, 1) := by decide +kernel
theorem dX7_isOpen_15 : decode cX7_isOpen 15 = .ok (.getfield 10, 3) := by decide +kernel
theorem dX7_isOpen_18 : decode cX7_isOpen 18 = .ok (.getfield 110, 3) := by decide +kernel
theorem dX7_isOpen_21 : decode cX7_isOpen 21 = .ok (.getfield 117, 3) := by decide +kernel
theorem dX7_isOpen_24 : decode cX7_isOpen 24 = .ok (.iload_n 1, 1) := by decide +kernel
theorem dX7_isOpen_25 : decode cX7_isOpen 25 = .ok (.baload, 1) := by decide +kernel
theorem dX7_isOpen_26 : decode cX7_isOpen 26 = .ok (.ireturn, 1) := by decide +kernel
theorem dX7_isWarned_0 : decode cX7_isWarned 0 = .ok (.iload_n 1, 1) := by decide +kernel
theorem dX7_isWarned_1 : decode cX7_isWarned 1 = .ok (.aload_n 0, 1) := by decide +kernel
theorem dX7_isWarned_2 : decode cX7_isWarned 2 = .ok (.getfield 10, 3) := by decide +kernel
theorem dX7_isWarned_5 : decode cX7_isWarned 5 = .ok (.getfield 103, 3) := by decide +kernel
theorem dX7_isWarned_8 : decode cX7_isWarned 8 = .ok (.getfield 107, 3) := by decide +kernel
theorem dX7_isWarned_11 : decode cX7_isWarned 11 = .ok (.invokestatic 87, 3) := by decide +kernel
theorem dX7_isWarned_14 : decode cX7_isWarned 14 = .ok (.aload_n 0, 1) := by decide +kernel
theorem dX7_isWarned_15 : decode cX7_isWarned 15 = .ok (.getfield 10, 3) := by decide +kernel
theorem dX7_isWarned_18 : decode cX7_isWarned 18 = .ok (.getfield 103, 3) := by decide +kernel
theorem dX7_isWarned_21 : decode cX7_isWarned 21 = .ok (.getfield 120, 3) := by decide +kernel
theorem dX7_isWarned_24 : decode cX7_isWarned 24 = .ok (.iload_n 1, 1) := by decide +kernel
theorem dX7_isWarned_25 : decode cX7_isWarned 25 = .ok (.baload, 1) := by decide +kernel
theorem dX7_isWarned_26 : decode cX7_isWarned 26 = .ok (.ireturn, 1) := by decide +kernel
theorem dX7_pass_0 : decode cX7_pass 0 = .ok (.iload_n 1, 1) := by decide +kernel
theorem dX7_pass_1 : decode cX7_pass 1 = .ok (.iconst 1, 1) := by decide +kernel
theorem dX7_pass_2 : decode cX7_pass 2 = .ok (.bipush 24, 2) := by decide +kernel
theorem dX7_pass_4 : decode cX7_pass 4 = .ok (.invokestatic 36, 3) := by decide +kernel
theorem dX7_pass_7 : decode cX7_pass 7 = .ok (.aload_n 0, 1) := by decide +kernel
theorem dX7_pass_8 : decode cX7_pass 8 = .ok (.getfield 10, 3) := by decide +kernel
theorem dX7_pass_11 : decode cX7_pass 11 = .ok (.getfield 123, 3) := by decide +kernel
theorem dX7_pass_14 : decode cX7_pass 14 = .ok (.iload_n 1, 1) := by decide +kernel
theorem dX7_pass_15 : decode cX7_pass 15 = .ok (.iadd, 1) := by decide +kernel
theorem dX7_pass_16 : decode cX7_pass 16 = .ok (.sipush 999, 3) := by decide +kernel
theorem dX7_pass_19 : decode cX7_pass 19 = .ok (.if_icmp .le 13, 3) := by decide +kernel
theorem dX7_pass_22 : decode cX7_pass 22 = .ok (.new 126, 3) := by decide +kernel
theorem dX7_pass_25 : decode cX7_pass 25 = .ok (.dup, 1) := by decide +kernel
theorem dX7_pass_26 : decode cX7_pass 26 = .ok (.ldc 128, 2) := by decide +kernel
theorem dX7_pass_28 : decode cX7_pass 28 = .ok (.invokespecial 130, 3) := by decide +kernel
theorem dX7_pass_31 : decode cX7_pass 31 = .ok (.athrow, 1) := by decide +kernel
theorem dX7_pass_32 : decode cX7_pass 32 = .ok (.aload_n 0, 1) := by decide +kernel
theorem dX7_pass_33 : decode cX7_pass 33 = .ok (.getfield 10, 3) := by decide +kernel
theorem dX7_pass_36 : decode cX7_pass 36 = .ok (.aload_n 0, 1) := by decide +kernel
theorem dX7_pass_37 : decode cX7_pass 37 = .ok (.bipush 10, 2) := by decide +kernel
theorem dX7_pass_39 : decode cX7_pass 39 = .ok (.iload_n 1, 1) := by decide +kernel
theorem dX7_pass_40 : decode cX7_pass 40 = .ok (.iconst 0, 1) := by decide +kernel
theorem dX7_pass_41 : decode cX7_pass 41 = .ok (.iconst 0, 1) := by decide +kernel
theorem dX7_pass_42 : decode cX7_pass 42 = .ok (.iconst 0, 1) := by decide +kernel
theorem dX7_pass_43 : decode cX7_pass 43 = .ok (.invokevirtual 40, 3) := by decide +kernel
theorem dX7_pass_46 : decode cX7_pass 46 = .ok (.invokevirtual 44, 3) := by decide +kernel
theorem dX7_pass_49 : decode cX7_pass 49 = .ok (.ireturn, 1) := by decide +kernel
theorem dX7_hour_0 : decode cX7_hour 0 = .ok (.aload_n 0, 1) := by decide +kernel
theorem dX7_hour_1 : decode cX7_hour 1 = .ok (.getfield 10, 3) := by decide +kernel
theorem dX7_hour_4 : decode cX7_hour 4 = .ok (.getfield 123, 3) := by decide +kernel
theorem dX7_hour_7 : decode cX7_hour 7 = .ok (.ireturn, 1) := by decide +kernel
theorem dX7_fuel_0 : decode cX7_fuel 0 = .ok (.aload_n 0, 1) := by decide +kernel
theorem dX7_fuel_1 : decode cX7_fuel 1 = .ok (.getfield 10, 3) := by decide +kernel
theorem dX7_fuel_4 : decode cX7_fuel 4 = .ok (.getfield 48, 3) := by decide +kernel
theorem dX7_fuel_7 : decode cX7_fuel 7 = .ok (.getfield 52, 3) := by decide +kernel
theorem dX7_fuel_10 : decode cX7_fuel 10 = .ok (.iload_n 1, 1) := by decide +kernel
theorem dX7_fuel_11 : decode cX7_fuel 11 = .ok (.iload_n 2, 1) := by decide +kernel
theorem dX7_fuel_12 : decode cX7_fuel 12 = .ok (.invokestatic 32, 3) := by decide +kernel
theorem dX7_fuel_15 : decode cX7_fuel 15 = .ok (.iaload, 1) := by decide +kernel
theorem dX7_fuel_16 : decode cX7_fuel 16 = .ok (.ireturn, 1) := by decide +kernel
theorem dX7_fire_0 : decode cX7_fire 0 = .ok (.aload_n 0, 1) := by decide +kernel
theorem dX7_fire_1 : decode cX7_fire 1 = .ok (.getfield 10, 3) := by decide +kernel
theorem dX7_fire_4 : decode cX7_fire 4 = .ok (.getfield 48, 3) := by decide +kernel
theorem dX7_fire_7 : decode cX7_fire 7 = .ok (.getfield 69, 3) := by decide +kernel
theorem dX7_fire_10 : decode cX7_fire 10 = .ok (.iload_n 1, 1) := by decide +kernel
theorem dX7_fire_11 : decode cX7_fire 11 = .ok (.iload_n 2, 1) := by decide +kernel
theorem dX7_fire_12 : decode cX7_fire 12 = .ok (.invokestatic 32, 3) := by decide +kernel
theorem dX7_fire_15 : decode cX7_fire 15 = .ok (.iaload, 1) := by decide +kernel
theorem dX7_fire_16 : decode cX7_fire 16 = .ok (.ireturn, 1) := by decide +kernel
theorem dX7_smoke_0 : decode cX7_smoke 0 = .ok (.aload_n 0, 1) := by decide +kernel
theorem dX7_smoke_1 : decode cX7_smoke 1 = .ok (.getfield 10, 3) := by decide +kernel
theorem dX7_smoke_4 : decode cX7_smoke 4 = .ok (.getfield 48, 3) := by decide +kernel
theorem dX7_smoke_7 : decode cX7_smoke 7 = .ok (.getfield 131, 3) := by decide +kernel
theorem dX7_smoke_10 : decode cX7_smoke 10 = .ok (.iload_n 1, 1) := by decide +kernel
theorem dX7_smoke_11 : decode cX7_smoke 11 = .ok (.iload_n 2, 1) := by decide +kernel
theorem dX7_smoke_12 : decode cX7_smoke 12 = .ok (.invokestatic 32, 3) := by decide +kernel
theorem dX7_smoke_15 : decode cX7_smoke 15 = .ok (.iaload, 1) := by decide +kernel
theorem dX7_smoke_16 : decode cX7_smoke 16 = .ok (.ireturn, 1) := by decide +kernel
theorem dX7_hasLine_0 : decode cX7_hasLine 0 = .ok (.aload_n 0, 1) := by decide +kernel
theorem dX7_hasLine_1 : decode cX7_hasLine 1 = .ok (.getfield 10, 3) := by decide +kernel
theorem dX7_hasLine_4 : decode cX7_hasLine 4 = .ok (.getfield 48, 3) := by decide +kernel
theorem dX7_hasLine_7 : decode cX7_hasLine 7 = .ok (.getfield 58, 3) := by decide +kernel
theorem dX7_hasLine_10 : decode cX7_hasLine 10 = .ok (.iload_n 1, 1) := by decide +kernel
theorem dX7_hasLine_11 : decode cX7_hasLine 11 = .ok (.iload_n 2, 1) := by decide +kernel
theorem dX7_hasLine_12 : decode cX7_hasLine 12 = .ok (.invokestatic 32, 3) := by decide +kernel
theorem dX7_hasLine_15 : decode cX7_hasLine 15 = .ok (.baload, 1) := by decide +kernel
theorem dX7_hasLine_16 : decode cX7_hasLine 16 = .ok (.ireturn, 1) := by decide +kernel
theorem dX7_left_0 : decode cX7_left 0 = .ok (.iload_n 1, 1) := by decide +kernel
theorem dX7_left_1 : decode cX7_left 1 = .ok (.iconst 0, 1) := by decide +kernel
theorem dX7_left_2 : decode cX7_left 2 = .ok (.iconst 2, 1) := by decide +kernel
theorem dX7_left_3 : decode cX7_left 3 = .ok (.invokestatic 36, 3) := by decide +kernel
theorem dX7_left_6 : decode cX7_left 6 = .ok (.aload_n 0, 1) := by decide +kernel
theorem dX7_left_7 : decode cX7_left 7 = .ok (.getfield 10, 3) := by decide +kernel
theorem dX7_left_10 : decode cX7_left 10 = .ok (.getfield 48, 3) := by decide +kernel
theorem dX7_left_13 : decode cX7_left 13 = .ok (.getfield 134, 3) := by decide +kernel
theorem dX7_left_16 : decode cX7_left 16 = .ok (.iload_n 1, 1) := by decide +kernel
theorem dX7_left_17 : decode cX7_left 17 = .ok (.iaload, 1) := by decide +kernel
theorem dX7_left_18 : decode cX7_left 18 = .ok (.ireturn, 1) := by decide +kernel
theorem dX7_forecast_0 : decode cX7_forecast 0 = .ok (.iload_n 1, 1) := by decide +kernel
theorem dX7_forecast_1 : decode cX7_forecast 1 = .ok (.iload_n 2, 1) := by decide +kernel
theorem dX7_forecast_2 : decode cX7_forecast 2 = .ok (.invokestatic 32, 3) := by decide +kernel
theorem dX7_forecast_5 : decode cX7_forecast 5 = .ok (.istore 4, 2) := by decide +kernel
theorem dX7_forecast_7 : decode cX7_forecast 7 = .ok (.iload_n 3, 1) := by decide +kernel
theorem dX7_forecast_8 : decode cX7_forecast 8 = .ok (.iconst 1, 1) := by decide +kernel
theorem dX7_forecast_9 : decode cX7_forecast 9 = .ok (.bipush 12, 2) := by decide +kernel
theorem dX7_forecast_11 : decode cX7_forecast 11 = .ok (.invokestatic 36, 3) := by decide +kernel
theorem dX7_forecast_14 : decode cX7_forecast 14 = .ok (.aload_n 0, 1) := by decide +kernel
theorem dX7_forecast_15 : decode cX7_forecast 15 = .ok (.getfield 10, 3) := by decide +kernel
theorem dX7_forecast_18 : decode cX7_forecast 18 = .ok (.getfield 137, 3) := by decide +kernel
theorem dX7_forecast_21 : decode cX7_forecast 21 = .ok (.aload_n 0, 1) := by decide +kernel
theorem dX7_forecast_22 : decode cX7_forecast 22 = .ok (.getfield 10, 3) := by decide +kernel
theorem dX7_forecast_25 : decode cX7_forecast 25 = .ok (.getfield 48, 3) := by decide +kernel
theorem dX7_forecast_28 : decode cX7_forecast 28 = .ok (.iload_n 3, 1) := by decide +kernel
theorem dX7_forecast_29 : decode cX7_forecast 29 = .ok (.invokevirtual 141, 3) := by decide +kernel
theorem dX7_forecast_32 : decode cX7_forecast 32 = .ok (.aload_n 0, 1) := by decide +kernel
theorem dX7_forecast_33 : decode cX7_forecast 33 = .ok (.getfield 10, 3) := by decide +kernel
theorem dX7_forecast_36 : decode cX7_forecast 36 = .ok (.getfield 137, 3) := by decide +kernel
theorem dX7_forecast_39 : decode cX7_forecast 39 = .ok (.getfield 147, 3) := by decide +kernel
theorem dX7_forecast_42 : decode cX7_forecast 42 = .ok (.getfield 131, 3) := by decide +kernel
theorem dX7_forecast_45 : decode cX7_forecast 45 = .ok (.iload 4, 2) := by decide +kernel
theorem dX7_forecast_47 : decode cX7_forecast 47 = .ok (.iaload, 1) := by decide +kernel
theorem dX7_forecast_48 : decode cX7_forecast 48 = .ok (.ireturn, 1) := by decide +kernel
theorem dX7_worst_0 : decode cX7_worst 0 = .ok (.iload_n 1, 1) := by decide +kernel
theorem dX7_worst_1 : decode cX7_worst 1 = .ok (.iload_n 2, 1) := by decide +kernel
theorem dX7_worst_2 : decode cX7_worst 2 = .ok (.invokestatic 32, 3) := by decide +kernel
theorem dX7_worst_5 : decode cX7_worst 5 = .ok (.istore 4, 2) := by decide +kernel
theorem dX7_worst_7 : decode cX7_worst 7 = .ok (.iload_n 3, 1) := by decide +kernel
theorem dX7_worst_8 : decode cX7_worst 8 = .ok (.iconst 1, 1) := by decide +kernel
theorem dX7_worst_9 : decode cX7_worst 9 = .ok (.bipush 12, 2) := by decide +kernel
theorem dX7_worst_11 : decode cX7_worst 11 = .ok (.invokestatic 36, 3) := by decide +kernel
theorem dX7_worst_14 : decode cX7_worst 14 = .ok (.aload_n 0, 1) := by decide +kernel
theorem dX7_worst_15 : decode cX7_worst 15 = .ok (.getfield 10, 3) := by decide +kernel
theorem dX7_worst_18 : decode cX7_worst 18 = .ok (.getfield 137, 3) := by decide +kernel
theorem dX7_worst_21 : decode cX7_worst 21 = .ok (.aload_n 0, 1) := by decide +kernel
theorem dX7_worst_22 : decode cX7_worst 22 = .ok (.getfield 10, 3) := by decide +kernel
theorem dX7_worst_25 : decode cX7_worst 25 = .ok (.getfield 48, 3) := by decide +kernel
theorem dX7_worst_28 : decode cX7_worst 28 = .ok (.iload_n 3, 1) := by decide +kernel
theorem dX7_worst_29 : decode cX7_worst 29 = .ok (.invokevirtual 141, 3) := by decide +kernel
theorem dX7_worst_32 : decode cX7_worst 32 = .ok (.aload_n 0, 1) := by decide +kernel
theorem dX7_worst_33 : decode cX7_worst 33 = .ok (.getfield 10, 3) := by decide +kernel
theorem dX7_worst_36 : decode cX7_worst 36 = .ok (.getfield 137, 3) := by decide +kernel
theorem dX7_worst_39 : decode cX7_worst 39 = .ok (.getfield 150, 3) := by decide +kernel
theorem dX7_worst_42 : decode cX7_worst 42 = .ok (.iload 4, 2) := by decide +kernel
theorem dX7_worst_44 : decode cX7_worst 44 = .ok (.iaload, 1) := by decide +kernel
theorem dX7_worst_45 : decode cX7_worst 45 = .ok (.ireturn, 1) := by decide +kernel
theorem dX7_warnings_0 : decode cX7_warnings 0 = .ok (.aload_n 0, 1) := by decide +kernel
theorem dX7_warnings_1 : decode cX7_warnings 1 = .ok (.getfield 10, 3) := by decide +kernel
theorem dX7_warnings_4 : decode cX7_warnings 4 = .ok (.getfield 103, 3) := by decide +kernel
theorem dX7_warnings_7 : decode cX7_warnings 7 = .ok (.getfield 153, 3) := by decide +kernel
theorem dX7_warnings_10 : decode cX7_warnings 10 = .ok (.ireturn, 1) := by decide +kernel
theorem dX7_warnedAt_0 : decode cX7_warnedAt 0 = .ok (.iload_n 1, 1) := by decide +kernel
theorem dX7_warnedAt_1 : decode cX7_warnedAt 1 = .ok (.aload_n 0, 1) := by decide +kernel
theorem dX7_warnedAt_2 : decode cX7_warnedAt 2 = .ok (.getfield 10, 3) := by decide +kernel
theorem dX7_warnedAt_5 : decode cX7_warnedAt 5 = .ok (.getfield 103, 3) := by decide +kernel
theorem dX7_warnedAt_8 : decode cX7_warnedAt 8 = .ok (.getfield 153, 3) := by decide +kernel
theorem dX7_warnedAt_11 : decode cX7_warnedAt 11 = .ok (.invokestatic 87, 3) := by decide +kernel
theorem dX7_warnedAt_14 : decode cX7_warnedAt 14 = .ok (.aload_n 0, 1) := by decide +kernel
theorem dX7_warnedAt_15 : decode cX7_warnedAt 15 = .ok (.getfield 10, 3) := by decide +kernel
theorem dX7_warnedAt_18 : decode cX7_warnedAt 18 = .ok (.getfield 103, 3) := by decide +kernel
theorem dX7_warnedAt_21 : decode cX7_warnedAt 21 = .ok (.getfield 156, 3) := by decide +kernel
theorem dX7_warnedAt_24 : decode cX7_warnedAt 24 = .ok (.iload_n 1, 1) := by decide +kernel
theorem dX7_warnedAt_25 : decode cX7_warnedAt 25 = .ok (.iaload, 1) := by decide +kernel
theorem dX7_warnedAt_26 : decode cX7_warnedAt 26 = .ok (.ireturn, 1) := by decide +kernel
theorem dX7_warnedWhom_0 : decode cX7_warnedWhom 0 = .ok (.iload_n 1, 1) := by decide +kernel
theorem dX7_warnedWhom_1 : decode cX7_warnedWhom 1 = .ok (.aload_n 0, 1) := by decide +kernel
theorem dX7_warnedWhom_2 : decode cX7_warnedWhom 2 = .ok (.getfield 10, 3) := by decide +kernel
theorem dX7_warnedWhom_5 : decode cX7_warnedWhom 5 = .ok (.getfield 103, 3) := by decide +kernel
theorem dX7_warnedWhom_8 : decode cX7_warnedWhom 8 = .ok (.getfield 153, 3) := by decide +kernel
theorem dX7_warnedWhom_11 : decode cX7_warnedWhom 11 = .ok (.invokestatic 87, 3) := by decide +kernel
theorem dX7_warnedWhom_14 : decode cX7_warnedWhom 14 = .ok (.aload_n 0, 1) := by decide +kernel
theorem dX7_warnedWhom_15 : decode cX7_warnedWhom 15 = .ok (.getfield 10, 3) := by decide +kernel
theorem dX7_warnedWhom_18 : decode cX7_warnedWhom 18 = .ok (.getfield 103, 3) := by decide +kernel
theorem dX7_warnedWhom_21 : decode cX7_warnedWhom 21 = .ok (.getfield 159, 3) := by decide +kernel
theorem dX7_warnedWhom_24 : decode cX7_warnedWhom 24 = .ok (.iload_n 1, 1) := by decide +kernel
theorem dX7_warnedWhom_25 : decode cX7_warnedWhom 25 = .ok (.iaload, 1) := by decide +kernel
theorem dX7_warnedWhom_26 : decode cX7_warnedWhom 26 = .ok (.ireturn, 1) := by decide +kernel
theorem dX7_warnedBy_0 : decode cX7_warnedBy 0 = .ok (.iload_n 1, 1) := by decide +kernel
theorem dX7_warnedBy_1 : decode cX7_warnedBy 1 = .ok (.aload_n 0, 1) := by decide +kernel
theorem dX7_warnedBy_2 : decode cX7_warnedBy 2 = .ok (.getfield 10, 3) := by decide +kernel
theorem dX7_warnedBy_5 : decode cX7_warnedBy 5 = .ok (.getfield 103, 3) := by decide +kernel
theorem dX7_warnedBy_8 : decode cX7_warnedBy 8 = .ok (.getfield 153, 3) := by decide +kernel
theorem dX7_warnedBy_11 : decode cX7_warnedBy 11 = .ok (.invokestatic 87, 3) := by decide +kernel
theorem dX7_warnedBy_14 : decode cX7_warnedBy 14 = .ok (.aload_n 0, 1) := by decide +kernel
theorem dX7_warnedBy_15 : decode cX7_warnedBy 15 = .ok (.getfield 10, 3) := by decide +kernel
theorem dX7_warnedBy_18 : decode cX7_warnedBy 18 = .ok (.getfield 103, 3) := by decide +kernel
theorem dX7_warnedBy_21 : decode cX7_warnedBy 21 = .ok (.getfield 162, 3) := by decide +kernel
theorem dX7_warnedBy_24 : decode cX7_warnedBy 24 = .ok (.iload_n 1, 1) := by decide +kernel
theorem dX7_warnedBy_25 : decode cX7_warnedBy 25 = .ok (.iaload, 1) := by decide +kernel
theorem dX7_warnedBy_26 : decode cX7_warnedBy 26 = .ok (.ireturn, 1) := by decide +kernel
theorem dX7_closings_0 : decode cX7_closings 0 = .ok (.aload_n 0, 1) := by decide +kernel
theorem dX7_closings_1 : decode cX7_closings 1 = .ok (.getfield 10, 3) := by decide +kernel
theorem dX7_closings_4 : decode cX7_closings 4 = .ok (.getfield 110, 3) := by decide +kernel
theorem dX7_closings_7 : decode cX7_closings 7 = .ok (.getfield 165, 3) := by decide +kernel
theorem dX7_closings_10 : decode cX7_closings 10 = .ok (.ireturn, 1) := by decide +kernel
theorem dX7_made_0 : decode cX7_made 0 = .ok (.aload_n 0, 1) := by decide +kernel
theorem dX7_made_1 : decode cX7_made 1 = .ok (.getfield 10, 3) := by decide +kernel
theorem dX7_made_4 : decode cX7_made 4 = .ok (.getfield 48, 3) := by decide +kernel
theorem dX7_made_7 : decode cX7_made 7 = .ok (.getfield 168, 3) := by decide +kernel
theorem dX7_made_10 : decode cX7_made 10 = .ok (.lreturn, 1) := by decide +kernel
theorem dX7_blown_0 : decode cX7_blown 0 = .ok (.aload_n 0, 1) := by decide +kernel
theorem dX7_blown_1 : decode cX7_blown 1 = .ok (.getfield 10, 3) := by decide +kernel
theorem dX7_blown_4 : decode cX7_blown 4 = .ok (.getfield 48, 3) := by decide +kernel
theorem dX7_blown_7 : decode cX7_blown 7 = .ok (.getfield 172, 3) := by decide +kernel
theorem dX7_blown_10 : decode cX7_blown 10 = .ok (.lreturn, 1) := by decide +kernel
theorem dX7_settled_0 : decode cX7_settled 0 = .ok (.aload_n 0, 1) := by decide +kernel
theorem dX7_settled_1 : decode cX7_settled 1 = .ok (.getfield 10, 3) := by decide +kernel
theorem dX7_settled_4 : decode cX7_settled 4 = .ok (.getfield 48, 3) := by decide +kernel
theorem dX7_settled_7 : decode cX7_settled 7 = .ok (.getfield 175, 3) := by decide +kernel
theorem dX7_settled_10 : decode cX7_settled 10 = .ok (.lreturn, 1) := by decide +kernel
theorem dX7_mended_0 : decode cX7_mended 0 = .ok (.aload_n 0, 1) := by decide +kernel
theorem dX7_mended_1 : decode cX7_mended 1 = .ok (.getfield 10, 3) := by decide +kernel
theorem dX7_mended_4 : decode cX7_mended 4 = .ok (.getfield 74, 3) := by decide +kernel
theorem dX7_mended_7 : decode cX7_mended 7 = .ok (.getfield 178, 3) := by decide +kernel
theorem dX7_mended_10 : decode cX7_mended 10 = .ok (.lreturn, 1) := by decide +kernel
theorem dX7_trustShare_0 : decode cX7_trustShare 0 = .ok (.aload_n 0, 1) := by decide +kernel
theorem dX7_trustShare_1 : decode cX7_trustShare 1 = .ok (.getfield 10, 3) := by decide +kernel
theorem dX7_trustShare_4 : decode cX7_trustShare 4 = .ok (.getfield 74, 3) := by decide +kernel
theorem dX7_trustShare_7 : decode cX7_trustShare 7 = .ok (.getfield 78, 3) := by decide +kernel
theorem dX7_trustShare_10 : decode cX7_trustShare 10 = .ok (.ifCond .ne 13, 3) := by decide +kernel
theorem dX7_trustShare_13 : decode cX7_trustShare 13 = .ok (.new 181, 3) := by decide +kernel
theorem dX7_trustShare_16 : decode cX7_trustShare 16 = .ok (.dup, 1) := by decide +kernel
theorem dX7_trustShare_17 : decode cX7_trustShare 17 = .ok (.ldc 183, 2) := by decide +kernel
theorem dX7_trustShare_19 : decode cX7_trustShare 19 = .ok (.invokespecial 185, 3) := by decide +kernel
theorem dX7_trustShare_22 : decode cX7_trustShare 22 = .ok (.athrow, 1) := by decide +kernel
theorem dX7_trustShare_23 : decode cX7_trustShare 23 = .ok (.aload_n 0, 1) := by decide +kernel
theorem dX7_trustShare_24 : decode cX7_trustShare 24 = .ok (.getfield 10, 3) := by decide +kernel
theorem dX7_trustShare_27 : decode cX7_trustShare 27 = .ok (.getfield 74, 3) := by decide +kernel
theorem dX7_trustShare_30 : decode cX7_trustShare 30 = .ok (.invokevirtual 186, 3) := by decide +kernel
theorem dX7_trustShare_33 : decode cX7_trustShare 33 = .ok (.i2f, 1) := by decide +kernel
theorem dX7_trustShare_34 : decode cX7_trustShare 34 = .ok (.aload_n 0, 1) := by decide +kernel
theorem dX7_trustShare_35 : decode cX7_trustShare 35 = .ok (.getfield 10, 3) := by decide +kernel
theorem dX7_trustShare_38 : decode cX7_trustShare 38 = .ok (.getfield 74, 3) := by decide +kernel
theorem dX7_trustShare_41 : decode cX7_trustShare 41 = .ok (.getfield 78, 3) := by decide +kernel
theorem dX7_trustShare_44 : decode cX7_trustShare 44 = .ok (.i2f, 1) := by decide +kernel
theorem dX7_trustShare_45 : decode cX7_trustShare 45 = .ok (.fdiv, 1) := by decide +kernel
theorem dX7_trustShare_46 : decode cX7_trustShare 46 = .ok (.freturn, 1) := by decide +kernel
theorem dX7_meanSmoke_0 : decode cX7_meanSmoke 0 = .ok (.aload_n 0, 1) := by decide +kernel
theorem dX7_meanSmoke_1 : decode cX7_meanSmoke 1 = .ok (.getfield 10, 3) := by decide +kernel
theorem dX7_meanSmoke_4 : decode cX7_meanSmoke 4 = .ok (.getfield 48, 3) := by decide +kernel
theorem dX7_meanSmoke_7 : decode cX7_meanSmoke 7 = .ok (.invokevirtual 190, 3) := by decide +kernel
theorem dX7_meanSmoke_10 : decode cX7_meanSmoke 10 = .ok (.l2d, 1) := by decide +kernel
theorem dX7_meanSmoke_11 : decode cX7_meanSmoke 11 = .ok (.ldc2_w 194, 3) := by decide +kernel
theorem dX7_meanSmoke_14 : decode cX7_meanSmoke 14 = .ok (.ddiv, 1) := by decide +kernel
theorem dX7_meanSmoke_15 : decode cX7_meanSmoke 15 = .ok (.dreturn, 1) := by decide +kernel
theorem dX7_isKept_0 : decode cX7_isKept 0 = .ok (.aload_n 0, 1) := by decide +kernel
theorem dX7_isKept_1 : decode cX7_isKept 1 = .ok (.getfield 10, 3) := by decide +kernel
theorem dX7_isKept_4 : decode cX7_isKept 4 = .ok (.getfield 48, 3) := by decide +kernel
theorem dX7_isKept_7 : decode cX7_isKept 7 = .ok (.invokevirtual 190, 3) := by decide +kernel
theorem dX7_isKept_10 : decode cX7_isKept 10 = .ok (.aload_n 0, 1) := by decide +kernel
theorem dX7_isKept_11 : decode cX7_isKept 11 = .ok (.invokevirtual 196, 3) := by decide +kernel
theorem dX7_isKept_14 : decode cX7_isKept 14 = .ok (.aload_n 0, 1) := by decide +kernel
theorem dX7_isKept_15 : decode cX7_isKept 15 = .ok (.invokevirtual 199, 3) := by decide +kernel
theorem dX7_isKept_18 : decode cX7_isKept 18 = .ok (.ladd, 1) := by decide +kernel
theorem dX7_isKept_19 : decode cX7_isKept 19 = .ok (.aload_n 0, 1) := by decide +kernel
theorem dX7_isKept_20 : decode cX7_isKept 20 = .ok (.invokevirtual 202, 3) := by decide +kernel
theorem dX7_isKept_23 : decode cX7_isKept 23 = .ok (.lsub, 1) := by decide +kernel
theorem dX7_isKept_24 : decode cX7_isKept 24 = .ok (.aload_n 0, 1) := by decide +kernel
theorem dX7_isKept_25 : decode cX7_isKept 25 = .ok (.invokevirtual 205, 3) := by decide +kernel
theorem dX7_isKept_28 : decode cX7_isKept 28 = .ok (.lsub, 1) := by decide +kernel
theorem dX7_isKept_29 : decode cX7_isKept 29 = .ok (.lcmp, 1) := by decide +kernel
theorem dX7_isKept_30 : decode cX7_isKept 30 = .ok (.ifCond .ne 7, 3) := by decide +kernel
theorem dX7_isKept_33 : decode cX7_isKept 33 = .ok (.iconst 1, 1) := by decide +kernel
theorem dX7_isKept_34 : decode cX7_isKept 34 = .ok (.goto 4, 3) := by decide +kernel
theorem dX7_isKept_37 : decode cX7_isKept 37 = .ok (.iconst 0, 1) := by decide +kernel
theorem dX7_isKept_38 : decode cX7_isKept 38 = .ok (.ireturn, 1) := by decide +kernel
theorem dX7_isSame_0 : decode cX7_isSame 0 = .ok (.aload_n 0, 1) := by decide +kernel
theorem dX7_isSame_1 : decode cX7_isSame 1 = .ok (.getfield 29, 3) := by decide +kernel
theorem dX7_isSame_4 : decode cX7_isSame 4 = .ok (.aload_n 0, 1) := by decide +kernel
theorem dX7_isSame_5 : decode cX7_isSame 5 = .ok (.getfield 25, 3) := by decide +kernel
theorem dX7_isSame_8 : decode cX7_isSame 8 = .ok (.if_icmp .ge 39, 3) := by decide +kernel
theorem dX7_isSame_11 : decode cX7_isSame 11 = .ok (.aload_n 0, 1) := by decide +kernel
theorem dX7_isSame_12 : decode cX7_isSame 12 = .ok (.getfield 21, 3) := by decide +kernel
theorem dX7_isSame_15 : decode cX7_isSame 15 = .ok (.aload_n 0, 1) := by decide +kernel
theorem dX7_isSame_16 : decode cX7_isSame 16 = .ok (.getfield 29, 3) := by decide +kernel
theorem dX7_isSame_19 : decode cX7_isSame 19 = .ok (.aaload, 1) := by decide +kernel
theorem dX7_isSame_20 : decode cX7_isSame 20 = .ok (.astore_n 1, 1) := by decide +kernel
theorem dX7_isSame_21 : decode cX7_isSame 21 = .ok (.aload_n 1, 1) := by decide +kernel
theorem dX7_isSame_22 : decode cX7_isSame 22 = .ok (.ifnull 12, 3) := by decide +kernel
theorem dX7_isSame_25 : decode cX7_isSame 25 = .ok (.aload_n 0, 1) := by decide +kernel
theorem dX7_isSame_26 : decode cX7_isSame 26 = .ok (.getfield 16, 3) := by decide +kernel
theorem dX7_isSame_29 : decode cX7_isSame 29 = .ok (.aload_n 1, 1) := by decide +kernel
theorem dX7_isSame_30 : decode cX7_isSame 30 = .ok (.invokevirtual 44, 3) := by decide +kernel
theorem dX7_isSame_33 : decode cX7_isSame 33 = .ok (.pop, 1) := by decide +kernel
theorem dX7_isSame_34 : decode cX7_isSame 34 = .ok (.aload_n 0, 1) := by decide +kernel
theorem dX7_isSame_35 : decode cX7_isSame 35 = .ok (.dup, 1) := by decide +kernel
theorem dX7_isSame_36 : decode cX7_isSame 36 = .ok (.getfield 29, 3) := by decide +kernel
theorem dX7_isSame_39 : decode cX7_isSame 39 = .ok (.iconst 1, 1) := by decide +kernel
theorem dX7_isSame_40 : decode cX7_isSame 40 = .ok (.iadd, 1) := by decide +kernel
theorem dX7_isSame_41 : decode cX7_isSame 41 = .ok (.putfield 29, 3) := by decide +kernel
theorem dX7_isSame_44 : decode cX7_isSame 44 = .ok (.goto (-44), 3) := by decide +kernel
theorem dX7_isSame_47 : decode cX7_isSame 47 = .ok (.aload_n 0, 1) := by decide +kernel
theorem dX7_isSame_48 : decode cX7_isSame 48 = .ok (.getfield 10, 3) := by decide +kernel
theorem dX7_isSame_51 : decode cX7_isSame 51 = .ok (.aload_n 0, 1) := by decide +kernel
theorem dX7_isSame_52 : decode cX7_isSame 52 = .ok (.getfield 16, 3) := by decide +kernel
theorem dX7_isSame_55 : decode cX7_isSame 55 = .ok (.invokevirtual 208, 3) := by decide +kernel
theorem dX7_isSame_58 : decode cX7_isSame 58 = .ok (.ireturn, 1) := by decide +kernel
theorem dX7_isCell_0 : decode cX7_isCell 0 = .ok (.iload_n 0, 1) := by decide +kernel
theorem dX7_isCell_1 : decode cX7_isCell 1 = .ok (.ifCond .lt 23, 3) := by decide +kernel
theorem dX7_isCell_4 : decode cX7_isCell 4 = .ok (.iload_n 0, 1) := by decide +kernel
theorem dX7_isCell_5 : decode cX7_isCell 5 = .ok (.bipush 8, 2) := by decide +kernel
theorem dX7_isCell_7 : decode cX7_isCell 7 = .ok (.if_icmp .ge 17, 3) := by decide +kernel
theorem dX7_isCell_10 : decode cX7_isCell 10 = .ok (.iload_n 1, 1) := by decide +kernel
theorem dX7_isCell_11 : decode cX7_isCell 11 = .ok (.ifCond .lt 13, 3) := by decide +kernel
theorem dX7_isCell_14 : decode cX7_isCell 14 = .ok (.iload_n 1, 1) := by decide +kernel
theorem dX7_isCell_15 : decode cX7_isCell 15 = .ok (.bipush 6, 2) := by decide +kernel
theorem dX7_isCell_17 : decode cX7_isCell 17 = .ok (.if_icmp .ge 7, 3) := by decide +kernel
theorem dX7_isCell_20 : decode cX7_isCell 20 = .ok (.iconst 1, 1) := by decide +kernel
theorem dX7_isCell_21 : decode cX7_isCell 21 = .ok (.goto 4, 3) := by decide +kernel
theorem dX7_isCell_24 : decode cX7_isCell 24 = .ok (.iconst 0, 1) := by decide +kernel
theorem dX7_isCell_25 : decode cX7_isCell 25 = .ok (.ireturn, 1) := by decide +kernel
theorem dX7_placeOf_0 : decode cX7_placeOf 0 = .ok (.iload_n 0, 1) := by decide +kernel
theorem dX7_placeOf_1 : decode cX7_placeOf 1 = .ok (.iload_n 1, 1) := by decide +kernel
theorem dX7_placeOf_2 : decode cX7_placeOf 2 = .ok (.invokestatic 212, 3) := by decide +kernel
theorem dX7_placeOf_5 : decode cX7_placeOf 5 = .ok (.ifCond .ne 13, 3) := by decide +kernel
theorem dX7_placeOf_8 : decode cX7_placeOf 8 = .ok (.new 216, 3) := by decide +kernel
theorem dX7_placeOf_11 : decode cX7_placeOf 11 = .ok (.dup, 1) := by decide +kernel
theorem dX7_placeOf_12 : decode cX7_placeOf 12 = .ok (.ldc 218, 2) := by decide +kernel
theorem dX7_placeOf_14 : decode cX7_placeOf 14 = .ok (.invokespecial 220, 3) := by decide +kernel
theorem dX7_placeOf_17 : decode cX7_placeOf 17 = .ok (.athrow, 1) := by decide +kernel
theorem dX7_placeOf_18 : decode cX7_placeOf 18 = .ok (.iload_n 1, 1) := by decide +kernel
theorem dX7_placeOf_19 : decode cX7_placeOf 19 = .ok (.bipush 8, 2) := by decide +kernel
theorem dX7_placeOf_21 : decode cX7_placeOf 21 = .ok (.imul, 1) := by decide +kernel
theorem dX7_placeOf_22 : decode cX7_placeOf 22 = .ok (.iload_n 0, 1) := by decide +kernel
theorem dX7_placeOf_23 : decode cX7_placeOf 23 = .ok (.iadd, 1) := by decide +kernel
theorem dX7_placeOf_24 : decode cX7_placeOf 24 = .ok (.ireturn, 1) := by decide +kernel
theorem dX7_checkNumber_0 : decode cX7_checkNumber 0 = .ok (.iload_n 0, 1) := by decide +kernel
theorem dX7_checkNumber_1 : decode cX7_checkNumber 1 = .ok (.ifCond .lt 8, 3) := by decide +kernel
theorem dX7_checkNumber_4 : decode cX7_checkNumber 4 = .ok (.iload_n 0, 1) := by decide +kernel
theorem dX7_checkNumber_5 : decode cX7_checkNumber 5 = .ok (.iload_n 1, 1) := by decide +kernel
theorem dX7_checkNumber_6 : decode cX7_checkNumber 6 = .ok (.if_icmp .lt 13, 3) := by decide +kernel
theorem dX7_checkNumber_9 : decode cX7_checkNumber 9 = .ok (.new 216, 3) := by decide +kernel
theorem dX7_checkNumber_12 : decode cX7_checkNumber 12 = .ok (.dup, 1) := by decide +kernel
theorem dX7_checkNumber_13 : decode cX7_checkNumber 13 = .ok (.ldc 221, 2) := by decide +kernel
theorem dX7_checkNumber_15 : decode cX7_checkNumber 15 = .ok (.invokespecial 220, 3) := by decide +kernel
theorem dX7_checkNumber_18 : decode cX7_checkNumber 18 = .ok (.athrow, 1) := by decide +kernel
theorem dX7_checkNumber_19 : decode cX7_checkNumber 19 = .ok (.return_, 1) := by decide +kernel
theorem dX7_checkRange_0 : decode cX7_checkRange 0 = .ok (.iload_n 0, 1) := by decide +kernel
theorem dX7_checkRange_1 : decode cX7_checkRange 1 = .ok (.iload_n 1, 1) := by decide +kernel
theorem dX7_checkRange_2 : decode cX7_checkRange 2 = .ok (.if_icmp .lt 8, 3) := by decide +kernel
theorem dX7_checkRange_5 : decode cX7_checkRange 5 = .ok (.iload_n 0, 1) := by decide +kernel
theorem dX7_checkRange_6 : decode cX7_checkRange 6 = .ok (.iload_n 2, 1) := by decide +kernel
theorem dX7_checkRange_7 : decode cX7_checkRange 7 = .ok (.if_icmp .le 13, 3) := by decide +kernel
theorem dX7_checkRange_10 : decode cX7_checkRange 10 = .ok (.new 223, 3) := by decide +kernel
theorem dX7_checkRange_13 : decode cX7_checkRange 13 = .ok (.dup, 1) := by decide +kernel
theorem dX7_checkRange_14 : decode cX7_checkRange 14 = .ok (.ldc 225, 2) := by decide +kernel
theorem dX7_checkRange_16 : decode cX7_checkRange 16 = .ok (.invokespecial 227, 3) := by decide +kernel
theorem dX7_checkRange_19 : decode cX7_checkRange 19 = .ok (.athrow, 1) := by decide +kernel
theorem dX7_checkRange_20 : decode cX7_checkRange 20 = .ok (.return_, 1) := by decide +kernel
theorem dX7_checkRoom_0 : decode cX7_checkRoom 0 = .ok (.iload_n 0, 1) := by decide +kernel
theorem dX7_checkRoom_1 : decode cX7_checkRoom 1 = .ok (.iload_n 1, 1) := by decide +kernel
theorem dX7_checkRoom_2 : decode cX7_checkRoom 2 = .ok (.if_icmp .lt 13, 3) := by decide +kernel
theorem dX7_checkRoom_5 : decode cX7_checkRoom 5 = .ok (.new 126, 3) := by decide +kernel
theorem dX7_checkRoom_8 : decode cX7_checkRoom 8 = .ok (.dup, 1) := by decide +kernel
theorem dX7_checkRoom_9 : decode cX7_checkRoom 9 = .ok (.ldc 228, 2) := by decide +kernel
theorem dX7_checkRoom_11 : decode cX7_checkRoom 11 = .ok (.invokespecial 130, 3) := by decide +kernel
theorem dX7_checkRoom_14 : decode cX7_checkRoom 14 = .ok (.athrow, 1) := by decide +kernel
theorem dX7_checkRoom_15 : decode cX7_checkRoom 15 = .ok (.return_, 1) := by decide +kernel
theorem dX7_noted_0 : decode cX7_noted 0 = .ok (.new 19, 3) := by decide +kernel
theorem dX7_noted_3 : decode cX7_noted 3 = .ok (.dup, 1) := by decide +kernel
theorem dX7_noted_4 : decode cX7_noted 4 = .ok (.iload_n 1, 1) := by decide +kernel
theorem dX7_noted_5 : decode cX7_noted 5 = .ok (.iload_n 2, 1) := by decide +kernel
theorem dX7_noted_6 : decode cX7_noted 6 = .ok (.iload_n 3, 1) := by decide +kernel
theorem dX7_noted_7 : decode cX7_noted 7 = .ok (.iload 4, 2) := by decide +kernel
theorem dX7_noted_9 : decode cX7_noted 9 = .ok (.iload 5, 2) := by decide +kernel
theorem dX7_noted_11 : decode cX7_noted 11 = .ok (.invokespecial 230, 3) := by decide +kernel
theorem dX7_noted_14 : decode cX7_noted 14 = .ok (.astore 6, 2) := by decide +kernel
theorem dX7_noted_16 : decode cX7_noted 16 = .ok (.aload_n 0, 1) := by decide +kernel
theorem dX7_noted_17 : decode cX7_noted 17 = .ok (.getfield 25, 3) := by decide +kernel
theorem dX7_noted_20 : decode cX7_noted 20 = .ok (.aload_n 0, 1) := by decide +kernel
theorem dX7_noted_21 : decode cX7_noted 21 = .ok (.getfield 21, 3) := by decide +kernel
theorem dX7_noted_24 : decode cX7_noted 24 = .ok (.arraylength, 1) := by decide +kernel
theorem dX7_noted_25 : decode cX7_noted 25 = .ok (.if_icmp .ge 24, 3) := by decide +kernel
theorem dX7_noted_28 : decode cX7_noted 28 = .ok (.aload_n 0, 1) := by decide +kernel
theorem dX7_noted_29 : decode cX7_noted 29 = .ok (.getfield 21, 3) := by decide +kernel
theorem dX7_noted_32 : decode cX7_noted 32 = .ok (.aload_n 0, 1) := by decide +kernel
theorem dX7_noted_33 : decode cX7_noted 33 = .ok (.getfield 25, 3) := by decide +kernel
theorem dX7_noted_36 : decode cX7_noted 36 = .ok (.aload 6, 2) := by decide +kernel
theorem dX7_noted_38 : decode cX7_noted 38 = .ok (.aastore, 1) := by decide +kernel
theorem dX7_noted_39 : decode cX7_noted 39 = .ok (.aload_n 0, 1) := by decide +kernel
theorem dX7_noted_40 : decode cX7_noted 40 = .ok (.dup, 1) := by decide +kernel
theorem dX7_noted_41 : decode cX7_noted 41 = .ok (.getfield 25, 3) := by decide +kernel
theorem dX7_noted_44 : decode cX7_noted 44 = .ok (.iconst 1, 1) := by decide +kernel
theorem dX7_noted_45 : decode cX7_noted 45 = .ok (.iadd, 1) := by decide +kernel
theorem dX7_noted_46 : decode cX7_noted 46 = .ok (.putfield 25, 3) := by decide +kernel
theorem dX7_noted_49 : decode cX7_noted 49 = .ok (.aload 6, 2) := by decide +kernel
theorem dX7_noted_51 : decode cX7_noted 51 = .ok (.areturn, 1) := by decide +kernel
theorem dX8_init_0 : decode cX8_init 0 = .ok (.aload_n 0, 1) := by decide +kernel
theorem dX8_init_1 : decode cX8_init 1 = .ok (.invokespecial 3, 3) := by decide +kernel
theorem dX8_init_4 : decode cX8_init 4 = .ok (.aload_n 0, 1) := by decide +kernel
theorem dX8_init_5 : decode cX8_init 5 = .ok (.bipush 48, 2) := by decide +kernel
theorem dX8_init_7 : decode cX8_init 7 = .ok (.newarray .int, 2) := by decide +kernel
theorem dX8_init_9 : decode cX8_init 9 = .ok (.putfield 9, 3) := by decide +kernel
theorem dX8_init_12 : decode cX8_init 12 = .ok (.aload_n 0, 1) := by decide +kernel
theorem dX8_init_13 : decode cX8_init 13 = .ok (.iconst 3, 1) := by decide +kernel
theorem dX8_init_14 : decode cX8_init 14 = .ok (.newarray .int, 2) := by decide +kernel
theorem dX8_init_16 : decode cX8_init 16 = .ok (.putfield 15, 3) := by decide +kernel
theorem dX8_init_19 : decode cX8_init 19 = .ok (.aload_n 0, 1) := by decide +kernel
theorem dX8_init_20 : decode cX8_init 20 = .ok (.iconst 3, 1) := by decide +kernel
theorem dX8_init_21 : decode cX8_init 21 = .ok (.newarray .int, 2) := by decide +kernel
theorem dX8_init_23 : decode cX8_init 23 = .ok (.putfield 18, 3) := by decide +kernel
theorem dX8_init_26 : decode cX8_init 26 = .ok (.aload_n 0, 1) := by decide +kernel
theorem dX8_init_27 : decode cX8_init 27 = .ok (.bipush 48, 2) := by decide +kernel
theorem dX8_init_29 : decode cX8_init 29 = .ok (.newarray .int, 2) := by decide +kernel
theorem dX8_init_31 : decode cX8_init 31 = .ok (.putfield 21, 3) := by decide +kernel
theorem dX8_init_34 : decode cX8_init 34 = .ok (.aload_n 0, 1) := by decide +kernel
theorem dX8_init_35 : decode cX8_init 35 = .ok (.bipush 48, 2) := by decide +kernel
theorem dX8_init_37 : decode cX8_init 37 = .ok (.newarray .int, 2) := by decide +kernel
theorem dX8_init_39 : decode cX8_init 39 = .ok (.putfield 24, 3) := by decide +kernel
theorem dX8_init_42 : decode cX8_init 42 = .ok (.aload_n 0, 1) := by decide +kernel
theorem dX8_init_43 : decode cX8_init 43 = .ok (.bipush 48, 2) := by decide +kernel
theorem dX8_init_45 : decode cX8_init 45 = .ok (.newarray .boolean, 2) := by decide +kernel
theorem dX8_init_47 : decode cX8_init 47 = .ok (.putfield 27, 3) := by decide +kernel
theorem dX8_init_50 : decode cX8_init 50 = .ok (.aload_n 0, 1) := by decide +kernel
theorem dX8_init_51 : decode cX8_init 51 = .ok (.getfield 9, 3) := by decide +kernel
theorem dX8_init_54 : decode cX8_init 54 = .ok (.bipush 10, 2) := by decide +kernel
theorem dX8_init_56 : decode cX8_init 56 = .ok (.invokestatic 31, 3) := by decide +kernel
theorem dX8_init_59 : decode cX8_init 59 = .ok (.return_, 1) := by decide +kernel
theorem dX8_init__0 : decode cX8_init_ 0 = .ok (.aload_n 0, 1) := by decide +kernel
theorem dX8_init__1 : decode cX8_init_ 1 = .ok (.invokespecial 3, 3) := by decide +kernel
theorem dX8_init__4 : decode cX8_init_ 4 = .ok (.aload_n 0, 1) := by decide +kernel
theorem dX8_init__5 : decode cX8_init_ 5 = .ok (.bipush 48, 2) := by decide +kernel
theorem dX8_init__7 : decode cX8_init_ 7 = .ok (.newarray .int, 2) := by decide +kernel
theorem dX8_init__9 : decode cX8_init_ 9 = .ok (.putfield 9, 3) := by decide +kernel
theorem dX8_init__12 : decode cX8_init_ 12 = .ok (.aload_n 0, 1) := by decide +kernel
theorem dX8_init__13 : decode cX8_init_ 13 = .ok (.iconst 3, 1) := by decide +kernel
theorem dX8_init__14 : decode cX8_init_ 14 = .ok (.newarray .int, 2) := by decide +kernel
theorem dX8_init__16 : decode cX8_init_ 16 = .ok (.putfield 15, 3) := by decide +kernel
theorem dX8_init__19 : decode cX8_init_ 19 = .ok (.aload_n 0, 1) := by decide +kernel
theorem dX8_init__20 : decode cX8_init_ 20 = .ok (.iconst 3, 1) := by decide +kernel
theorem dX8_init__21 : decode cX8_init_ 21 = .ok (.newarray .int, 2) := by decide +kernel
theorem dX8_init__23 : decode cX8_init_ 23 = .ok (.putfield 18, 3) := by decide +kernel
theorem dX8_init__26 : decode cX8_init_ 26 = .ok (.aload_n 0, 1) := by decide +kernel
theorem dX8_init__27 : decode cX8_init_ 27 = .ok (.bipush 48, 2) := by decide +kernel
theorem dX8_init__29 : decode cX8_init_ 29 = .ok (.newarray .int, 2) := by decide +kernel
theorem dX8_init__31 : decode cX8_init_ 31 = .ok (.putfield 21, 3) := by decide +kernel
theorem dX8_init__34 : decode cX8_init_ 34 = .ok (.aload_n 0, 1) := by decide +kernel
theorem dX8_init__35 : decode cX8_init_ 35 = .ok (.bipush 48, 2) := by decide +kernel
theorem dX8_init__37 : decode cX8_init_ 37 = .ok (.newarray .int, 2) := by decide +kernel
theorem dX8_init__39 : decode cX8_init_ 39 = .ok (.putfield 24, 3) := by decide +kernel
theorem dX8_init__42 : decode cX8_init_ 42 = .ok (.aload_n 0, 1) := by decide +kernel
theorem dX8_init__43 : decode cX8_init_ 43 = .ok (.bipush 48, 2) := by decide +kernel
theorem dX8_init__45 : decode cX8_init_ 45 = .ok (.newarray .boolean, 2) := by decide +kernel
theorem dX8_init__47 : decode cX8_init_ 47 = .ok (.putfield 27, 3) := by decide +kernel
theorem dX8_init__50 : decode cX8_init_ 50 = .ok (.aload_n 1, 1) := by decide +kernel
theorem dX8_init__51 : decode cX8_init_ 51 = .ok (.getfield 9, 3) := by decide +kernel
theorem dX8_init__54 : decode cX8_init_ 54 = .ok (.iconst 0, 1) := by decide +kernel
theorem dX8_init__55 : decode cX8_init_ 55 = .ok (.aload_n 0, 1) := by decide +kernel
theorem dX8_init__56 : decode cX8_init_ 56 = .ok (.getfield 9, 3) := by decide +kernel
theorem dX8_init__59 : decode cX8_init_ 59 = .ok (.iconst 0, 1) := by decide +kernel
theorem dX8_init__60 : decode cX8_init_ 60 = .ok (.bipush 48, 2) := by decide +kernel
theorem dX8_init__62 : decode cX8_init_ 62 = .ok (.invokestatic 37, 3) := by decide +kernel
theorem dX8_init__65 : decode cX8_init_ 65 = .ok (.aload_n 1, 1) := by decide +kernel
theorem dX8_init__66 : decode cX8_init_ 66 = .ok (.getfield 15, 3) := by decide +kernel
theorem dX8_init__69 : decode cX8_init_ 69 = .ok (.iconst 0, 1) := by decide +kernel
theorem dX8_init__70 : decode cX8_init_ 70 = .ok (.aload_n 0, 1) := by decide +kernel
theorem dX8_init__71 : decode cX8_init_ 71 = .ok (.getfield 15, 3) := by decide +kernel
theorem dX8_init__74 : decode cX8_init_ 74 = .ok (.iconst 0, 1) := by decide +kernel
theorem dX8_init__75 : decode cX8_init_ 75 = .ok (.iconst 3, 1) := by decide +kernel
theorem dX8_init__76 : decode cX8_init_ 76 = .ok (.invokestatic 37, 3) := by decide +kernel
theorem dX8_init__79 : decode cX8_init_ 79 = .ok (.aload_n 1, 1) := by decide +kernel
theorem dX8_init__80 : decode cX8_init_ 80 = .ok (.getfield 18, 3) := by decide +kernel
theorem dX8_init__83 : decode cX8_init_ 83 = .ok (.iconst 0, 1) := by decide +kernel
theorem dX8_init__84 : decode cX8_init_ 84 = .ok (.aload_n 0, 1) := by decide +kernel
theorem dX8_init__85 : decode cX8_init_ 85 = .ok (.getfield 18, 3) := by decide +kernel
theorem dX8_init__88 : decode cX8_init_ 88 = .ok (.iconst 0, 1) := by decide +kernel
theorem dX8_init__89 : decode cX8_init_ 89 = .ok (.iconst 3, 1) := by decide +kernel
theorem dX8_init__90 : decode cX8_init_ 90 = .ok (.invokestatic 37, 3) := by decide +kernel
theorem dX8_init__93 : decode cX8_init_ 93 = .ok (.aload_n 1, 1) := by decide +kernel
theorem dX8_init__94 : decode cX8_init_ 94 = .ok (.getfield 27, 3) := by decide +kernel
theorem dX8_init__97 : decode cX8_init_ 97 = .ok (.iconst 0, 1) := by decide +kernel
theorem dX8_init__98 : decode cX8_init_ 98 = .ok (.aload_n 0, 1) := by decide +kernel
theorem dX8_init__99 : decode cX8_init_ 99 = .ok (.getfield 27, 3) := by decide +kernel
theorem dX8_init__102 : decode cX8_init_ 102 = .ok (.iconst 0, 1) := by decide +kernel
theorem dX8_init__103 : decode cX8_init_ 103 = .ok (.bipush 48, 2) := by decide +kernel
theorem dX8_init__105 : decode cX8_init_ 105 = .ok (.invokestatic 37, 3) := by decide +kernel
theorem dX8_init__108 : decode cX8_init_ 108 = .ok (.aload_n 0, 1) := by decide +kernel
theorem dX8_init__109 : decode cX8_init_ 109 = .ok (.aload_n 1, 1) := by decide +kernel
theorem dX8_init__110 : decode cX8_init_ 110 = .ok (.getfield 21, 3) := by decide +kernel
theorem dX8_init__113 : decode cX8_init_ 113 = .ok (.invokevirtual 43, 3) := by decide +kernel
theorem dX8_init__116 : decode cX8_init_ 116 = .ok (.checkcast 44, 3) := by decide +kernel
theorem dX8_init__119 : decode cX8_init_ 119 = .ok (.putfield 21, 3) := by decide +kernel
theorem dX8_init__122 : decode cX8_init_ 122 = .ok (.aload_n 0, 1) := by decide +kernel
theorem dX8_init__123 : decode cX8_init_ 123 = .ok (.aload_n 1, 1) := by decide +kernel
theorem dX8_init__124 : decode cX8_init_ 124 = .ok (.getfield 24, 3) := by decide +kernel
theorem dX8_init__127 : decode cX8_init_ 127 = .ok (.invokevirtual 43, 3) := by decide +kernel
theorem dX8_init__130 : decode cX8_init_ 130 = .ok (.checkcast 44, 3) := by decide +kernel
theorem dX8_init__133 : decode cX8_init_ 133 = .ok (.putfield 24, 3) := by decide +kernel
theorem dX8_init__136 : decode cX8_init_ 136 = .ok (.aload_n 0, 1) := by decide +kernel
theorem dX8_init__137 : decode cX8_init_ 137 = .ok (.aload_n 1, 1) := by decide +kernel
theorem dX8_init__138 : decode cX8_init_ 138 = .ok (.getfield 48, 3) := by decide +kernel
theorem dX8_init__141 : decode cX8_init_ 141 = .ok (.putfield 48, 3) := by decide +kernel
theorem dX8_init__144 : decode cX8_init_ 144 = .ok (.aload_n 0, 1) := by decide +kernel
theorem dX8_init__145 : decode cX8_init_ 145 = .ok (.aload_n 1, 1) := by decide +kernel
theorem dX8_init__146 : decode cX8_init_ 146 = .ok (.getfield 52, 3) := by decide +kernel
theorem dX8_init__149 : decode cX8_init_ 149 = .ok (.putfield 52, 3) := by decide +kernel
theorem dX8_init__152 : decode cX8_init_ 152 = .ok (.aload_n 0, 1) := by decide +kernel
theorem dX8_init__153 : decode cX8_init_ 153 = .ok (.aload_n 1, 1) := by decide +kernel
theorem dX8_init__154 : decode cX8_init_ 154 = .ok (.getfield 55, 3) := by decide +kernel
theorem dX8_init__157 : decode cX8_init_ 157 = .ok (.putfield 55, 3) := by decide +kernel
theorem dX8_init__160 : decode cX8_init_ 160 = .ok (.aload_n 0, 1) := by decide +kernel
theorem dX8_init__161 : decode cX8_init_ 161 = .ok (.aload_n 1, 1) := by decide +kernel
theorem dX8_init__162 : decode cX8_init_ 162 = .ok (.getfield 58, 3) := by decide +kernel
theorem dX8_init__165 : decode cX8_init_ 165 = .ok (.putfield 58, 3) := by decide +kernel
theorem dX8_init__168 : decode cX8_init_ 168 = .ok (.return_, 1) := by decide +kernel
theorem dX8_dig_0 : decode cX8_dig 0 = .ok (.iconst 0, 1) := by decide +kernel
theorem dX8_dig_1 : decode cX8_dig 1 = .ok (.istore_n 1, 1) := by decide +kernel
theorem dX8_dig_2 : decode cX8_dig 2 = .ok (.iload_n 1, 1) := by decide +kernel
theorem dX8_dig_3 : decode cX8_dig 3 = .ok (.iconst 3, 1) := by decide +kernel
theorem dX8_dig_4 : decode cX8_dig 4 = .ok (.if_icmp .ge 67, 3) := by decide +kernel
theorem dX8_dig_7 : decode cX8_dig 7 = .ok (.aload_n 0, 1) := by decide +kernel
theorem dX8_dig_8 : decode cX8_dig 8 = .ok (.getfield 15, 3) := by decide +kernel
theorem dX8_dig_11 : decode cX8_dig 11 = .ok (.iload_n 1, 1) := by decide +kernel
theorem dX8_dig_12 : decode cX8_dig 12 = .ok (.iaload, 1) := by decide +kernel
theorem dX8_dig_13 : decode cX8_dig 13 = .ok (.ifCond .ne 6, 3) := by decide +kernel
theorem dX8_dig_16 : decode cX8_dig 16 = .ok (.goto 49, 3) := by decide +kernel
theorem dX8_dig_19 : decode cX8_dig 19 = .ok (.aload_n 0, 1) := by decide +kernel
theorem dX8_dig_20 : decode cX8_dig 20 = .ok (.getfield 15, 3) := by decide +kernel
theorem dX8_dig_23 : decode cX8_dig 23 = .ok (.iload_n 1, 1) := by decide +kernel
theorem dX8_dig_24 : decode cX8_dig 24 = .ok (.dup2, 1) := by decide +kernel
theorem dX8_dig_25 : decode cX8_dig 25 = .ok (.iaload, 1) := by decide +kernel
theorem dX8_dig_26 : decode cX8_dig 26 = .ok (.iconst 1, 1) := by decide +kernel
theorem dX8_dig_27 : decode cX8_dig 27 = .ok (.isub, 1) := by decide +kernel
theorem dX8_dig_28 : decode cX8_dig 28 = .ok (.iastore, 1) := by decide +kernel
theorem dX8_dig_29 : decode cX8_dig 29 = .ok (.aload_n 0, 1) := by decide +kernel
theorem dX8_dig_30 : decode cX8_dig 30 = .ok (.getfield 15, 3) := by decide +kernel
theorem dX8_dig_33 : decode cX8_dig 33 = .ok (.iload_n 1, 1) := by decide +kernel
theorem dX8_dig_34 : decode cX8_dig 34 = .ok (.iaload, 1) := by decide +kernel
theorem dX8_dig_35 : decode cX8_dig 35 = .ok (.ifCond .le 6, 3) := by decide +kernel
theorem dX8_dig_38 : decode cX8_dig 38 = .ok (.goto 27, 3) := by decide +kernel
theorem dX8_dig_41 : decode cX8_dig 41 = .ok (.aload_n 0, 1) := by decide +kernel
theorem dX8_dig_42 : decode cX8_dig 42 = .ok (.getfield 27, 3) := by decide +kernel
theorem dX8_dig_45 : decode cX8_dig 45 = .ok (.aload_n 0, 1) := by decide +kernel
theorem dX8_dig_46 : decode cX8_dig 46 = .ok (.getfield 18, 3) := by decide +kernel
theorem dX8_dig_49 : decode cX8_dig 49 = .ok (.iload_n 1, 1) := by decide +kernel
theorem dX8_dig_50 : decode cX8_dig 50 = .ok (.iaload, 1) := by decide +kernel
theorem dX8_dig_51 : decode cX8_dig 51 = .ok (.iconst 1, 1) := by decide +kernel
theorem dX8_dig_52 : decode cX8_dig 52 = .ok (.bastore, 1) := by decide +kernel
theorem dX8_dig_53 : decode cX8_dig 53 = .ok (.aload_n 0, 1) := by decide +kernel
theorem dX8_dig_54 : decode cX8_dig 54 = .ok (.getfield 21, 3) := by decide +kernel
theorem dX8_dig_57 : decode cX8_dig 57 = .ok (.aload_n 0, 1) := by decide +kernel
theorem dX8_dig_58 : decode cX8_dig 58 = .ok (.getfield 18, 3) := by decide +kernel
theorem dX8_dig_61 : decode cX8_dig 61 = .ok (.iload_n 1, 1) := by decide +kernel
theorem dX8_dig_62 : decode cX8_dig 62 = .ok (.iaload, 1) := by decide +kernel
theorem dX8_dig_63 : decode cX8_dig 63 = .ok (.iconst 0, 1) := by decide +kernel
theorem dX8_dig_64 : decode cX8_dig 64 = .ok (.iastore, 1) := by decide +kernel
theorem dX8_dig_65 : decode cX8_dig 65 = .ok (.iinc 1 1, 3) := by decide +kernel
theorem dX8_dig_68 : decode cX8_dig 68 = .ok (.goto (-66), 3) := by decide +kernel
theorem dX8_dig_71 : decode cX8_dig 71 = .ok (.return_, 1) := by decide +kernel
theorem dX8_burn_0 : decode cX8_burn 0 = .ok (.iconst 0, 1) := by decide +kernel
theorem dX8_burn_1 : decode cX8_burn 1 = .ok (.istore_n 1, 1) := by decide +kernel
theorem dX8_burn_2 : decode cX8_burn 2 = .ok (.iload_n 1, 1) := by decide +kernel
theorem dX8_burn_3 : decode cX8_burn 3 = .ok (.bipush 48, 2) := by decide +kernel
theorem dX8_burn_5 : decode cX8_burn 5 = .ok (.if_icmp .ge 99, 3) := by decide +kernel
theorem dX8_burn_8 : decode cX8_burn 8 = .ok (.aload_n 0, 1) := by decide +kernel
theorem dX8_burn_9 : decode cX8_burn 9 = .ok (.getfield 21, 3) := by decide +kernel
theorem dX8_burn_12 : decode cX8_burn 12 = .ok (.iload_n 1, 1) := by decide +kernel
theorem dX8_burn_13 : decode cX8_burn 13 = .ok (.iaload, 1) := by decide +kernel
theorem dX8_burn_14 : decode cX8_burn 14 = .ok (.aload_n 0, 1) := by decide +kernel
theorem dX8_burn_15 : decode cX8_burn 15 = .ok (.getfield 9, 3) := by decide +kernel
theorem dX8_burn_18 : decode cX8_burn 18 = .ok (.iload_n 1, 1) := by decide +kernel
theorem dX8_burn_19 : decode cX8_burn 19 = .ok (.iaload, 1) := by decide +kernel
theorem dX8_burn_20 : decode cX8_burn 20 = .ok (.invokestatic 61, 3) := by decide +kernel
theorem dX8_burn_23 : decode cX8_burn 23 = .ok (.istore_n 2, 1) := by decide +kernel
theorem dX8_burn_24 : decode cX8_burn 24 = .ok (.aload_n 0, 1) := by decide +kernel
theorem dX8_burn_25 : decode cX8_burn 25 = .ok (.getfield 9, 3) := by decide +kernel
theorem dX8_burn_28 : decode cX8_burn 28 = .ok (.iload_n 1, 1) := by decide +kernel
theorem dX8_burn_29 : decode cX8_burn 29 = .ok (.dup2, 1) := by decide +kernel
theorem dX8_burn_30 : decode cX8_burn 30 = .ok (.iaload, 1) := by decide +kernel
theorem dX8_burn_31 : decode cX8_burn 31 = .ok (.iload_n 2, 1) := by decide +kernel
theorem dX8_burn_32 : decode cX8_burn 32 = .ok (.isub, 1) := by decide +kernel
theorem dX8_burn_33 : decode cX8_burn 33 = .ok (.iastore, 1) := by decide +kernel
theorem dX8_burn_34 : decode cX8_burn 34 = .ok (.aload_n 0, 1) := by decide +kernel
theorem dX8_burn_35 : decode cX8_burn 35 = .ok (.getfield 24, 3) := by decide +kernel
theorem dX8_burn_38 : decode cX8_burn 38 = .ok (.iload_n 1, 1) := by decide +kernel
theorem dX8_burn_39 : decode cX8_burn 39 = .ok (.dup2, 1) := by decide +kernel
theorem dX8_burn_40 : decode cX8_burn 40 = .ok (.iaload, 1) := by decide +kernel
theorem dX8_burn_41 : decode cX8_burn 41 = .ok (.bipush 10, 2) := by decide +kernel
theorem dX8_burn_43 : decode cX8_burn 43 = .ok (.iload_n 2, 1) := by decide +kernel
theorem dX8_burn_44 : decode cX8_burn 44 = .ok (.imul, 1) := by decide +kernel
theorem dX8_burn_45 : decode cX8_burn 45 = .ok (.iadd, 1) := by decide +kernel
theorem dX8_burn_46 : decode cX8_burn 46 = .ok (.iastore, 1) := by decide +kernel
theorem dX8_burn_47 : decode cX8_burn 47 = .ok (.aload_n 0, 1) := by decide +kernel
theorem dX8_burn_48 : decode cX8_burn 48 = .ok (.dup, 1) := by decide +kernel
theorem dX8_burn_49 : decode cX8_burn 49 = .ok (.getfield 67, 3) := by decide +kernel
theorem dX8_burn_52 : decode cX8_burn 52 = .ok (.ldc2_w 71, 3) := by decide +kernel
theorem dX8_burn_55 : decode cX8_burn 55 = .ok (.iload_n 2, 1) := by decide +kernel
theorem dX8_burn_56 : decode cX8_burn 56 = .ok (.i2l, 1) := by decide +kernel
theorem dX8_burn_57 : decode cX8_burn 57 = .ok (.lmul, 1) := by decide +kernel
theorem dX8_burn_58 : decode cX8_burn 58 = .ok (.ladd, 1) := by decide +kernel
theorem dX8_burn_59 : decode cX8_burn 59 = .ok (.putfield 67, 3) := by decide +kernel
theorem dX8_burn_62 : decode cX8_burn 62 = .ok (.aload_n 0, 1) := by decide +kernel
theorem dX8_burn_63 : decode cX8_burn 63 = .ok (.getfield 21, 3) := by decide +kernel
theorem dX8_burn_66 : decode cX8_burn 66 = .ok (.iload_n 1, 1) := by decide +kernel
theorem dX8_burn_67 : decode cX8_burn 67 = .ok (.aload_n 0, 1) := by decide +kernel
theorem dX8_burn_68 : decode cX8_burn 68 = .ok (.getfield 9, 3) := by decide +kernel
theorem dX8_burn_71 : decode cX8_burn 71 = .ok (.iload_n 1, 1) := by decide +kernel
theorem dX8_burn_72 : decode cX8_burn 72 = .ok (.iaload, 1) := by decide +kernel
theorem dX8_burn_73 : decode cX8_burn 73 = .ok (.ifCond .ne 7, 3) := by decide +kernel
theorem dX8_burn_76 : decode cX8_burn 76 = .ok (.iconst 0, 1) := by decide +kernel
theorem dX8_burn_77 : decode cX8_burn 77 = .ok (.goto 20, 3) := by decide +kernel
theorem dX8_burn_80 : decode cX8_burn 80 = .ok (.iconst 0, 1) := by decide +kernel
theorem dX8_burn_81 : decode cX8_burn 81 = .ok (.aload_n 0, 1) := by decide +kernel
theorem dX8_burn_82 : decode cX8_burn 82 = .ok (.getfield 21, 3) := by decide +kernel
theorem dX8_burn_85 : decode cX8_burn 85 = .ok (.iload_n 1, 1) := by decide +kernel
theorem dX8_burn_86 : decode cX8_burn 86 = .ok (.iaload, 1) := by decide +kernel
theorem dX8_burn_87 : decode cX8_burn 87 = .ok (.aload_n 0, 1) := by decide +kernel
theorem dX8_burn_88 : decode cX8_burn 88 = .ok (.getfield 58, 3) := by decide +kernel
theorem dX8_burn_91 : decode cX8_burn 91 = .ok (.iconst 3, 1) := by decide +kernel
theorem dX8_burn_92 : decode cX8_burn 92 = .ok (.idiv, 1) := by decide +kernel
theorem dX8_burn_93 : decode cX8_burn 93 = .ok (.isub, 1) := by decide +kernel
theorem dX8_burn_94 : decode cX8_burn 94 = .ok (.invokestatic 73, 3) := by decide +kernel
theorem dX8_burn_97 : decode cX8_burn 97 = .ok (.iastore, 1) := by decide +kernel
theorem dX8_burn_98 : decode cX8_burn 98 = .ok (.iinc 1 1, 3) := by decide +kernel
theorem dX8_burn_101 : decode cX8_burn 101 = .ok (.goto (-99), 3) := by decide +kernel
theorem dX8_burn_104 : decode cX8_burn 104 = .ok (.return_, 1) := by decide +kernel
theorem dX8_fireAt_0 : decode cX8_fireAt 0 = .ok (.iload_n 1, 1) := by decide +kernel
theorem dX8_fireAt_1 : decode cX8_fireAt 1 = .ok (.iload_n 2, 1) := by decide +kernel
theorem dX8_fireAt_2 : decode cX8_fireAt 2 = .ok (.invokestatic 76, 3) := by decide +kernel
theorem dX8_fireAt_5 : decode cX8_fireAt 5 = .ok (.ifCond .eq 17, 3) := by decide +kernel
theorem dX8_fireAt_8 : decode cX8_fireAt 8 = .ok (.aload_n 0, 1) := by decide +kernel
theorem dX8_fireAt_9 : decode cX8_fireAt 9 = .ok (.getfield 21, 3) := by decide +kernel
theorem dX8_fireAt_12 : decode cX8_fireAt 12 = .ok (.iload_n 2, 1) := by decide +kernel
theorem dX8_fireAt_13 : decode cX8_fireAt 13 = .ok (.bipush 8, 2) := by decide +kernel
theorem dX8_fireAt_15 : decode cX8_fireAt 15 = .ok (.imul, 1) := by decide +kernel
theorem dX8_fireAt_16 : decode cX8_fireAt 16 = .ok (.iload_n 1, 1) := by decide +kernel
theorem dX8_fireAt_17 : decode cX8_fireAt 17 = .ok (.iadd, 1) := by decide +kernel
theorem dX8_fireAt_18 : decode cX8_fireAt 18 = .ok (.iaload, 1) := by decide +kernel
theorem dX8_fireAt_19 : decode cX8_fireAt 19 = .ok (.goto 4, 3) := by decide +kernel
theorem dX8_fireAt_22 : decode cX8_fireAt 22 = .ok (.iconst 0, 1) := by decide +kernel
theorem dX8_fireAt_23 : decode cX8_fireAt 23 = .ok (.ireturn, 1) := by decide +kernel
theorem dX8_spread_0 : decode cX8_spread 0 = .ok (.aload_n 0, 1) := by decide +kernel
theorem dX8_spread_1 : decode cX8_spread 1 = .ok (.getfield 21, 3) := by decide +kernel
theorem dX8_spread_4 : decode cX8_spread 4 = .ok (.invokevirtual 43, 3) := by decide +kernel
theorem dX8_spread_7 : decode cX8_spread 7 = .ok (.checkcast 44, 3) := by decide +kernel
theorem dX8_spread_10 : decode cX8_spread 10 = .ok (.astore_n 1, 1) := by decide +kernel
theorem dX8_spread_11 : decode cX8_spread 11 = .ok (.iconst 0, 1) := by decide +kernel
theorem dX8_spread_12 : decode cX8_spread 12 = .ok (.istore_n 2, 1) := by decide +kernel
theorem dX8_spread_13 : decode cX8_spread 13 = .ok (.iload_n 2, 1) := by decide +kernel
theorem dX8_spread_14 : decode cX8_spread 14 = .ok (.bipush 48, 2) := by decide +kernel
theorem dX8_spread_16 : decode cX8_spread 16 = .ok (.if_icmp .ge 157, 3) := by decide +kernel
theorem dX8_spread_19 : decode cX8_spread 19 = .ok (.iload_n 2, 1) := by decide +kernel
theorem dX8_spread_20 : decode cX8_spread 20 = .ok (.bipush 8, 2) := by decide +kernel
theorem dX8_spread_22 : decode cX8_spread 22 = .ok (.irem, 1) := by decide +kernel
theorem dX8_spread_23 : decode cX8_spread 23 = .ok (.istore_n 3, 1) := by decide +kernel
theorem dX8_spread_24 : decode cX8_spread 24 = .ok (.iload_n 2, 1) := by decide +kernel
theorem dX8_spread_25 : decode cX8_spread 25 = .ok (.bipush 8, 2) := by decide +kernel
theorem dX8_spread_27 : decode cX8_spread 27 = .ok (.idiv, 1) := by decide +kernel
theorem dX8_spread_28 : decode cX8_spread 28 = .ok (.istore 4, 2) := by decide +kernel
theorem dX8_spread_30 : decode cX8_spread 30 = .ok (.iconst 0, 1) := by decide +kernel
theorem dX8_spread_31 : decode cX8_spread 31 = .ok (.istore 5, 2) := by decide +kernel
theorem dX8_spread_33 : decode cX8_spread 33 = .ok (.aload_n 0, 1) := by decide +kernel
theorem dX8_spread_34 : decode cX8_spread 34 = .ok (.iload_n 3, 1) := by decide +kernel
theorem dX8_spread_35 : decode cX8_spread 35 = .ok (.iconst 1, 1) := by decide +kernel
theorem dX8_spread_36 : decode cX8_spread 36 = .ok (.isub, 1) := by decide +kernel
theorem dX8_spread_37 : decode cX8_spread 37 = .ok (.iload 4, 2) := by decide +kernel
theorem dX8_spread_39 : decode cX8_spread 39 = .ok (.invokevirtual 80, 3) := by decide +kernel
theorem dX8_spread_42 : decode cX8_spread 42 = .ok (.iconst 5, 1) := by decide +kernel
theorem dX8_spread_43 : decode cX8_spread 43 = .ok (.if_icmp .ge 42, 3) := by decide +kernel
theorem dX8_spread_46 : decode cX8_spread 46 = .ok (.aload_n 0, 1) := by decide +kernel
theorem dX8_spread_47 : decode cX8_spread 47 = .ok (.iload_n 3, 1) := by decide +kernel
theorem dX8_spread_48 : decode cX8_spread 48 = .ok (.iconst 1, 1) := by decide +kernel
theorem dX8_spread_49 : decode cX8_spread 49 = .ok (.iadd, 1) := by decide +kernel
theorem dX8_spread_50 : decode cX8_spread 50 = .ok (.iload 4, 2) := by decide +kernel
theorem dX8_spread_52 : decode cX8_spread 52 = .ok (.invokevirtual 80, 3) := by decide +kernel
theorem dX8_spread_55 : decode cX8_spread 55 = .ok (.iconst 5, 1) := by decide +kernel
theorem dX8_spread_56 : decode cX8_spread 56 = .ok (.if_icmp .ge 29, 3) := by decide +kernel
theorem dX8_spread_59 : decode cX8_spread 59 = .ok (.aload_n 0, 1) := by decide +kernel
theorem dX8_spread_60 : decode cX8_spread 60 = .ok (.iload_n 3, 1) := by decide +kernel
theorem dX8_spread_61 : decode cX8_spread 61 = .ok (.iload 4, 2) := by decide +kernel
theorem dX8_spread_63 : decode cX8_spread 63 = .ok (.iconst 1, 1) := by decide +kernel
theorem dX8_spread_64 : decode cX8_spread 64 = .ok (.isub, 1) := by decide +kernel
theorem dX8_spread_65 : decode cX8_spread 65 = .ok (.invokevirtual 80, 3) := by decide +kernel
theorem dX8_spread_68 : decode cX8_spread 68 = .ok (.iconst 5, 1) := by decide +kernel
theorem dX8_spread_69 : decode cX8_spread 69 = .ok (.if_icmp .ge 16, 3) := by decide +kernel
theorem dX8_spread_72 : decode cX8_spread 72 = .ok (.aload_n 0, 1) := by decide +kernel
theorem dX8_spread_73 : decode cX8_spread 73 = .ok (.iload_n 3, 1) := by decide +kernel
theorem dX8_spread_74 : decode cX8_spread 74 = .ok (.iload 4, 2) := by decide +kernel
theorem dX8_spread_76 : decode cX8_spread 76 = .ok (.iconst 1, 1) := by decide +kernel
theorem dX8_spread_77 : decode cX8_spread 77 = .ok (.iadd, 1) := by decide +kernel
theorem dX8_spread_78 : decode cX8_spread 78 = .ok (.invokevirtual 80, 3) := by decide +kernel
theorem dX8_spread_81 : decode cX8_spread 81 = .ok (.iconst 5, 1) := by decide +kernel
theorem dX8_spread_82 : decode cX8_spread 82 = .ok (.if_icmp .lt 6, 3) := by decide +kernel
theorem dX8_spread_85 : decode cX8_spread 85 = .ok (.iconst 1, 1) := by decide +kernel
theorem dX8_spread_86 : decode cX8_spread 86 = .ok (.istore 5, 2) := by decide +kernel
theorem dX8_spread_88 : decode cX8_spread 88 = .ok (.aload_n 0, 1) := by decide +kernel
theorem dX8_spread_89 : decode cX8_spread 89 = .ok (.getfield 48, 3) := by decide +kernel
theorem dX8_spread_92 : decode cX8_spread 92 = .ok (.ifCond .ne 10, 3) := by decide +kernel
theorem dX8_spread_95 : decode cX8_spread 95 = .ok (.aload_n 0, 1) := by decide +kernel
theorem dX8_spread_96 : decode cX8_spread 96 = .ok (.getfield 52, 3) := by decide +kernel
theorem dX8_spread_99 : decode cX8_spread 99 = .ok (.ifCond .eq 39, 3) := by decide +kernel
theorem dX8_spread_102 : decode cX8_spread 102 = .ok (.aload_n 0, 1) := by decide +kernel
theorem dX8_spread_103 : decode cX8_spread 103 = .ok (.getfield 55, 3) := by decide +kernel
theorem dX8_spread_106 : decode cX8_spread 106 = .ok (.ifCond .le 32, 3) := by decide +kernel
theorem dX8_spread_109 : decode cX8_spread 109 = .ok (.aload_n 0, 1) := by decide +kernel
theorem dX8_spread_110 : decode cX8_spread 110 = .ok (.iload_n 3, 1) := by decide +kernel
theorem dX8_spread_111 : decode cX8_spread 111 = .ok (.aload_n 0, 1) := by decide +kernel
theorem dX8_spread_112 : decode cX8_spread 112 = .ok (.getfield 48, 3) := by decide +kernel
theorem dX8_spread_115 : decode cX8_spread 115 = .ok (.isub, 1) := by decide +kernel
theorem dX8_spread_116 : decode cX8_spread 116 = .ok (.iload 4, 2) := by decide +kernel
theorem dX8_spread_118 : decode cX8_spread 118 = .ok (.aload_n 0, 1) := by decide +kernel
theorem dX8_spread_119 : decode cX8_spread 119 = .ok (.getfield 52, 3) := by decide +kernel
theorem dX8_spread_122 : decode cX8_spread 122 = .ok (.isub, 1) := by decide +kernel
theorem dX8_spread_123 : decode cX8_spread 123 = .ok (.invokevirtual 80, 3) := by decide +kernel
theorem dX8_spread_126 : decode cX8_spread 126 = .ok (.iconst 3, 1) := by decide +kernel
theorem dX8_spread_127 : decode cX8_spread 127 = .ok (.if_icmp .lt 11, 3) := by decide +kernel
theorem dX8_spread_130 : decode cX8_spread 130 = .ok (.iconst 1, 1) := by decide +kernel
theorem dX8_spread_131 : decode cX8_spread 131 = .ok (.aload_n 0, 1) := by decide +kernel
theorem dX8_spread_132 : decode cX8_spread 132 = .ok (.getfield 55, 3) := by decide +kernel
theorem dX8_spread_135 : decode cX8_spread 135 = .ok (.iadd, 1) := by decide +kernel
theorem dX8_spread_136 : decode cX8_spread 136 = .ok (.istore 5, 2) := by decide +kernel
theorem dX8_spread_138 : decode cX8_spread 138 = .ok (.aload_n 0, 1) := by decide +kernel
theorem dX8_spread_139 : decode cX8_spread 139 = .ok (.getfield 9, 3) := by decide +kernel
theorem dX8_spread_142 : decode cX8_spread 142 = .ok (.iload_n 2, 1) := by decide +kernel
theorem dX8_spread_143 : decode cX8_spread 143 = .ok (.iaload, 1) := by decide +kernel
theorem dX8_spread_144 : decode cX8_spread 144 = .ok (.ifCond .le 23, 3) := by decide +kernel
theorem dX8_spread_147 : decode cX8_spread 147 = .ok (.aload_n 0, 1) := by decide +kernel
theorem dX8_spread_148 : decode cX8_spread 148 = .ok (.getfield 27, 3) := by decide +kernel
theorem dX8_spread_151 : decode cX8_spread 151 = .ok (.iload_n 2, 1) := by decide +kernel
theorem dX8_spread_152 : decode cX8_spread 152 = .ok (.baload, 1) := by decide +kernel
theorem dX8_spread_153 : decode cX8_spread 153 = .ok (.ifCond .ne 14, 3) := by decide +kernel
theorem dX8_spread_156 : decode cX8_spread 156 = .ok (.aload_n 1, 1) := by decide +kernel
theorem dX8_spread_157 : decode cX8_spread 157 = .ok (.iload_n 2, 1) := by decide +kernel
theorem dX8_spread_158 : decode cX8_spread 158 = .ok (.aload_n 1, 1) := by decide +kernel
theorem dX8_spread_159 : decode cX8_spread 159 = .ok (.iload_n 2, 1) := by decide +kernel
theorem dX8_spread_160 : decode cX8_spread 160 = .ok (.iaload, 1) := by decide +kernel
theorem dX8_spread_161 : decode cX8_spread 161 = .ok (.iload 5, 2) := by decide +kernel
theorem dX8_spread_163 : decode cX8_spread 163 = .ok (.invokestatic 73, 3) := by decide +kernel
theorem dX8_spread_166 : decode cX8_spread 166 = .ok (.iastore, 1) := by decide +kernel
theorem dX8_spread_167 : decode cX8_spread 167 = .ok (.iinc 2 1, 3) := by decide +kernel
theorem dX8_spread_170 : decode cX8_spread 170 = .ok (.goto (-157), 3) := by decide +kernel
theorem dX8_spread_173 : decode cX8_spread 173 = .ok (.aload_n 0, 1) := by decide +kernel
theorem dX8_spread_174 : decode cX8_spread 174 = .ok (.aload_n 1, 1) := by decide +kernel
theorem dX8_spread_175 : decode cX8_spread 175 = .ok (.putfield 21, 3) := by decide +kernel
theorem dX8_spread_178 : decode cX8_spread 178 = .ok (.return_, 1) := by decide +kernel
theorem dX8_carry_0 : decode cX8_carry 0 = .ok (.bipush 48, 2) := by decide +kernel
theorem dX8_carry_2 : decode cX8_carry 2 = .ok (.newarray .int, 2) := by decide +kernel
theorem dX8_carry_4 : decode cX8_carry 4 = .ok (.astore_n 1, 1) := by decide +kernel
theorem dX8_carry_5 : decode cX8_carry 5 = .ok (.iconst 0, 1) := by decide +kernel
theorem dX8_carry_6 : decode cX8_carry 6 = .ok (.istore_n 2, 1) := by decide +kernel
theorem dX8_carry_7 : decode cX8_carry 7 = .ok (.iload_n 2, 1) := by decide +kernel
theorem dX8_carry_8 : decode cX8_carry 8 = .ok (.bipush 48, 2) := by decide +kernel
theorem dX8_carry_10 : decode cX8_carry 10 = .ok (.if_icmp .ge 92, 3) := by decide +kernel
theorem dX8_carry_13 : decode cX8_carry 13 = .ok (.aload_n 0, 1) := by decide +kernel
theorem dX8_carry_14 : decode cX8_carry 14 = .ok (.getfield 24, 3) := by decide +kernel
theorem dX8_carry_17 : decode cX8_carry 17 = .ok (.iload_n 2, 1) := by decide +kernel
theorem dX8_carry_18 : decode cX8_carry 18 = .ok (.iaload, 1) := by decide +kernel
theorem dX8_carry_19 : decode cX8_carry 19 = .ok (.iconst 4, 1) := by decide +kernel
theorem dX8_carry_20 : decode cX8_carry 20 = .ok (.idiv, 1) := by decide +kernel
theorem dX8_carry_21 : decode cX8_carry 21 = .ok (.istore_n 3, 1) := by decide +kernel
theorem dX8_carry_22 : decode cX8_carry 22 = .ok (.iload_n 2, 1) := by decide +kernel
theorem dX8_carry_23 : decode cX8_carry 23 = .ok (.bipush 8, 2) := by decide +kernel
theorem dX8_carry_25 : decode cX8_carry 25 = .ok (.irem, 1) := by decide +kernel
theorem dX8_carry_26 : decode cX8_carry 26 = .ok (.aload_n 0, 1) := by decide +kernel
theorem dX8_carry_27 : decode cX8_carry 27 = .ok (.getfield 48, 3) := by decide +kernel
theorem dX8_carry_30 : decode cX8_carry 30 = .ok (.iadd, 1) := by decide +kernel
theorem dX8_carry_31 : decode cX8_carry 31 = .ok (.istore 4, 2) := by decide +kernel
theorem dX8_carry_33 : decode cX8_carry 33 = .ok (.iload_n 2, 1) := by decide +kernel
theorem dX8_carry_34 : decode cX8_carry 34 = .ok (.bipush 8, 2) := by decide +kernel
theorem dX8_carry_36 : decode cX8_carry 36 = .ok (.idiv, 1) := by decide +kernel
theorem dX8_carry_37 : decode cX8_carry 37 = .ok (.aload_n 0, 1) := by decide +kernel
theorem dX8_carry_38 : decode cX8_carry 38 = .ok (.getfield 52, 3) := by decide +kernel
theorem dX8_carry_41 : decode cX8_carry 41 = .ok (.iadd, 1) := by decide +kernel
theorem dX8_carry_42 : decode cX8_carry 42 = .ok (.istore 5, 2) := by decide +kernel
theorem dX8_carry_44 : decode cX8_carry 44 = .ok (.aload_n 1, 1) := by decide +kernel
theorem dX8_carry_45 : decode cX8_carry 45 = .ok (.iload_n 2, 1) := by decide +kernel
theorem dX8_carry_46 : decode cX8_carry 46 = .ok (.dup2, 1) := by decide +kernel
theorem dX8_carry_47 : decode cX8_carry 47 = .ok (.iaload, 1) := by decide +kernel
theorem dX8_carry_48 : decode cX8_carry 48 = .ok (.aload_n 0, 1) := by decide +kernel
theorem dX8_carry_49 : decode cX8_carry 49 = .ok (.getfield 24, 3) := by decide +kernel
theorem dX8_carry_52 : decode cX8_carry 52 = .ok (.iload_n 2, 1) := by decide +kernel
theorem dX8_carry_53 : decode cX8_carry 53 = .ok (.iaload, 1) := by decide +kernel
theorem dX8_carry_54 : decode cX8_carry 54 = .ok (.iload_n 3, 1) := by decide +kernel
theorem dX8_carry_55 : decode cX8_carry 55 = .ok (.isub, 1) := by decide +kernel
theorem dX8_carry_56 : decode cX8_carry 56 = .ok (.iadd, 1) := by decide +kernel
theorem dX8_carry_57 : decode cX8_carry 57 = .ok (.iastore, 1) := by decide +kernel
theorem dX8_carry_58 : decode cX8_carry 58 = .ok (.iload 4, 2) := by decide +kernel
theorem dX8_carry_60 : decode cX8_carry 60 = .ok (.iload 5, 2) := by decide +kernel
theorem dX8_carry_62 : decode cX8_carry 62 = .ok (.invokestatic 76, 3) := by decide +kernel
theorem dX8_carry_65 : decode cX8_carry 65 = .ok (.ifCond .eq 20, 3) := by decide +kernel
theorem dX8_carry_68 : decode cX8_carry 68 = .ok (.aload_n 1, 1) := by decide +kernel
theorem dX8_carry_69 : decode cX8_carry 69 = .ok (.iload 5, 2) := by decide +kernel
theorem dX8_carry_71 : decode cX8_carry 71 = .ok (.bipush 8, 2) := by decide +kernel
theorem dX8_carry_73 : decode cX8_carry 73 = .ok (.imul, 1) := by decide +kernel
theorem dX8_carry_74 : decode cX8_carry 74 = .ok (.iload 4, 2) := by decide +kernel
theorem dX8_carry_76 : decode cX8_carry 76 = .ok (.iadd, 1) := by decide +kernel
theorem dX8_carry_77 : decode cX8_carry 77 = .ok (.dup2, 1) := by decide +kernel
theorem dX8_carry_78 : decode cX8_carry 78 = .ok (.iaload, 1) := by decide +kernel
theorem dX8_carry_79 : decode cX8_carry 79 = .ok (.iload_n 3, 1) := by decide +kernel
theorem dX8_carry_80 : decode cX8_carry 80 = .ok (.iadd, 1) := by decide +kernel
theorem dX8_carry_81 : decode cX8_carry 81 = .ok (.iastore, 1) := by decide +kernel
theorem dX8_carry_82 : decode cX8_carry 82 = .ok (.goto 14, 3) := by decide +kernel
theorem dX8_carry_85 : decode cX8_carry 85 = .ok (.aload_n 0, 1) := by decide +kernel
theorem dX8_carry_86 : decode cX8_carry 86 = .ok (.dup, 1) := by decide +kernel
theorem dX8_carry_87 : decode cX8_carry 87 = .ok (.getfield 83, 3) := by decide +kernel
theorem dX8_carry_90 : decode cX8_carry 90 = .ok (.iload_n 3, 1) := by decide +kernel
theorem dX8_carry_91 : decode cX8_carry 91 = .ok (.i2l, 1) := by decide +kernel
theorem dX8_carry_92 : decode cX8_carry 92 = .ok (.ladd, 1) := by decide +kernel
theorem dX8_carry_93 : decode cX8_carry 93 = .ok (.putfield 83, 3) := by decide +kernel
theorem dX8_carry_96 : decode cX8_carry 96 = .ok (.iinc 2 1, 3) := by decide +kernel
theorem dX8_carry_99 : decode cX8_carry 99 = .ok (.goto (-92), 3) := by decide +kernel
theorem dX8_carry_102 : decode cX8_carry 102 = .ok (.aload_n 0, 1) := by decide +kernel
theorem dX8_carry_103 : decode cX8_carry 103 = .ok (.aload_n 1, 1) := by decide +kernel
theorem dX8_carry_104 : decode cX8_carry 104 = .ok (.putfield 24, 3) := by decide +kernel
theorem dX8_carry_107 : decode cX8_carry 107 = .ok (.return_, 1) := by decide +kernel
theorem dX8_settle_0 : decode cX8_settle 0 = .ok (.iconst 0, 1) := by decide +kernel
theorem dX8_settle_1 : decode cX8_settle 1 = .ok (.istore_n 1, 1) := by decide +kernel
theorem dX8_settle_2 : decode cX8_settle 2 = .ok (.iload_n 1, 1) := by decide +kernel
theorem dX8_settle_3 : decode cX8_settle 3 = .ok (.bipush 48, 2) := by decide +kernel
theorem dX8_settle_5 : decode cX8_settle 5 = .ok (.if_icmp .ge 47, 3) := by decide +kernel
theorem dX8_settle_8 : decode cX8_settle 8 = .ok (.aload_n 0, 1) := by decide +kernel
theorem dX8_settle_9 : decode cX8_settle 9 = .ok (.getfield 24, 3) := by decide +kernel
theorem dX8_settle_12 : decode cX8_settle 12 = .ok (.iload_n 1, 1) := by decide +kernel
theorem dX8_settle_13 : decode cX8_settle 13 = .ok (.iaload, 1) := by decide +kernel
theorem dX8_settle_14 : decode cX8_settle 14 = .ok (.iconst 1, 1) := by decide +kernel
theorem dX8_settle_15 : decode cX8_settle 15 = .ok (.aload_n 0, 1) := by decide +kernel
theorem dX8_settle_16 : decode cX8_settle 16 = .ok (.getfield 58, 3) := by decide +kernel
theorem dX8_settle_19 : decode cX8_settle 19 = .ok (.iadd, 1) := by decide +kernel
theorem dX8_settle_20 : decode cX8_settle 20 = .ok (.imul, 1) := by decide +kernel
theorem dX8_settle_21 : decode cX8_settle 21 = .ok (.bipush 20, 2) := by decide +kernel
theorem dX8_settle_23 : decode cX8_settle 23 = .ok (.idiv, 1) := by decide +kernel
theorem dX8_settle_24 : decode cX8_settle 24 = .ok (.istore_n 2, 1) := by decide +kernel
theorem dX8_settle_25 : decode cX8_settle 25 = .ok (.aload_n 0, 1) := by decide +kernel
theorem dX8_settle_26 : decode cX8_settle 26 = .ok (.getfield 24, 3) := by decide +kernel
theorem dX8_settle_29 : decode cX8_settle 29 = .ok (.iload_n 1, 1) := by decide +kernel
theorem dX8_settle_30 : decode cX8_settle 30 = .ok (.dup2, 1) := by decide +kernel
theorem dX8_settle_31 : decode cX8_settle 31 = .ok (.iaload, 1) := by decide +kernel
theorem dX8_settle_32 : decode cX8_settle 32 = .ok (.iload_n 2, 1) := by decide +kernel
theorem dX8_settle_33 : decode cX8_settle 33 = .ok (.isub, 1) := by decide +kernel
theorem dX8_settle_34 : decode cX8_settle 34 = .ok (.iastore, 1) := by decide +kernel
theorem dX8_settle_35 : decode cX8_settle 35 = .ok (.aload_n 0, 1) := by decide +kernel
theorem dX8_settle_36 : decode cX8_settle 36 = .ok (.dup, 1) := by decide +kernel
theorem dX8_settle_37 : decode cX8_settle 37 = .ok (.getfield 86, 3) := by decide +kernel
theorem dX8_settle_40 : decode cX8_settle 40 = .ok (.iload_n 2, 1) := by decide +kernel
theorem dX8_settle_41 : decode cX8_settle 41 = .ok (.i2l, 1) := by decide +kernel
theorem dX8_settle_42 : decode cX8_settle 42 = .ok (.ladd, 1) := by decide +kernel
theorem dX8_settle_43 : decode cX8_settle 43 = .ok (.putfield 86, 3) := by decide +kernel
theorem dX8_settle_46 : decode cX8_settle 46 = .ok (.iinc 1 1, 3) := by decide +kernel
theorem dX8_settle_49 : decode cX8_settle 49 = .ok (.goto (-47), 3) := by decide +kernel
theorem dX8_settle_52 : decode cX8_settle 52 = .ok (.return_, 1) := by decide +kernel
theorem dX8_hour_0 : decode cX8_hour 0 = .ok (.aload_n 0, 1) := by decide +kernel
theorem dX8_hour_1 : decode cX8_hour 1 = .ok (.invokevirtual 89, 3) := by decide +kernel
theorem dX8_hour_4 : decode cX8_hour 4 = .ok (.aload_n 0, 1) := by decide +kernel
theorem dX8_hour_5 : decode cX8_hour 5 = .ok (.invokevirtual 92, 3) := by decide +kernel
theorem dX8_hour_8 : decode cX8_hour 8 = .ok (.aload_n 0, 1) := by decide +kernel
theorem dX8_hour_9 : decode cX8_hour 9 = .ok (.invokevirtual 95, 3) := by decide +kernel
theorem dX8_hour_12 : decode cX8_hour 12 = .ok (.iconst 0, 1) := by decide +kernel
theorem dX8_hour_13 : decode cX8_hour 13 = .ok (.istore_n 1, 1) := by decide +kernel
theorem dX8_hour_14 : decode cX8_hour 14 = .ok (.iload_n 1, 1) := by decide +kernel
theorem dX8_hour_15 : decode cX8_hour 15 = .ok (.aload_n 0, 1) := by decide +kernel
theorem dX8_hour_16 : decode cX8_hour 16 = .ok (.getfield 55, 3) := by decide +kernel
theorem dX8_hour_19 : decode cX8_hour 19 = .ok (.if_icmp .ge 13, 3) := by decide +kernel
theorem dX8_hour_22 : decode cX8_hour 22 = .ok (.aload_n 0, 1) := by decide +kernel
theorem dX8_hour_23 : decode cX8_hour 23 = .ok (.invokevirtual 98, 3) := by decide +kernel
theorem dX8_hour_26 : decode cX8_hour 26 = .ok (.iinc 1 1, 3) := by decide +kernel
theorem dX8_hour_29 : decode cX8_hour 29 = .ok (.goto (-15), 3) := by decide +kernel
theorem dX8_hour_32 : decode cX8_hour 32 = .ok (.aload_n 0, 1) := by decide +kernel
theorem dX8_hour_33 : decode cX8_hour 33 = .ok (.invokevirtual 101, 3) := by decide +kernel
theorem dX8_hour_36 : decode cX8_hour 36 = .ok (.return_, 1) := by decide +kernel
theorem dX9_init_0 : decode cX9_init 0 = .ok (.aload_n 0, 1) := by decide +kernel
theorem dX9_init_1 : decode cX9_init 1 = .ok (.invokespecial 1, 3) := by decide +kernel
theorem dX9_init_4 : decode cX9_init 4 = .ok (.aload_n 0, 1) := by decide +kernel
theorem dX9_init_5 : decode cX9_init 5 = .ok (.iload_n 1, 1) := by decide +kernel
theorem dX9_init_6 : decode cX9_init 6 = .ok (.putfield 7, 3) := by decide +kernel
theorem dX9_init_9 : decode cX9_init 9 = .ok (.aload_n 0, 1) := by decide +kernel
theorem dX9_init_10 : decode cX9_init 10 = .ok (.iload_n 2, 1) := by decide +kernel
theorem dX9_init_11 : decode cX9_init 11 = .ok (.putfield 13, 3) := by decide +kernel
theorem dX9_init_14 : decode cX9_init 14 = .ok (.return_, 1) := by decide +kernel
theorem dX10_init_0 : decode cX10_init 0 = .ok (.aload_n 0, 1) := by decide +kernel
theorem dX10_init_1 : decode cX10_init 1 = .ok (.invokespecial 1, 3) := by decide +kernel
theorem dX10_init_4 : decode cX10_init 4 = .ok (.aload_n 0, 1) := by decide +kernel
theorem dX10_init_5 : decode cX10_init 5 = .ok (.bipush 50, 2) := by decide +kernel
theorem dX10_init_7 : decode cX10_init 7 = .ok (.putfield 7, 3) := by decide +kernel
theorem dX10_init_10 : decode cX10_init 10 = .ok (.aload_n 0, 1) := by decide +kernel
theorem dX10_init_11 : decode cX10_init 11 = .ok (.iconst (-1), 1) := by decide +kernel
theorem dX10_init_12 : decode cX10_init 12 = .ok (.putfield 13, 3) := by decide +kernel
theorem dX10_init_15 : decode cX10_init 15 = .ok (.aload_n 0, 1) := by decide +kernel
theorem dX10_init_16 : decode cX10_init 16 = .ok (.iload_n 1, 1) := by decide +kernel
theorem dX10_init_17 : decode cX10_init 17 = .ok (.putfield 16, 3) := by decide +kernel
theorem dX10_init_20 : decode cX10_init 20 = .ok (.aload_n 0, 1) := by decide +kernel
theorem dX10_init_21 : decode cX10_init 21 = .ok (.iload_n 2, 1) := by decide +kernel
theorem dX10_init_22 : decode cX10_init 22 = .ok (.putfield 19, 3) := by decide +kernel
theorem dX10_init_25 : decode cX10_init 25 = .ok (.return_, 1) := by decide +kernel
theorem dX10_hasRead_0 : decode cX10_hasRead 0 = .ok (.aload_n 0, 1) := by decide +kernel
theorem dX10_hasRead_1 : decode cX10_hasRead 1 = .ok (.getfield 13, 3) := by decide +kernel
theorem dX10_hasRead_4 : decode cX10_hasRead 4 = .ok (.ifCond .lt 7, 3) := by decide +kernel
theorem dX10_hasRead_7 : decode cX10_hasRead 7 = .ok (.iconst 1, 1) := by decide +kernel
theorem dX10_hasRead_8 : decode cX10_hasRead 8 = .ok (.goto 4, 3) := by decide +kernel
theorem dX10_hasRead_11 : decode cX10_hasRead 11 = .ok (.iconst 0, 1) := by decide +kernel
theorem dX10_hasRead_12 : decode cX10_hasRead 12 = .ok (.ireturn, 1) := by decide +kernel
theorem dX11_init_0 : decode cX11_init 0 = .ok (.aload_n 0, 1) := by decide +kernel
theorem dX11_init_1 : decode cX11_init 1 = .ok (.invokespecial 1, 3) := by decide +kernel
theorem dX11_init_4 : decode cX11_init 4 = .ok (.aload_n 0, 1) := by decide +kernel
theorem dX11_init_5 : decode cX11_init 5 = .ok (.iload_n 1, 1) := by decide +kernel
theorem dX11_init_6 : decode cX11_init 6 = .ok (.putfield 7, 3) := by decide +kernel
theorem dX11_init_9 : decode cX11_init 9 = .ok (.aload_n 0, 1) := by decide +kernel
theorem dX11_init_10 : decode cX11_init 10 = .ok (.iload_n 2, 1) := by decide +kernel
theorem dX11_init_11 : decode cX11_init 11 = .ok (.putfield 13, 3) := by decide +kernel
theorem dX11_init_14 : decode cX11_init 14 = .ok (.aload_n 0, 1) := by decide +kernel
theorem dX11_init_15 : decode cX11_init 15 = .ok (.iload_n 3, 1) := by decide +kernel
theorem dX11_init_16 : decode cX11_init 16 = .ok (.putfield 16, 3) := by decide +kernel
theorem dX11_init_19 : decode cX11_init 19 = .ok (.aload_n 0, 1) := by decide +kernel
theorem dX11_init_20 : decode cX11_init 20 = .ok (.iload 4, 2) := by decide +kernel
theorem dX11_init_22 : decode cX11_init 22 = .ok (.putfield 19, 3) := by decide +kernel
theorem dX11_init_25 : decode cX11_init 25 = .ok (.return_, 1) := by decide +kernel
theorem dX11_has_0 : decode cX11_has 0 = .ok (.aload_n 0, 1) := by decide +kernel
theorem dX11_has_1 : decode cX11_has 1 = .ok (.getfield 16, 3) := by decide +kernel
theorem dX11_has_4 : decode cX11_has 4 = .ok (.aload_n 0, 1) := by decide +kernel
theorem dX11_has_5 : decode cX11_has 5 = .ok (.getfield 19, 3) := by decide +kernel
theorem dX11_has_8 : decode cX11_has 8 = .ok (.if_icmp .gt 18, 3) := by decide +kernel
theorem dX11_has_11 : decode cX11_has 11 = .ok (.iload_n 1, 1) := by decide +kernel
theorem dX11_has_12 : decode cX11_has 12 = .ok (.aload_n 0, 1) := by decide +kernel
theorem dX11_has_13 : decode cX11_has 13 = .ok (.getfield 16, 3) := by decide +kernel
theorem dX11_has_16 : decode cX11_has 16 = .ok (.aload_n 0, 1) := by decide +kernel
theorem dX11_has_17 : decode cX11_has 17 = .ok (.getfield 19, 3) := by decide +kernel
theorem dX11_has_20 : decode cX11_has 20 = .ok (.invokestatic 22, 3) := by decide +kernel
theorem dX11_has_23 : decode cX11_has 23 = .ok (.goto 24, 3) := by decide +kernel
theorem dX11_has_26 : decode cX11_has 26 = .ok (.iload_n 1, 1) := by decide +kernel
theorem dX11_has_27 : decode cX11_has 27 = .ok (.aload_n 0, 1) := by decide +kernel
theorem dX11_has_28 : decode cX11_has 28 = .ok (.getfield 16, 3) := by decide +kernel
theorem dX11_has_31 : decode cX11_has 31 = .ok (.if_icmp .ge 11, 3) := by decide +kernel
theorem dX11_has_34 : decode cX11_has 34 = .ok (.iload_n 1, 1) := by decide +kernel
theorem dX11_has_35 : decode cX11_has 35 = .ok (.aload_n 0, 1) := by decide +kernel
theorem dX11_has_36 : decode cX11_has 36 = .ok (.getfield 19, 3) := by decide +kernel
theorem dX11_has_39 : decode cX11_has 39 = .ok (.if_icmp .gt 7, 3) := by decide +kernel
theorem dX11_has_42 : decode cX11_has 42 = .ok (.iconst 1, 1) := by decide +kernel
theorem dX11_has_43 : decode cX11_has 43 = .ok (.goto 4, 3) := by decide +kernel
theorem dX11_has_46 : decode cX11_has 46 = .ok (.iconst 0, 1) := by decide +kernel
theorem dX11_has_47 : decode cX11_has 47 = .ok (.ireturn, 1) := by decide +kernel
theorem dX12_init_0 : decode cX12_init 0 = .ok (.aload_n 0, 1) := by decide +kernel
theorem dX12_init_1 : decode cX12_init 1 = .ok (.invokespecial 1, 3) := by decide +kernel
theorem dX12_init_4 : decode cX12_init 4 = .ok (.aload_n 0, 1) := by decide +kernel
theorem dX12_init_5 : decode cX12_init 5 = .ok (.new 7, 3) := by decide +kernel
theorem dX12_init_8 : decode cX12_init 8 = .ok (.dup, 1) := by decide +kernel
theorem dX12_init_9 : decode cX12_init 9 = .ok (.invokespecial 9, 3) := by decide +kernel
theorem dX12_init_12 : decode cX12_init 12 = .ok (.putfield 10, 3) := by decide +kernel
theorem dX12_init_15 : decode cX12_init 15 = .ok (.aload_n 0, 1) := by decide +kernel
theorem dX12_init_16 : decode cX12_init 16 = .ok (.new 16, 3) := by decide +kernel
theorem dX12_init_19 : decode cX12_init 19 = .ok (.dup, 1) := by decide +kernel
theorem dX12_init_20 : decode cX12_init 20 = .ok (.invokespecial 18, 3) := by decide +kernel
theorem dX12_init_23 : decode cX12_init 23 = .ok (.putfield 19, 3) := by decide +kernel
theorem dX12_init_26 : decode cX12_init 26 = .ok (.aload_n 0, 1) := by decide +kernel
theorem dX12_init_27 : decode cX12_init 27 = .ok (.new 16, 3) := by decide +kernel
theorem dX12_init_30 : decode cX12_init 30 = .ok (.dup, 1) := by decide +kernel
theorem dX12_init_31 : decode cX12_init 31 = .ok (.invokespecial 18, 3) := by decide +kernel
theorem dX12_init_34 : decode cX12_init 34 = .ok (.putfield 23, 3) := by decide +kernel
theorem dX12_init_37 : decode cX12_init 37 = .ok (.aload_n 0, 1) := by decide +kernel
theorem dX12_init_38 : decode cX12_init 38 = .ok (.new 16, 3) := by decide +kernel
theorem dX12_init_41 : decode cX12_init 41 = .ok (.dup, 1) := by decide +kernel
theorem dX12_init_42 : decode cX12_init 42 = .ok (.invokespecial 18, 3) := by decide +kernel
theorem dX12_init_45 : decode cX12_init 45 = .ok (.putfield 26, 3) := by decide +kernel
theorem dX12_init_48 : decode cX12_init 48 = .ok (.aload_n 0, 1) := by decide +kernel
theorem dX12_init_49 : decode cX12_init 49 = .ok (.new 16, 3) := by decide +kernel
theorem dX12_init_52 : decode cX12_init 52 = .ok (.dup, 1) := by decide +kernel
theorem dX12_init_53 : decode cX12_init 53 = .ok (.invokespecial 18, 3) := by decide +kernel
theorem dX12_init_56 : decode cX12_init 56 = .ok (.putfield 29, 3) := by decide +kernel
theorem dX12_init_59 : decode cX12_init 59 = .ok (.return_, 1) := by decide +kernel
theorem dX12_thrown_0 : decode cX12_thrown 0 = .ok (.aload_n 0, 1) := by decide +kernel
theorem dX12_thrown_1 : decode cX12_thrown 1 = .ok (.getfield 32, 3) := by decide +kernel
theorem dX12_thrown_4 : decode cX12_thrown 4 = .ok (.ireturn, 1) := by decide +kernel
theorem dX12_isWrong_0 : decode cX12_isWrong 0 = .ok (.aload_n 0, 1) := by decide +kernel
theorem dX12_isWrong_1 : decode cX12_isWrong 1 = .ok (.iload_n 1, 1) := by decide +kernel
theorem dX12_isWrong_2 : decode cX12_isWrong 2 = .ok (.putfield 32, 3) := by decide +kernel
theorem dX12_isWrong_5 : decode cX12_isWrong 5 = .ok (.iload_n 1, 1) := by decide +kernel
theorem dX12_isWrong_6 : decode cX12_isWrong 6 = .ok (.ifCond .le 7, 3) := by decide +kernel
theorem dX12_isWrong_9 : decode cX12_isWrong 9 = .ok (.iconst 1, 1) := by decide +kernel
theorem dX12_isWrong_10 : decode cX12_isWrong 10 = .ok (.goto 4, 3) := by decide +kernel
theorem dX12_isWrong_13 : decode cX12_isWrong 13 = .ok (.iconst 0, 1) := by decide +kernel
theorem dX12_isWrong_14 : decode cX12_isWrong 14 = .ok (.ireturn, 1) := by decide +kernel
theorem dX12_isBetween_0 : decode cX12_isBetween 0 = .ok (.iload_n 1, 1) := by decide +kernel
theorem dX12_isBetween_1 : decode cX12_isBetween 1 = .ok (.iload_n 0, 1) := by decide +kernel
theorem dX12_isBetween_2 : decode cX12_isBetween 2 = .ok (.if_icmp .gt 12, 3) := by decide +kernel
theorem dX12_isBetween_5 : decode cX12_isBetween 5 = .ok (.iload_n 0, 1) := by decide +kernel
theorem dX12_isBetween_6 : decode cX12_isBetween 6 = .ok (.iload_n 2, 1) := by decide +kernel
theorem dX12_isBetween_7 : decode cX12_isBetween 7 = .ok (.if_icmp .gt 7, 3) := by decide +kernel
theorem dX12_isBetween_10 : decode cX12_isBetween 10 = .ok (.iconst 1, 1) := by decide +kernel
theorem dX12_isBetween_11 : decode cX12_isBetween 11 = .ok (.goto 4, 3) := by decide +kernel
theorem dX12_isBetween_14 : decode cX12_isBetween 14 = .ok (.iconst 0, 1) := by decide +kernel
theorem dX12_isBetween_15 : decode cX12_isBetween 15 = .ok (.ireturn, 1) := by decide +kernel
theorem dX12_isCell_0 : decode cX12_isCell 0 = .ok (.iload_n 0, 1) := by decide +kernel
theorem dX12_isCell_1 : decode cX12_isCell 1 = .ok (.iconst 0, 1) := by decide +kernel
theorem dX12_isCell_2 : decode cX12_isCell 2 = .ok (.bipush 7, 2) := by decide +kernel
theorem dX12_isCell_4 : decode cX12_isCell 4 = .ok (.invokestatic 36, 3) := by decide +kernel
theorem dX12_isCell_7 : decode cX12_isCell 7 = .ok (.ifCond .eq 16, 3) := by decide +kernel
theorem dX12_isCell_10 : decode cX12_isCell 10 = .ok (.iload_n 1, 1) := by decide +kernel
theorem dX12_isCell_11 : decode cX12_isCell 11 = .ok (.iconst 0, 1) := by decide +kernel
theorem dX12_isCell_12 : decode cX12_isCell 12 = .ok (.iconst 5, 1) := by decide +kernel
theorem dX12_isCell_13 : decode cX12_isCell 13 = .ok (.invokestatic 36, 3) := by decide +kernel
theorem dX12_isCell_16 : decode cX12_isCell 16 = .ok (.ifCond .eq 7, 3) := by decide +kernel
theorem dX12_isCell_19 : decode cX12_isCell 19 = .ok (.iconst 1, 1) := by decide +kernel
theorem dX12_isCell_20 : decode cX12_isCell 20 = .ok (.goto 4, 3) := by decide +kernel
theorem dX12_isCell_23 : decode cX12_isCell 23 = .ok (.iconst 0, 1) := by decide +kernel
theorem dX12_isCell_24 : decode cX12_isCell 24 = .ok (.ireturn, 1) := by decide +kernel
theorem dX12_isCrew_0 : decode cX12_isCrew 0 = .ok (.iload_n 0, 1) := by decide +kernel
theorem dX12_isCrew_1 : decode cX12_isCrew 1 = .ok (.iconst 0, 1) := by decide +kernel
theorem dX12_isCrew_2 : decode cX12_isCrew 2 = .ok (.iconst 2, 1) := by decide +kernel
theorem dX12_isCrew_3 : decode cX12_isCrew 3 = .ok (.invokestatic 36, 3) := by decide +kernel
theorem dX12_isCrew_6 : decode cX12_isCrew 6 = .ok (.ireturn, 1) := by decide +kernel
theorem dX12_at_0 : decode cX12_at 0 = .ok (.iload_n 1, 1) := by decide +kernel
theorem dX12_at_1 : decode cX12_at 1 = .ok (.bipush 8, 2) := by decide +kernel
theorem dX12_at_3 : decode cX12_at 3 = .ok (.imul, 1) := by decide +kernel
theorem dX12_at_4 : decode cX12_at 4 = .ok (.iload_n 0, 1) := by decide +kernel
theorem dX12_at_5 : decode cX12_at 5 = .ok (.iadd, 1) := by decide +kernel
theorem dX12_at_6 : decode cX12_at 6 = .ok (.ireturn, 1) := by decide +kernel
theorem dX12_setFuel_0 : decode cX12_setFuel 0 = .ok (.aload_n 0, 1) := by decide +kernel
theorem dX12_setFuel_1 : decode cX12_setFuel 1 = .ok (.iload_n 1, 1) := by decide +kernel
theorem dX12_setFuel_2 : decode cX12_setFuel 2 = .ok (.iload_n 2, 1) := by decide +kernel
theorem dX12_setFuel_3 : decode cX12_setFuel 3 = .ok (.invokestatic 40, 3) := by decide +kernel
theorem dX12_setFuel_6 : decode cX12_setFuel 6 = .ok (.ifCond .ne 7, 3) := by decide +kernel
theorem dX12_setFuel_9 : decode cX12_setFuel 9 = .ok (.iconst 1, 1) := by decide +kernel
theorem dX12_setFuel_10 : decode cX12_setFuel 10 = .ok (.goto 18, 3) := by decide +kernel
theorem dX12_setFuel_13 : decode cX12_setFuel 13 = .ok (.iload_n 3, 1) := by decide +kernel
theorem dX12_setFuel_14 : decode cX12_setFuel 14 = .ok (.iconst 0, 1) := by decide +kernel
theorem dX12_setFuel_15 : decode cX12_setFuel 15 = .ok (.bipush 99, 2) := by decide +kernel
theorem dX12_setFuel_17 : decode cX12_setFuel 17 = .ok (.invokestatic 36, 3) := by decide +kernel
theorem dX12_setFuel_20 : decode cX12_setFuel 20 = .ok (.ifCond .ne 7, 3) := by decide +kernel
theorem dX12_setFuel_23 : decode cX12_setFuel 23 = .ok (.iconst 2, 1) := by decide +kernel
theorem dX12_setFuel_24 : decode cX12_setFuel 24 = .ok (.goto 4, 3) := by decide +kernel
theorem dX12_setFuel_27 : decode cX12_setFuel 27 = .ok (.iconst 0, 1) := by decide +kernel
theorem dX12_setFuel_28 : decode cX12_setFuel 28 = .ok (.invokevirtual 44, 3) := by decide +kernel
theorem dX12_setFuel_31 : decode cX12_setFuel 31 = .ok (.ifCond .eq 5, 3) := by decide +kernel
theorem dX12_setFuel_34 : decode cX12_setFuel 34 = .ok (.iconst 0, 1) := by decide +kernel
theorem dX12_setFuel_35 : decode cX12_setFuel 35 = .ok (.ireturn, 1) := by decide +kernel
theorem dX12_setFuel_36 : decode cX12_setFuel 36 = .ok (.aload_n 0, 1) := by decide +kernel
theorem dX12_setFuel_37 : decode cX12_setFuel 37 = .ok (.getfield 10, 3) := by decide +kernel
theorem dX12_setFuel_40 : decode cX12_setFuel 40 = .ok (.getfield 48, 3) := by decide +kernel
theorem dX12_setFuel_43 : decode cX12_setFuel 43 = .ok (.iload_n 1, 1) := by decide +kernel
theorem dX12_setFuel_44 : decode cX12_setFuel 44 = .ok (.iload_n 2, 1) := by decide +kernel
theorem dX12_setFuel_45 : decode cX12_setFuel 45 = .ok (.invokestatic 52, 3) := by decide +kernel
theorem dX12_setFuel_48 : decode cX12_setFuel 48 = .ok (.iaload, 1) := by decide +kernel
theorem dX12_setFuel_49 : decode cX12_setFuel 49 = .ok (.istore 4, 2) := by decide +kernel
theorem dX12_setFuel_51 : decode cX12_setFuel 51 = .ok (.aload_n 0, 1) := by decide +kernel
theorem dX12_setFuel_52 : decode cX12_setFuel 52 = .ok (.getfield 10, 3) := by decide +kernel
theorem dX12_setFuel_55 : decode cX12_setFuel 55 = .ok (.getfield 48, 3) := by decide +kernel
theorem dX12_setFuel_58 : decode cX12_setFuel 58 = .ok (.iload_n 1, 1) := by decide +kernel
theorem dX12_setFuel_59 : decode cX12_setFuel 59 = .ok (.iload_n 2, 1) := by decide +kernel
theorem dX12_setFuel_60 : decode cX12_setFuel 60 = .ok (.invokestatic 52, 3) := by decide +kernel
theorem dX12_setFuel_63 : decode cX12_setFuel 63 = .ok (.iload_n 3, 1) := by decide +kernel
theorem dX12_setFuel_64 : decode cX12_setFuel 64 = .ok (.iastore, 1) := by decide +kernel
theorem dX12_setFuel_65 : decode cX12_setFuel 65 = .ok (.iload 4, 2) := by decide +kernel
theorem dX12_setFuel_67 : decode cX12_setFuel 67 = .ok (.ireturn, 1) := by decide +kernel
theorem dX12_light_0 : decode cX12_light 0 = .ok (.aload_n 0, 1) := by decide +kernel
theorem dX12_light_1 : decode cX12_light 1 = .ok (.iload_n 1, 1) := by decide +kernel
theorem dX12_light_2 : decode cX12_light 2 = .ok (.iload_n 2, 1) := by decide +kernel
theorem dX12_light_3 : decode cX12_light 3 = .ok (.invokestatic 40, 3) := by decide +kernel
theorem dX12_light_6 : decode cX12_light 6 = .ok (.ifCond .ne 7, 3) := by decide +kernel
theorem dX12_light_9 : decode cX12_light 9 = .ok (.iconst 1, 1) := by decide +kernel
theorem dX12_light_10 : decode cX12_light 10 = .ok (.goto 54, 3) := by decide +kernel
theorem dX12_light_13 : decode cX12_light 13 = .ok (.iload_n 3, 1) := by decide +kernel
theorem dX12_light_14 : decode cX12_light 14 = .ok (.iconst 1, 1) := by decide +kernel
theorem dX12_light_15 : decode cX12_light 15 = .ok (.bipush 9, 2) := by decide +kernel
theorem dX12_light_17 : decode cX12_light 17 = .ok (.invokestatic 36, 3) := by decide +kernel
theorem dX12_light_20 : decode cX12_light 20 = .ok (.ifCond .ne 7, 3) := by decide +kernel
theorem dX12_light_23 : decode cX12_light 23 = .ok (.iconst 2, 1) := by decide +kernel
theorem dX12_light_24 : decode cX12_light 24 = .ok (.goto 40, 3) := by decide +kernel
theorem dX12_light_27 : decode cX12_light 27 = .ok (.aload_n 0, 1) := by decide +kernel
theorem dX12_light_28 : decode cX12_light 28 = .ok (.getfield 10, 3) := by decide +kernel
theorem dX12_light_31 : decode cX12_light 31 = .ok (.getfield 48, 3) := by decide +kernel
theorem dX12_light_34 : decode cX12_light 34 = .ok (.iload_n 1, 1) := by decide +kernel
theorem dX12_light_35 : decode cX12_light 35 = .ok (.iload_n 2, 1) := by decide +kernel
theorem dX12_light_36 : decode cX12_light 36 = .ok (.invokestatic 52, 3) := by decide +kernel
theorem dX12_light_39 : decode cX12_light 39 = .ok (.iaload, 1) := by decide +kernel
theorem dX12_light_40 : decode cX12_light 40 = .ok (.ifCond .eq 19, 3) := by decide +kernel
theorem dX12_light_43 : decode cX12_light 43 = .ok (.aload_n 0, 1) := by decide +kernel
theorem dX12_light_44 : decode cX12_light 44 = .ok (.getfield 10, 3) := by decide +kernel
theorem dX12_light_47 : decode cX12_light 47 = .ok (.getfield 56, 3) := by decide +kernel
theorem dX12_light_50 : decode cX12_light 50 = .ok (.iload_n 1, 1) := by decide +kernel
theorem dX12_light_51 : decode cX12_light 51 = .ok (.iload_n 2, 1) := by decide +kernel
theorem dX12_light_52 : decode cX12_light 52 = .ok (.invokestatic 52, 3) := by decide +kernel
theorem dX12_light_55 : decode cX12_light 55 = .ok (.baload, 1) := by decide +kernel
theorem dX12_light_56 : decode cX12_light 56 = .ok (.ifCond .eq 7, 3) := by decide +kernel
theorem dX12_light_59 : decode cX12_light 59 = .ok (.iconst 3, 1) := by decide +kernel
theorem dX12_light_60 : decode cX12_light 60 = .ok (.goto 4, 3) := by decide +kernel
theorem dX12_light_63 : decode cX12_light 63 = .ok (.iconst 0, 1) := by decide +kernel
theorem dX12_light_64 : decode cX12_light 64 = .ok (.invokevirtual 44, 3) := by decide +kernel
theorem dX12_light_67 : decode cX12_light 67 = .ok (.ifCond .eq 5, 3) := by decide +kernel
theorem dX12_light_70 : decode cX12_light 70 = .ok (.iconst 0, 1) := by decide +kernel
theorem dX12_light_71 : decode cX12_light 71 = .ok (.ireturn, 1) := by decide +kernel
theorem dX12_light_72 : decode cX12_light 72 = .ok (.iload_n 3, 1) := by decide +kernel
theorem dX12_light_73 : decode cX12_light 73 = .ok (.aload_n 0, 1) := by decide +kernel
theorem dX12_light_74 : decode cX12_light 74 = .ok (.getfield 10, 3) := by decide +kernel
theorem dX12_light_77 : decode cX12_light 77 = .ok (.getfield 60, 3) := by decide +kernel
theorem dX12_light_80 : decode cX12_light 80 = .ok (.iload_n 1, 1) := by decide +kernel
theorem dX12_light_81 : decode cX12_light 81 = .ok (.iload_n 2, 1) := by decide +kernel
theorem dX12_light_82 : decode cX12_light 82 = .ok (.invokestatic 52, 3) := by decide +kernel
theorem dX12_light_85 : decode cX12_light 85 = .ok (.iaload, 1) := by decide +kernel
theorem dX12_light_86 : decode cX12_light 86 = .ok (.if_icmp .le 7, 3) := by decide +kernel
theorem dX12_light_89 : decode cX12_light 89 = .ok (.iconst 1, 1) := by decide +kernel
theorem dX12_light_90 : decode cX12_light 90 = .ok (.goto 4, 3) := by decide +kernel
theorem dX12_light_93 : decode cX12_light 93 = .ok (.iconst 0, 1) := by decide +kernel
theorem dX12_light_94 : decode cX12_light 94 = .ok (.istore 4, 2) := by decide +kernel
theorem dX12_light_96 : decode cX12_light 96 = .ok (.iload 4, 2) := by decide +kernel
theorem dX12_light_98 : decode cX12_light 98 = .ok (.ifCond .eq 17, 3) := by decide +kernel
theorem dX12_light_101 : decode cX12_light 101 = .ok (.aload_n 0, 1) := by decide +kernel
theorem dX12_light_102 : decode cX12_light 102 = .ok (.getfield 10, 3) := by decide +kernel
theorem dX12_light_105 : decode cX12_light 105 = .ok (.getfield 60, 3) := by decide +kernel
theorem dX12_light_108 : decode cX12_light 108 = .ok (.iload_n 1, 1) := by decide +kernel
theorem dX12_light_109 : decode cX12_light 109 = .ok (.iload_n 2, 1) := by decide +kernel
theorem dX12_light_110 : decode cX12_light 110 = .ok (.invokestatic 52, 3) := by decide +kernel
theorem dX12_light_113 : decode cX12_light 113 = .ok (.iload_n 3, 1) := by decide +kernel
theorem dX12_light_114 : decode cX12_light 114 = .ok (.iastore, 1) := by decide +kernel
theorem dX12_light_115 : decode cX12_light 115 = .ok (.iload 4, 2) := by decide +kernel
theorem dX12_light_117 : decode cX12_light 117 = .ok (.ireturn, 1) := by decide +kernel
theorem dX12_setWind_0 : decode cX12_setWind 0 = .ok (.iload_n 1, 1) := by decide +kernel
theorem dX12_setWind_1 : decode cX12_setWind 1 = .ok (.iconst (-1), 1) := by decide +kernel
theorem dX12_setWind_2 : decode cX12_setWind 2 = .ok (.iconst 1, 1) := by decide +kernel
theorem dX12_setWind_3 : decode cX12_setWind 3 = .ok (.invokestatic 36, 3) := by decide +kernel
theorem dX12_setWind_6 : decode cX12_setWind 6 = .ok (.ifCond .eq 37, 3) := by decide +kernel
theorem dX12_setWind_9 : decode cX12_setWind 9 = .ok (.iload_n 2, 1) := by decide +kernel
theorem dX12_setWind_10 : decode cX12_setWind 10 = .ok (.iconst (-1), 1) := by decide +kernel
theorem dX12_setWind_11 : decode cX12_setWind 11 = .ok (.iconst 1, 1) := by decide +kernel
theorem dX12_setWind_12 : decode cX12_setWind 12 = .ok (.invokestatic 36, 3) := by decide +kernel
theorem dX12_setWind_15 : decode cX12_setWind 15 = .ok (.ifCond .eq 28, 3) := by decide +kernel
theorem dX12_setWind_18 : decode cX12_setWind 18 = .ok (.iload_n 3, 1) := by decide +kernel
theorem dX12_setWind_19 : decode cX12_setWind 19 = .ok (.iconst 0, 1) := by decide +kernel
theorem dX12_setWind_20 : decode cX12_setWind 20 = .ok (.iload_n 1, 1) := by decide +kernel
theorem dX12_setWind_21 : decode cX12_setWind 21 = .ok (.ifCond .ne 11, 3) := by decide +kernel
theorem dX12_setWind_24 : decode cX12_setWind 24 = .ok (.iload_n 2, 1) := by decide +kernel
theorem dX12_setWind_25 : decode cX12_setWind 25 = .ok (.ifCond .ne 7, 3) := by decide +kernel
theorem dX12_setWind_28 : decode cX12_setWind 28 = .ok (.iconst 0, 1) := by decide +kernel
theorem dX12_setWind_29 : decode cX12_setWind 29 = .ok (.goto 4, 3) := by decide +kernel
theorem dX12_setWind_32 : decode cX12_setWind 32 = .ok (.iconst 4, 1) := by decide +kernel
theorem dX12_setWind_33 : decode cX12_setWind 33 = .ok (.invokestatic 36, 3) := by decide +kernel
theorem dX12_setWind_36 : decode cX12_setWind 36 = .ok (.ifCond .eq 7, 3) := by decide +kernel
theorem dX12_setWind_39 : decode cX12_setWind 39 = .ok (.iconst 1, 1) := by decide +kernel
theorem dX12_setWind_40 : decode cX12_setWind 40 = .ok (.goto 4, 3) := by decide +kernel
theorem dX12_setWind_43 : decode cX12_setWind 43 = .ok (.iconst 0, 1) := by decide +kernel
theorem dX12_setWind_44 : decode cX12_setWind 44 = .ok (.istore 4, 2) := by decide +kernel
theorem dX12_setWind_46 : decode cX12_setWind 46 = .ok (.aload_n 0, 1) := by decide +kernel
theorem dX12_setWind_47 : decode cX12_setWind 47 = .ok (.iload 4, 2) := by decide +kernel
theorem dX12_setWind_49 : decode cX12_setWind 49 = .ok (.ifCond .eq 7, 3) := by decide +kernel
theorem dX12_setWind_52 : decode cX12_setWind 52 = .ok (.iconst 0, 1) := by decide +kernel
theorem dX12_setWind_53 : decode cX12_setWind 53 = .ok (.goto 4, 3) := by decide +kernel
theorem dX12_setWind_56 : decode cX12_setWind 56 = .ok (.iconst 1, 1) := by decide +kernel
theorem dX12_setWind_57 : decode cX12_setWind 57 = .ok (.invokevirtual 44, 3) := by decide +kernel
theorem dX12_setWind_60 : decode cX12_setWind 60 = .ok (.ifCond .eq 5, 3) := by decide +kernel
theorem dX12_setWind_63 : decode cX12_setWind 63 = .ok (.iconst 0, 1) := by decide +kernel
theorem dX12_setWind_64 : decode cX12_setWind 64 = .ok (.ireturn, 1) := by decide +kernel
theorem dX12_setWind_65 : decode cX12_setWind 65 = .ok (.aload_n 0, 1) := by decide +kernel
theorem dX12_setWind_66 : decode cX12_setWind 66 = .ok (.getfield 10, 3) := by decide +kernel
theorem dX12_setWind_69 : decode cX12_setWind 69 = .ok (.getfield 63, 3) := by decide +kernel
theorem dX12_setWind_72 : decode cX12_setWind 72 = .ok (.istore 5, 2) := by decide +kernel
theorem dX12_setWind_74 : decode cX12_setWind 74 = .ok (.aload_n 0, 1) := by decide +kernel
theorem dX12_setWind_75 : decode cX12_setWind 75 = .ok (.getfield 10, 3) := by decide +kernel
theorem dX12_setWind_78 : decode cX12_setWind 78 = .ok (.iload_n 1, 1) := by decide +kernel
theorem dX12_setWind_79 : decode cX12_setWind 79 = .ok (.putfield 66, 3) := by decide +kernel
theorem dX12_setWind_82 : decode cX12_setWind 82 = .ok (.aload_n 0, 1) := by decide +kernel
theorem dX12_setWind_83 : decode cX12_setWind 83 = .ok (.getfield 10, 3) := by decide +kernel
theorem dX12_setWind_86 : decode cX12_setWind 86 = .ok (.iload_n 2, 1) := by decide +kernel
theorem dX12_setWind_87 : decode cX12_setWind 87 = .ok (.putfield 69, 3) := by decide +kernel
theorem dX12_setWind_90 : decode cX12_setWind 90 = .ok (.aload_n 0, 1) := by decide +kernel
theorem dX12_setWind_91 : decode cX12_setWind 91 = .ok (.getfield 10, 3) := by decide +kernel
theorem dX12_setWind_94 : decode cX12_setWind 94 = .ok (.iload_n 3, 1) := by decide +kernel
theorem dX12_setWind_95 : decode cX12_setWind 95 = .ok (.putfield 63, 3) := by decide +kernel
theorem dX12_setWind_98 : decode cX12_setWind 98 = .ok (.iload 5, 2) := by decide +kernel
theorem dX12_setWind_100 : decode cX12_setWind 100 = .ok (.ireturn, 1) := by decide +kernel
theorem dX12_setRain_0 : decode cX12_setRain 0 = .ok (.aload_n 0, 1) := by decide +kernel
theorem dX12_setRain_1 : decode cX12_setRain 1 = .ok (.iload_n 1, 1) := by decide +kernel
theorem dX12_setRain_2 : decode cX12_setRain 2 = .ok (.iconst 0, 1) := by decide +kernel
theorem dX12_setRain_3 : decode cX12_setRain 3 = .ok (.bipush 9, 2) := by decide +kernel
theorem dX12_setRain_5 : decode cX12_setRain 5 = .ok (.invokestatic 36, 3) := by decide +kernel
theorem dX12_setRain_8 : decode cX12_setRain 8 = .ok (.ifCond .eq 7, 3) := by decide +kernel
theorem dX12_setRain_11 : decode cX12_setRain 11 = .ok (.iconst 0, 1) := by decide +kernel
theorem dX12_setRain_12 : decode cX12_setRain 12 = .ok (.goto 4, 3) := by decide +kernel
theorem dX12_setRain_15 : decode cX12_setRain 15 = .ok (.iconst 1, 1) := by decide +kernel
theorem dX12_setRain_16 : decode cX12_setRain 16 = .ok (.invokevirtual 44, 3) := by decide +kernel
theorem dX12_setRain_19 : decode cX12_setRain 19 = .ok (.ifCond .eq 5, 3) := by decide +kernel
theorem dX12_setRain_22 : decode cX12_setRain 22 = .ok (.iconst 0, 1) := by decide +kernel
theorem dX12_setRain_23 : decode cX12_setRain 23 = .ok (.ireturn, 1) := by decide +kernel
theorem dX12_setRain_24 : decode cX12_setRain 24 = .ok (.aload_n 0, 1) := by decide +kernel
theorem dX12_setRain_25 : decode cX12_setRain 25 = .ok (.getfield 10, 3) := by decide +kernel
theorem dX12_setRain_28 : decode cX12_setRain 28 = .ok (.getfield 72, 3) := by decide +kernel
theorem dX12_setRain_31 : decode cX12_setRain 31 = .ok (.istore_n 2, 1) := by decide +kernel
theorem dX12_setRain_32 : decode cX12_setRain 32 = .ok (.aload_n 0, 1) := by decide +kernel
theorem dX12_setRain_33 : decode cX12_setRain 33 = .ok (.getfield 10, 3) := by decide +kernel
theorem dX12_setRain_36 : decode cX12_setRain 36 = .ok (.iload_n 1, 1) := by decide +kernel
theorem dX12_setRain_37 : decode cX12_setRain 37 = .ok (.putfield 72, 3) := by decide +kernel
theorem dX12_setRain_40 : decode cX12_setRain 40 = .ok (.iload_n 2, 1) := by decide +kernel
theorem dX12_setRain_41 : decode cX12_setRain 41 = .ok (.ireturn, 1) := by decide +kernel
theorem dX12_digLine_0 : decode cX12_digLine 0 = .ok (.aload_n 0, 1) := by decide +kernel
theorem dX12_digLine_1 : decode cX12_digLine 1 = .ok (.iload_n 1, 1) := by decide +kernel
theorem dX12_digLine_2 : decode cX12_digLine 2 = .ok (.iload_n 2, 1) := by decide +kernel
theorem dX12_digLine_3 : decode cX12_digLine 3 = .ok (.invokestatic 40, 3) := by decide +kernel
theorem dX12_digLine_6 : decode cX12_digLine 6 = .ok (.ifCond .ne 7, 3) := by decide +kernel
theorem dX12_digLine_9 : decode cX12_digLine 9 = .ok (.iconst 1, 1) := by decide +kernel
theorem dX12_digLine_10 : decode cX12_digLine 10 = .ok (.goto 52, 3) := by decide +kernel
theorem dX12_digLine_13 : decode cX12_digLine 13 = .ok (.iload_n 3, 1) := by decide +kernel
theorem dX12_digLine_14 : decode cX12_digLine 14 = .ok (.invokestatic 75, 3) := by decide +kernel
theorem dX12_digLine_17 : decode cX12_digLine 17 = .ok (.ifCond .ne 7, 3) := by decide +kernel
theorem dX12_digLine_20 : decode cX12_digLine 20 = .ok (.iconst 2, 1) := by decide +kernel
theorem dX12_digLine_21 : decode cX12_digLine 21 = .ok (.goto 41, 3) := by decide +kernel
theorem dX12_digLine_24 : decode cX12_digLine 24 = .ok (.aload_n 0, 1) := by decide +kernel
theorem dX12_digLine_25 : decode cX12_digLine 25 = .ok (.getfield 10, 3) := by decide +kernel
theorem dX12_digLine_28 : decode cX12_digLine 28 = .ok (.getfield 56, 3) := by decide +kernel
theorem dX12_digLine_31 : decode cX12_digLine 31 = .ok (.iload_n 1, 1) := by decide +kernel
theorem dX12_digLine_32 : decode cX12_digLine 32 = .ok (.iload_n 2, 1) := by decide +kernel
theorem dX12_digLine_33 : decode cX12_digLine 33 = .ok (.invokestatic 52, 3) := by decide +kernel
theorem dX12_digLine_36 : decode cX12_digLine 36 = .ok (.baload, 1) := by decide +kernel
theorem dX12_digLine_37 : decode cX12_digLine 37 = .ok (.ifCond .ne 20, 3) := by decide +kernel
theorem dX12_digLine_40 : decode cX12_digLine 40 = .ok (.aload_n 0, 1) := by decide +kernel
theorem dX12_digLine_41 : decode cX12_digLine 41 = .ok (.getfield 10, 3) := by decide +kernel
theorem dX12_digLine_44 : decode cX12_digLine 44 = .ok (.getfield 60, 3) := by decide +kernel
theorem dX12_digLine_47 : decode cX12_digLine 47 = .ok (.iload_n 1, 1) := by decide +kernel
theorem dX12_digLine_48 : decode cX12_digLine 48 = .ok (.iload_n 2, 1) := by decide +kernel
theorem dX12_digLine_49 : decode cX12_digLine 49 = .ok (.invokestatic 52, 3) := by decide +kernel
theorem dX12_digLine_52 : decode cX12_digLine 52 = .ok (.iaload, 1) := by decide +kernel
theorem dX12_digLine_53 : decode cX12_digLine 53 = .ok (.iconst 4, 1) := by decide +kernel
theorem dX12_digLine_54 : decode cX12_digLine 54 = .ok (.if_icmp .le 7, 3) := by decide +kernel
theorem dX12_digLine_57 : decode cX12_digLine 57 = .ok (.iconst 3, 1) := by decide +kernel
theorem dX12_digLine_58 : decode cX12_digLine 58 = .ok (.goto 4, 3) := by decide +kernel
theorem dX12_digLine_61 : decode cX12_digLine 61 = .ok (.iconst 0, 1) := by decide +kernel
theorem dX12_digLine_62 : decode cX12_digLine 62 = .ok (.invokevirtual 44, 3) := by decide +kernel
theorem dX12_digLine_65 : decode cX12_digLine 65 = .ok (.ifCond .eq 5, 3) := by decide +kernel
theorem dX12_digLine_68 : decode cX12_digLine 68 = .ok (.iconst 0, 1) := by decide +kernel
theorem dX12_digLine_69 : decode cX12_digLine 69 = .ok (.ireturn, 1) := by decide +kernel
theorem dX12_digLine_70 : decode cX12_digLine 70 = .ok (.aload_n 0, 1) := by decide +kernel
theorem dX12_digLine_71 : decode cX12_digLine 71 = .ok (.getfield 10, 3) := by decide +kernel
theorem dX12_digLine_74 : decode cX12_digLine 74 = .ok (.getfield 78, 3) := by decide +kernel
theorem dX12_digLine_77 : decode cX12_digLine 77 = .ok (.iload_n 3, 1) := by decide +kernel
theorem dX12_digLine_78 : decode cX12_digLine 78 = .ok (.iload_n 1, 1) := by decide +kernel
theorem dX12_digLine_79 : decode cX12_digLine 79 = .ok (.iload_n 2, 1) := by decide +kernel
theorem dX12_digLine_80 : decode cX12_digLine 80 = .ok (.invokestatic 52, 3) := by decide +kernel
theorem dX12_digLine_83 : decode cX12_digLine 83 = .ok (.iastore, 1) := by decide +kernel
theorem dX12_digLine_84 : decode cX12_digLine 84 = .ok (.aload_n 0, 1) := by decide +kernel
theorem dX12_digLine_85 : decode cX12_digLine 85 = .ok (.getfield 10, 3) := by decide +kernel
theorem dX12_digLine_88 : decode cX12_digLine 88 = .ok (.getfield 81, 3) := by decide +kernel
theorem dX12_digLine_91 : decode cX12_digLine 91 = .ok (.iload_n 3, 1) := by decide +kernel
theorem dX12_digLine_92 : decode cX12_digLine 92 = .ok (.iconst 2, 1) := by decide +kernel
theorem dX12_digLine_93 : decode cX12_digLine 93 = .ok (.aload_n 0, 1) := by decide +kernel
theorem dX12_digLine_94 : decode cX12_digLine 94 = .ok (.getfield 10, 3) := by decide +kernel
theorem dX12_digLine_97 : decode cX12_digLine 97 = .ok (.getfield 48, 3) := by decide +kernel
theorem dX12_digLine_100 : decode cX12_digLine 100 = .ok (.iload_n 1, 1) := by decide +kernel
theorem dX12_digLine_101 : decode cX12_digLine 101 = .ok (.iload_n 2, 1) := by decide +kernel
theorem dX12_digLine_102 : decode cX12_digLine 102 = .ok (.invokestatic 52, 3) := by decide +kernel
theorem dX12_digLine_105 : decode cX12_digLine 105 = .ok (.iaload, 1) := by decide +kernel
theorem dX12_digLine_106 : decode cX12_digLine 106 = .ok (.bipush 20, 2) := by decide +kernel
theorem dX12_digLine_108 : decode cX12_digLine 108 = .ok (.idiv, 1) := by decide +kernel
theorem dX12_digLine_109 : decode cX12_digLine 109 = .ok (.iadd, 1) := by decide +kernel
theorem dX12_digLine_110 : decode cX12_digLine 110 = .ok (.iastore, 1) := by decide +kernel
theorem dX12_digLine_111 : decode cX12_digLine 111 = .ok (.aload_n 0, 1) := by decide +kernel
theorem dX12_digLine_112 : decode cX12_digLine 112 = .ok (.getfield 10, 3) := by decide +kernel
theorem dX12_digLine_115 : decode cX12_digLine 115 = .ok (.getfield 81, 3) := by decide +kernel
theorem dX12_digLine_118 : decode cX12_digLine 118 = .ok (.iload_n 3, 1) := by decide +kernel
theorem dX12_digLine_119 : decode cX12_digLine 119 = .ok (.iaload, 1) := by decide +kernel
theorem dX12_digLine_120 : decode cX12_digLine 120 = .ok (.ireturn, 1) := by decide +kernel
theorem dX12_isSensor_0 : decode cX12_isSensor 0 = .ok (.iload_n 1, 1) := by decide +kernel
theorem dX12_isSensor_1 : decode cX12_isSensor 1 = .ok (.iconst 0, 1) := by decide +kernel
theorem dX12_isSensor_2 : decode cX12_isSensor 2 = .ok (.aload_n 0, 1) := by decide +kernel
theorem dX12_isSensor_3 : decode cX12_isSensor 3 = .ok (.getfield 19, 3) := by decide +kernel
theorem dX12_isSensor_6 : decode cX12_isSensor 6 = .ok (.invokeinterface 84 1, 5) := by decide +kernel
theorem dX12_isSensor_11 : decode cX12_isSensor 11 = .ok (.iconst 1, 1) := by decide +kernel
theorem dX12_isSensor_12 : decode cX12_isSensor 12 = .ok (.isub, 1) := by decide +kernel
theorem dX12_isSensor_13 : decode cX12_isSensor 13 = .ok (.invokestatic 36, 3) := by decide +kernel
theorem dX12_isSensor_16 : decode cX12_isSensor 16 = .ok (.ireturn, 1) := by decide +kernel
theorem dX12_addSensor_0 : decode cX12_addSensor 0 = .ok (.aload_n 0, 1) := by decide +kernel
theorem dX12_addSensor_1 : decode cX12_addSensor 1 = .ok (.iload_n 1, 1) := by decide +kernel
theorem dX12_addSensor_2 : decode cX12_addSensor 2 = .ok (.iload_n 2, 1) := by decide +kernel
theorem dX12_addSensor_3 : decode cX12_addSensor 3 = .ok (.invokestatic 40, 3) := by decide +kernel
theorem dX12_addSensor_6 : decode cX12_addSensor 6 = .ok (.ifCond .ne 7, 3) := by decide +kernel
theorem dX12_addSensor_9 : decode cX12_addSensor 9 = .ok (.iconst 1, 1) := by decide +kernel
theorem dX12_addSensor_10 : decode cX12_addSensor 10 = .ok (.goto 22, 3) := by decide +kernel
theorem dX12_addSensor_13 : decode cX12_addSensor 13 = .ok (.aload_n 0, 1) := by decide +kernel
theorem dX12_addSensor_14 : decode cX12_addSensor 14 = .ok (.getfield 19, 3) := by decide +kernel
theorem dX12_addSensor_17 : decode cX12_addSensor 17 = .ok (.invokeinterface 84 1, 5) := by decide +kernel
theorem dX12_addSensor_22 : decode cX12_addSensor 22 = .ok (.bipush 10, 2) := by decide +kernel
theorem dX12_addSensor_24 : decode cX12_addSensor 24 = .ok (.if_icmp .ne 7, 3) := by decide +kernel
theorem dX12_addSensor_27 : decode cX12_addSensor 27 = .ok (.iconst 2, 1) := by decide +kernel
theorem dX12_addSensor_28 : decode cX12_addSensor 28 = .ok (.goto 4, 3) := by decide +kernel
theorem dX12_addSensor_31 : decode cX12_addSensor 31 = .ok (.iconst 0, 1) := by decide +kernel
theorem dX12_addSensor_32 : decode cX12_addSensor 32 = .ok (.invokevirtual 44, 3) := by decide +kernel
theorem dX12_addSensor_35 : decode cX12_addSensor 35 = .ok (.ifCond .eq 5, 3) := by decide +kernel
theorem dX12_addSensor_38 : decode cX12_addSensor 38 = .ok (.iconst 0, 1) := by decide +kernel
theorem dX12_addSensor_39 : decode cX12_addSensor 39 = .ok (.ireturn, 1) := by decide +kernel
theorem dX12_addSensor_40 : decode cX12_addSensor 40 = .ok (.aload_n 0, 1) := by decide +kernel
theorem dX12_addSensor_41 : decode cX12_addSensor 41 = .ok (.getfield 19, 3) := by decide +kernel
