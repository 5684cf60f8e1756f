theorem dX12_addSensor_44 : decode cX12_addSensor 44 = .ok (.new 90, 3) := by decide +kernel
theorem dX12_addSensor_47 : decode cX12_addSensor 47 = .ok (.dup, 1) := by decide +kernel
theorem dX12_addSensor_48 : decode cX12_addSensor 48 = .ok (.iload_n 1, 1) := by decide +kernel
theorem dX12_addSensor_49 : decode cX12_addSensor 49 = .ok (.iload_n 2, 1) := by decide +kernel
theorem dX12_addSensor_50 : decode cX12_addSensor 50 = .ok (.invokespecial 92, 3) := by decide +kernel
theorem dX12_addSensor_53 : decode cX12_addSensor 53 = .ok (.invokeinterface 95 2, 5) := by decide +kernel
theorem dX12_addSensor_58 : decode cX12_addSensor 58 = .ok (.pop, 1) := by decide +kernel
theorem dX12_addSensor_59 : decode cX12_addSensor 59 = .ok (.aload_n 0, 1) := by decide +kernel
theorem dX12_addSensor_60 : decode cX12_addSensor 60 = .ok (.getfield 19, 3) := by decide +kernel
theorem dX12_addSensor_63 : decode cX12_addSensor 63 = .ok (.invokeinterface 84 1, 5) := by decide +kernel
theorem dX12_addSensor_68 : decode cX12_addSensor 68 = .ok (.iconst 1, 1) := by decide +kernel
theorem dX12_addSensor_69 : decode cX12_addSensor 69 = .ok (.isub, 1) := by decide +kernel
theorem dX12_addSensor_70 : decode cX12_addSensor 70 = .ok (.ireturn, 1) := by decide +kernel
theorem dX12_read_0 : decode cX12_read 0 = .ok (.aload_n 0, 1) := by decide +kernel
theorem dX12_read_1 : decode cX12_read 1 = .ok (.aload_n 0, 1) := by decide +kernel
theorem dX12_read_2 : decode cX12_read 2 = .ok (.iload_n 1, 1) := by decide +kernel
theorem dX12_read_3 : decode cX12_read 3 = .ok (.invokevirtual 99, 3) := by decide +kernel
theorem dX12_read_6 : decode cX12_read 6 = .ok (.ifCond .ne 7, 3) := by decide +kernel
theorem dX12_read_9 : decode cX12_read 9 = .ok (.iconst 1, 1) := by decide +kernel
theorem dX12_read_10 : decode cX12_read 10 = .ok (.goto 19, 3) := by decide +kernel
theorem dX12_read_13 : decode cX12_read 13 = .ok (.iload_n 2, 1) := by decide +kernel
theorem dX12_read_14 : decode cX12_read 14 = .ok (.iconst 0, 1) := by decide +kernel
theorem dX12_read_15 : decode cX12_read 15 = .ok (.sipush 9999, 3) := by decide +kernel
theorem dX12_read_18 : decode cX12_read 18 = .ok (.invokestatic 36, 3) := by decide +kernel
theorem dX12_read_21 : decode cX12_read 21 = .ok (.ifCond .ne 7, 3) := by decide +kernel
theorem dX12_read_24 : decode cX12_read 24 = .ok (.iconst 2, 1) := by decide +kernel
theorem dX12_read_25 : decode cX12_read 25 = .ok (.goto 4, 3) := by decide +kernel
theorem dX12_read_28 : decode cX12_read 28 = .ok (.iconst 0, 1) := by decide +kernel
theorem dX12_read_29 : decode cX12_read 29 = .ok (.invokevirtual 44, 3) := by decide +kernel
theorem dX12_read_32 : decode cX12_read 32 = .ok (.ifCond .eq 5, 3) := by decide +kernel
theorem dX12_read_35 : decode cX12_read 35 = .ok (.iconst 0, 1) := by decide +kernel
theorem dX12_read_36 : decode cX12_read 36 = .ok (.ireturn, 1) := by decide +kernel
theorem dX12_read_37 : decode cX12_read 37 = .ok (.aload_n 0, 1) := by decide +kernel
theorem dX12_read_38 : decode cX12_read 38 = .ok (.getfield 19, 3) := by decide +kernel
theorem dX12_read_41 : decode cX12_read 41 = .ok (.iload_n 1, 1) := by decide +kernel
theorem dX12_read_42 : decode cX12_read 42 = .ok (.invokeinterface 102 2, 5) := by decide +kernel
theorem dX12_read_47 : decode cX12_read 47 = .ok (.checkcast 90, 3) := by decide +kernel
theorem dX12_read_50 : decode cX12_read 50 = .ok (.iload_n 2, 1) := by decide +kernel
theorem dX12_read_51 : decode cX12_read 51 = .ok (.putfield 106, 3) := by decide +kernel
theorem dX12_read_54 : decode cX12_read 54 = .ok (.iconst 0, 1) := by decide +kernel
theorem dX12_read_55 : decode cX12_read 55 = .ok (.istore_n 3, 1) := by decide +kernel
theorem dX12_read_56 : decode cX12_read 56 = .ok (.aload_n 0, 1) := by decide +kernel
theorem dX12_read_57 : decode cX12_read 57 = .ok (.getfield 19, 3) := by decide +kernel
theorem dX12_read_60 : decode cX12_read 60 = .ok (.invokeinterface 109 1, 5) := by decide +kernel
theorem dX12_read_65 : decode cX12_read 65 = .ok (.astore 4, 2) := by decide +kernel
theorem dX12_read_67 : decode cX12_read 67 = .ok (.aload 4, 2) := by decide +kernel
theorem dX12_read_69 : decode cX12_read 69 = .ok (.invokeinterface 113 1, 5) := by decide +kernel
theorem dX12_read_74 : decode cX12_read 74 = .ok (.ifCond .eq 34, 3) := by decide +kernel
theorem dX12_read_77 : decode cX12_read 77 = .ok (.aload 4, 2) := by decide +kernel
theorem dX12_read_79 : decode cX12_read 79 = .ok (.invokeinterface 119 1, 5) := by decide +kernel
theorem dX12_read_84 : decode cX12_read 84 = .ok (.checkcast 90, 3) := by decide +kernel
theorem dX12_read_87 : decode cX12_read 87 = .ok (.astore 5, 2) := by decide +kernel
theorem dX12_read_89 : decode cX12_read 89 = .ok (.iload_n 3, 1) := by decide +kernel
theorem dX12_read_90 : decode cX12_read 90 = .ok (.aload 5, 2) := by decide +kernel
theorem dX12_read_92 : decode cX12_read 92 = .ok (.invokevirtual 123, 3) := by decide +kernel
theorem dX12_read_95 : decode cX12_read 95 = .ok (.ifCond .eq 7, 3) := by decide +kernel
theorem dX12_read_98 : decode cX12_read 98 = .ok (.iconst 1, 1) := by decide +kernel
theorem dX12_read_99 : decode cX12_read 99 = .ok (.goto 4, 3) := by decide +kernel
theorem dX12_read_102 : decode cX12_read 102 = .ok (.iconst 0, 1) := by decide +kernel
theorem dX12_read_103 : decode cX12_read 103 = .ok (.iadd, 1) := by decide +kernel
theorem dX12_read_104 : decode cX12_read 104 = .ok (.istore_n 3, 1) := by decide +kernel
theorem dX12_read_105 : decode cX12_read 105 = .ok (.goto (-38), 3) := by decide +kernel
theorem dX12_read_108 : decode cX12_read 108 = .ok (.iload_n 3, 1) := by decide +kernel
theorem dX12_read_109 : decode cX12_read 109 = .ok (.ireturn, 1) := by decide +kernel
theorem dX12_trust_0 : decode cX12_trust 0 = .ok (.aload_n 0, 1) := by decide +kernel
theorem dX12_trust_1 : decode cX12_trust 1 = .ok (.aload_n 0, 1) := by decide +kernel
theorem dX12_trust_2 : decode cX12_trust 2 = .ok (.iload_n 1, 1) := by decide +kernel
theorem dX12_trust_3 : decode cX12_trust 3 = .ok (.invokevirtual 99, 3) := by decide +kernel
theorem dX12_trust_6 : decode cX12_trust 6 = .ok (.ifCond .eq 7, 3) := by decide +kernel
theorem dX12_trust_9 : decode cX12_trust 9 = .ok (.iconst 0, 1) := by decide +kernel
theorem dX12_trust_10 : decode cX12_trust 10 = .ok (.goto 4, 3) := by decide +kernel
theorem dX12_trust_13 : decode cX12_trust 13 = .ok (.iconst 1, 1) := by decide +kernel
theorem dX12_trust_14 : decode cX12_trust 14 = .ok (.invokevirtual 44, 3) := by decide +kernel
theorem dX12_trust_17 : decode cX12_trust 17 = .ok (.ifCond .eq 7, 3) := by decide +kernel
theorem dX12_trust_20 : decode cX12_trust 20 = .ok (.iconst 0, 1) := by decide +kernel
theorem dX12_trust_21 : decode cX12_trust 21 = .ok (.goto 19, 3) := by decide +kernel
theorem dX12_trust_24 : decode cX12_trust 24 = .ok (.aload_n 0, 1) := by decide +kernel
theorem dX12_trust_25 : decode cX12_trust 25 = .ok (.getfield 19, 3) := by decide +kernel
theorem dX12_trust_28 : decode cX12_trust 28 = .ok (.iload_n 1, 1) := by decide +kernel
theorem dX12_trust_29 : decode cX12_trust 29 = .ok (.invokeinterface 102 2, 5) := by decide +kernel
theorem dX12_trust_34 : decode cX12_trust 34 = .ok (.checkcast 90, 3) := by decide +kernel
theorem dX12_trust_37 : decode cX12_trust 37 = .ok (.getfield 126, 3) := by decide +kernel
theorem dX12_trust_40 : decode cX12_trust 40 = .ok (.ireturn, 1) := by decide +kernel
theorem dX12_stateOf_0 : decode cX12_stateOf 0 = .ok (.aload_n 0, 1) := by decide +kernel
theorem dX12_stateOf_1 : decode cX12_stateOf 1 = .ok (.aload_n 0, 1) := by decide +kernel
theorem dX12_stateOf_2 : decode cX12_stateOf 2 = .ok (.iload_n 1, 1) := by decide +kernel
theorem dX12_stateOf_3 : decode cX12_stateOf 3 = .ok (.invokevirtual 99, 3) := by decide +kernel
theorem dX12_stateOf_6 : decode cX12_stateOf 6 = .ok (.ifCond .eq 7, 3) := by decide +kernel
theorem dX12_stateOf_9 : decode cX12_stateOf 9 = .ok (.iconst 0, 1) := by decide +kernel
theorem dX12_stateOf_10 : decode cX12_stateOf 10 = .ok (.goto 4, 3) := by decide +kernel
theorem dX12_stateOf_13 : decode cX12_stateOf 13 = .ok (.iconst 1, 1) := by decide +kernel
theorem dX12_stateOf_14 : decode cX12_stateOf 14 = .ok (.invokevirtual 44, 3) := by decide +kernel
theorem dX12_stateOf_17 : decode cX12_stateOf 17 = .ok (.ifCond .eq 5, 3) := by decide +kernel
theorem dX12_stateOf_20 : decode cX12_stateOf 20 = .ok (.iconst 0, 1) := by decide +kernel
theorem dX12_stateOf_21 : decode cX12_stateOf 21 = .ok (.ireturn, 1) := by decide +kernel
theorem dX12_stateOf_22 : decode cX12_stateOf 22 = .ok (.aload_n 0, 1) := by decide +kernel
theorem dX12_stateOf_23 : decode cX12_stateOf 23 = .ok (.getfield 19, 3) := by decide +kernel
theorem dX12_stateOf_26 : decode cX12_stateOf 26 = .ok (.iload_n 1, 1) := by decide +kernel
theorem dX12_stateOf_27 : decode cX12_stateOf 27 = .ok (.invokeinterface 102 2, 5) := by decide +kernel
theorem dX12_stateOf_32 : decode cX12_stateOf 32 = .ok (.checkcast 90, 3) := by decide +kernel
theorem dX12_stateOf_35 : decode cX12_stateOf 35 = .ok (.astore_n 2, 1) := by decide +kernel
theorem dX12_stateOf_36 : decode cX12_stateOf 36 = .ok (.aload_n 2, 1) := by decide +kernel
theorem dX12_stateOf_37 : decode cX12_stateOf 37 = .ok (.getfield 129, 3) := by decide +kernel
theorem dX12_stateOf_40 : decode cX12_stateOf 40 = .ok (.ifCond .eq 8, 3) := by decide +kernel
theorem dX12_stateOf_43 : decode cX12_stateOf 43 = .ok (.bipush 120, 2) := by decide +kernel
theorem dX12_stateOf_45 : decode cX12_stateOf 45 = .ok (.goto 17, 3) := by decide +kernel
theorem dX12_stateOf_48 : decode cX12_stateOf 48 = .ok (.aload_n 2, 1) := by decide +kernel
theorem dX12_stateOf_49 : decode cX12_stateOf 49 = .ok (.getfield 133, 3) := by decide +kernel
theorem dX12_stateOf_52 : decode cX12_stateOf 52 = .ok (.ifCond .eq 8, 3) := by decide +kernel
theorem dX12_stateOf_55 : decode cX12_stateOf 55 = .ok (.bipush 63, 2) := by decide +kernel
theorem dX12_stateOf_57 : decode cX12_stateOf 57 = .ok (.goto 5, 3) := by decide +kernel
theorem dX12_stateOf_60 : decode cX12_stateOf 60 = .ok (.bipush 43, 2) := by decide +kernel
theorem dX12_stateOf_62 : decode cX12_stateOf 62 = .ok (.ireturn, 1) := by decide +kernel
theorem dX12_meanOf_0 : decode cX12_meanOf 0 = .ok (.iconst 0, 1) := by decide +kernel
theorem dX12_meanOf_1 : decode cX12_meanOf 1 = .ok (.istore_n 2, 1) := by decide +kernel
theorem dX12_meanOf_2 : decode cX12_meanOf 2 = .ok (.iconst 0, 1) := by decide +kernel
theorem dX12_meanOf_3 : decode cX12_meanOf 3 = .ok (.istore_n 3, 1) := by decide +kernel
theorem dX12_meanOf_4 : decode cX12_meanOf 4 = .ok (.aload_n 0, 1) := by decide +kernel
theorem dX12_meanOf_5 : decode cX12_meanOf 5 = .ok (.getfield 19, 3) := by decide +kernel
theorem dX12_meanOf_8 : decode cX12_meanOf 8 = .ok (.invokeinterface 109 1, 5) := by decide +kernel
theorem dX12_meanOf_13 : decode cX12_meanOf 13 = .ok (.astore 4, 2) := by decide +kernel
theorem dX12_meanOf_15 : decode cX12_meanOf 15 = .ok (.aload 4, 2) := by decide +kernel
theorem dX12_meanOf_17 : decode cX12_meanOf 17 = .ok (.invokeinterface 113 1, 5) := by decide +kernel
theorem dX12_meanOf_22 : decode cX12_meanOf 22 = .ok (.ifCond .eq 88, 3) := by decide +kernel
theorem dX12_meanOf_25 : decode cX12_meanOf 25 = .ok (.aload 4, 2) := by decide +kernel
theorem dX12_meanOf_27 : decode cX12_meanOf 27 = .ok (.invokeinterface 119 1, 5) := by decide +kernel
theorem dX12_meanOf_32 : decode cX12_meanOf 32 = .ok (.checkcast 90, 3) := by decide +kernel
theorem dX12_meanOf_35 : decode cX12_meanOf 35 = .ok (.astore 5, 2) := by decide +kernel
theorem dX12_meanOf_37 : decode cX12_meanOf 37 = .ok (.aload 5, 2) := by decide +kernel
theorem dX12_meanOf_39 : decode cX12_meanOf 39 = .ok (.aload_n 1, 1) := by decide +kernel
theorem dX12_meanOf_40 : decode cX12_meanOf 40 = .ok (.if_acmp .eq (-25), 3) := by decide +kernel
theorem dX12_meanOf_43 : decode cX12_meanOf 43 = .ok (.aload 5, 2) := by decide +kernel
theorem dX12_meanOf_45 : decode cX12_meanOf 45 = .ok (.invokevirtual 123, 3) := by decide +kernel
theorem dX12_meanOf_48 : decode cX12_meanOf 48 = .ok (.ifCond .eq (-33), 3) := by decide +kernel
theorem dX12_meanOf_51 : decode cX12_meanOf 51 = .ok (.aload 5, 2) := by decide +kernel
theorem dX12_meanOf_53 : decode cX12_meanOf 53 = .ok (.getfield 129, 3) := by decide +kernel
theorem dX12_meanOf_56 : decode cX12_meanOf 56 = .ok (.ifCond .ne (-41), 3) := by decide +kernel
theorem dX12_meanOf_59 : decode cX12_meanOf 59 = .ok (.aload 5, 2) := by decide +kernel
theorem dX12_meanOf_61 : decode cX12_meanOf 61 = .ok (.getfield 136, 3) := by decide +kernel
theorem dX12_meanOf_64 : decode cX12_meanOf 64 = .ok (.aload_n 1, 1) := by decide +kernel
theorem dX12_meanOf_65 : decode cX12_meanOf 65 = .ok (.getfield 136, 3) := by decide +kernel
theorem dX12_meanOf_68 : decode cX12_meanOf 68 = .ok (.isub, 1) := by decide +kernel
theorem dX12_meanOf_69 : decode cX12_meanOf 69 = .ok (.invokestatic 139, 3) := by decide +kernel
theorem dX12_meanOf_72 : decode cX12_meanOf 72 = .ok (.iconst 2, 1) := by decide +kernel
theorem dX12_meanOf_73 : decode cX12_meanOf 73 = .ok (.if_icmp .gt (-58), 3) := by decide +kernel
theorem dX12_meanOf_76 : decode cX12_meanOf 76 = .ok (.aload 5, 2) := by decide +kernel
theorem dX12_meanOf_78 : decode cX12_meanOf 78 = .ok (.getfield 145, 3) := by decide +kernel
theorem dX12_meanOf_81 : decode cX12_meanOf 81 = .ok (.aload_n 1, 1) := by decide +kernel
theorem dX12_meanOf_82 : decode cX12_meanOf 82 = .ok (.getfield 145, 3) := by decide +kernel
theorem dX12_meanOf_85 : decode cX12_meanOf 85 = .ok (.isub, 1) := by decide +kernel
theorem dX12_meanOf_86 : decode cX12_meanOf 86 = .ok (.invokestatic 139, 3) := by decide +kernel
theorem dX12_meanOf_89 : decode cX12_meanOf 89 = .ok (.iconst 2, 1) := by decide +kernel
theorem dX12_meanOf_90 : decode cX12_meanOf 90 = .ok (.if_icmp .le 6, 3) := by decide +kernel
theorem dX12_meanOf_93 : decode cX12_meanOf 93 = .ok (.goto (-78), 3) := by decide +kernel
theorem dX12_meanOf_96 : decode cX12_meanOf 96 = .ok (.iload_n 2, 1) := by decide +kernel
theorem dX12_meanOf_97 : decode cX12_meanOf 97 = .ok (.aload 5, 2) := by decide +kernel
theorem dX12_meanOf_99 : decode cX12_meanOf 99 = .ok (.getfield 106, 3) := by decide +kernel
theorem dX12_meanOf_102 : decode cX12_meanOf 102 = .ok (.iadd, 1) := by decide +kernel
theorem dX12_meanOf_103 : decode cX12_meanOf 103 = .ok (.istore_n 2, 1) := by decide +kernel
theorem dX12_meanOf_104 : decode cX12_meanOf 104 = .ok (.iinc 3 1, 3) := by decide +kernel
theorem dX12_meanOf_107 : decode cX12_meanOf 107 = .ok (.goto (-92), 3) := by decide +kernel
theorem dX12_meanOf_110 : decode cX12_meanOf 110 = .ok (.aload_n 1, 1) := by decide +kernel
theorem dX12_meanOf_111 : decode cX12_meanOf 111 = .ok (.invokevirtual 123, 3) := by decide +kernel
theorem dX12_meanOf_114 : decode cX12_meanOf 114 = .ok (.ifCond .eq 14, 3) := by decide +kernel
theorem dX12_meanOf_117 : decode cX12_meanOf 117 = .ok (.iload_n 3, 1) := by decide +kernel
theorem dX12_meanOf_118 : decode cX12_meanOf 118 = .ok (.iconst 2, 1) := by decide +kernel
theorem dX12_meanOf_119 : decode cX12_meanOf 119 = .ok (.if_icmp .lt 9, 3) := by decide +kernel
theorem dX12_meanOf_122 : decode cX12_meanOf 122 = .ok (.iload_n 2, 1) := by decide +kernel
theorem dX12_meanOf_123 : decode cX12_meanOf 123 = .ok (.iload_n 3, 1) := by decide +kernel
theorem dX12_meanOf_124 : decode cX12_meanOf 124 = .ok (.idiv, 1) := by decide +kernel
theorem dX12_meanOf_125 : decode cX12_meanOf 125 = .ok (.goto 4, 3) := by decide +kernel
theorem dX12_meanOf_128 : decode cX12_meanOf 128 = .ok (.iconst (-1), 1) := by decide +kernel
theorem dX12_meanOf_129 : decode cX12_meanOf 129 = .ok (.ireturn, 1) := by decide +kernel
theorem dX12_judged_0 : decode cX12_judged 0 = .ok (.aload_n 0, 1) := by decide +kernel
theorem dX12_judged_1 : decode cX12_judged 1 = .ok (.aload_n 0, 1) := by decide +kernel
theorem dX12_judged_2 : decode cX12_judged 2 = .ok (.iload_n 1, 1) := by decide +kernel
theorem dX12_judged_3 : decode cX12_judged 3 = .ok (.invokevirtual 99, 3) := by decide +kernel
theorem dX12_judged_6 : decode cX12_judged 6 = .ok (.ifCond .eq 7, 3) := by decide +kernel
theorem dX12_judged_9 : decode cX12_judged 9 = .ok (.iconst 0, 1) := by decide +kernel
theorem dX12_judged_10 : decode cX12_judged 10 = .ok (.goto 4, 3) := by decide +kernel
theorem dX12_judged_13 : decode cX12_judged 13 = .ok (.iconst 1, 1) := by decide +kernel
theorem dX12_judged_14 : decode cX12_judged 14 = .ok (.invokevirtual 44, 3) := by decide +kernel
theorem dX12_judged_17 : decode cX12_judged 17 = .ok (.ifCond .eq 5, 3) := by decide +kernel
theorem dX12_judged_20 : decode cX12_judged 20 = .ok (.iconst 0, 1) := by decide +kernel
theorem dX12_judged_21 : decode cX12_judged 21 = .ok (.ireturn, 1) := by decide +kernel
theorem dX12_judged_22 : decode cX12_judged 22 = .ok (.aload_n 0, 1) := by decide +kernel
theorem dX12_judged_23 : decode cX12_judged 23 = .ok (.aload_n 0, 1) := by decide +kernel
theorem dX12_judged_24 : decode cX12_judged 24 = .ok (.getfield 19, 3) := by decide +kernel
theorem dX12_judged_27 : decode cX12_judged 27 = .ok (.iload_n 1, 1) := by decide +kernel
theorem dX12_judged_28 : decode cX12_judged 28 = .ok (.invokeinterface 102 2, 5) := by decide +kernel
theorem dX12_judged_33 : decode cX12_judged 33 = .ok (.checkcast 90, 3) := by decide +kernel
theorem dX12_judged_36 : decode cX12_judged 36 = .ok (.invokevirtual 148, 3) := by decide +kernel
theorem dX12_judged_39 : decode cX12_judged 39 = .ok (.istore_n 2, 1) := by decide +kernel
theorem dX12_judged_40 : decode cX12_judged 40 = .ok (.aload_n 0, 1) := by decide +kernel
theorem dX12_judged_41 : decode cX12_judged 41 = .ok (.iload_n 2, 1) := by decide +kernel
theorem dX12_judged_42 : decode cX12_judged 42 = .ok (.ifCond .ge 7, 3) := by decide +kernel
theorem dX12_judged_45 : decode cX12_judged 45 = .ok (.iconst 2, 1) := by decide +kernel
theorem dX12_judged_46 : decode cX12_judged 46 = .ok (.goto 4, 3) := by decide +kernel
theorem dX12_judged_49 : decode cX12_judged 49 = .ok (.iconst 0, 1) := by decide +kernel
theorem dX12_judged_50 : decode cX12_judged 50 = .ok (.invokevirtual 44, 3) := by decide +kernel
theorem dX12_judged_53 : decode cX12_judged 53 = .ok (.ifCond .eq 7, 3) := by decide +kernel
theorem dX12_judged_56 : decode cX12_judged 56 = .ok (.iconst 0, 1) := by decide +kernel
theorem dX12_judged_57 : decode cX12_judged 57 = .ok (.goto 4, 3) := by decide +kernel
theorem dX12_judged_60 : decode cX12_judged 60 = .ok (.iload_n 2, 1) := by decide +kernel
theorem dX12_judged_61 : decode cX12_judged 61 = .ok (.ireturn, 1) := by decide +kernel
theorem dX12_judge_0 : decode cX12_judge 0 = .ok (.aload_n 0, 1) := by decide +kernel
theorem dX12_judge_1 : decode cX12_judge 1 = .ok (.getfield 19, 3) := by decide +kernel
theorem dX12_judge_4 : decode cX12_judge 4 = .ok (.invokeinterface 84 1, 5) := by decide +kernel
theorem dX12_judge_9 : decode cX12_judge 9 = .ok (.newarray .int, 2) := by decide +kernel
theorem dX12_judge_11 : decode cX12_judge 11 = .ok (.astore_n 1, 1) := by decide +kernel
theorem dX12_judge_12 : decode cX12_judge 12 = .ok (.iconst 0, 1) := by decide +kernel
theorem dX12_judge_13 : decode cX12_judge 13 = .ok (.istore_n 2, 1) := by decide +kernel
theorem dX12_judge_14 : decode cX12_judge 14 = .ok (.iload_n 2, 1) := by decide +kernel
theorem dX12_judge_15 : decode cX12_judge 15 = .ok (.aload_n 1, 1) := by decide +kernel
theorem dX12_judge_16 : decode cX12_judge 16 = .ok (.arraylength, 1) := by decide +kernel
theorem dX12_judge_17 : decode cX12_judge 17 = .ok (.if_icmp .ge 29, 3) := by decide +kernel
theorem dX12_judge_20 : decode cX12_judge 20 = .ok (.aload_n 1, 1) := by decide +kernel
theorem dX12_judge_21 : decode cX12_judge 21 = .ok (.iload_n 2, 1) := by decide +kernel
theorem dX12_judge_22 : decode cX12_judge 22 = .ok (.aload_n 0, 1) := by decide +kernel
theorem dX12_judge_23 : decode cX12_judge 23 = .ok (.aload_n 0, 1) := by decide +kernel
theorem dX12_judge_24 : decode cX12_judge 24 = .ok (.getfield 19, 3) := by decide +kernel
theorem dX12_judge_27 : decode cX12_judge 27 = .ok (.iload_n 2, 1) := by decide +kernel
theorem dX12_judge_28 : decode cX12_judge 28 = .ok (.invokeinterface 102 2, 5) := by decide +kernel
theorem dX12_judge_33 : decode cX12_judge 33 = .ok (.checkcast 90, 3) := by decide +kernel
theorem dX12_judge_36 : decode cX12_judge 36 = .ok (.invokevirtual 148, 3) := by decide +kernel
theorem dX12_judge_39 : decode cX12_judge 39 = .ok (.iastore, 1) := by decide +kernel
theorem dX12_judge_40 : decode cX12_judge 40 = .ok (.iinc 2 1, 3) := by decide +kernel
theorem dX12_judge_43 : decode cX12_judge 43 = .ok (.goto (-29), 3) := by decide +kernel
theorem dX12_judge_46 : decode cX12_judge 46 = .ok (.iconst 0, 1) := by decide +kernel
theorem dX12_judge_47 : decode cX12_judge 47 = .ok (.istore_n 2, 1) := by decide +kernel
theorem dX12_judge_48 : decode cX12_judge 48 = .ok (.iload_n 2, 1) := by decide +kernel
theorem dX12_judge_49 : decode cX12_judge 49 = .ok (.aload_n 1, 1) := by decide +kernel
theorem dX12_judge_50 : decode cX12_judge 50 = .ok (.arraylength, 1) := by decide +kernel
theorem dX12_judge_51 : decode cX12_judge 51 = .ok (.if_icmp .ge 34, 3) := by decide +kernel
theorem dX12_judge_54 : decode cX12_judge 54 = .ok (.aload_n 1, 1) := by decide +kernel
theorem dX12_judge_55 : decode cX12_judge 55 = .ok (.iload_n 2, 1) := by decide +kernel
theorem dX12_judge_56 : decode cX12_judge 56 = .ok (.iaload, 1) := by decide +kernel
theorem dX12_judge_57 : decode cX12_judge 57 = .ok (.ifCond .lt 22, 3) := by decide +kernel
theorem dX12_judge_60 : decode cX12_judge 60 = .ok (.aload_n 0, 1) := by decide +kernel
theorem dX12_judge_61 : decode cX12_judge 61 = .ok (.getfield 19, 3) := by decide +kernel
theorem dX12_judge_64 : decode cX12_judge 64 = .ok (.iload_n 2, 1) := by decide +kernel
theorem dX12_judge_65 : decode cX12_judge 65 = .ok (.invokeinterface 102 2, 5) := by decide +kernel
theorem dX12_judge_70 : decode cX12_judge 70 = .ok (.checkcast 90, 3) := by decide +kernel
theorem dX12_judge_73 : decode cX12_judge 73 = .ok (.aload_n 1, 1) := by decide +kernel
theorem dX12_judge_74 : decode cX12_judge 74 = .ok (.iload_n 2, 1) := by decide +kernel
theorem dX12_judge_75 : decode cX12_judge 75 = .ok (.iaload, 1) := by decide +kernel
theorem dX12_judge_76 : decode cX12_judge 76 = .ok (.invokestatic 152, 3) := by decide +kernel
theorem dX12_judge_79 : decode cX12_judge 79 = .ok (.iinc 2 1, 3) := by decide +kernel
theorem dX12_judge_82 : decode cX12_judge 82 = .ok (.goto (-34), 3) := by decide +kernel
theorem dX12_judge_85 : decode cX12_judge 85 = .ok (.return_, 1) := by decide +kernel
theorem dX12_judge__0 : decode cX12_judge_ 0 = .ok (.aload_n 0, 1) := by decide +kernel
theorem dX12_judge__1 : decode cX12_judge_ 1 = .ok (.getfield 106, 3) := by decide +kernel
theorem dX12_judge__4 : decode cX12_judge_ 4 = .ok (.iload_n 1, 1) := by decide +kernel
theorem dX12_judge__5 : decode cX12_judge_ 5 = .ok (.isub, 1) := by decide +kernel
theorem dX12_judge__6 : decode cX12_judge_ 6 = .ok (.invokestatic 139, 3) := by decide +kernel
theorem dX12_judge__9 : decode cX12_judge_ 9 = .ok (.bipush 20, 2) := by decide +kernel
theorem dX12_judge__11 : decode cX12_judge_ 11 = .ok (.iload_n 1, 1) := by decide +kernel
theorem dX12_judge__12 : decode cX12_judge_ 12 = .ok (.iconst 2, 1) := by decide +kernel
theorem dX12_judge__13 : decode cX12_judge_ 13 = .ok (.idiv, 1) := by decide +kernel
theorem dX12_judge__14 : decode cX12_judge_ 14 = .ok (.invokestatic 156, 3) := by decide +kernel
theorem dX12_judge__17 : decode cX12_judge_ 17 = .ok (.if_icmp .gt 7, 3) := by decide +kernel
theorem dX12_judge__20 : decode cX12_judge_ 20 = .ok (.iconst 1, 1) := by decide +kernel
theorem dX12_judge__21 : decode cX12_judge_ 21 = .ok (.goto 4, 3) := by decide +kernel
theorem dX12_judge__24 : decode cX12_judge_ 24 = .ok (.iconst 0, 1) := by decide +kernel
theorem dX12_judge__25 : decode cX12_judge_ 25 = .ok (.istore_n 2, 1) := by decide +kernel
theorem dX12_judge__26 : decode cX12_judge_ 26 = .ok (.aload_n 0, 1) := by decide +kernel
theorem dX12_judge__27 : decode cX12_judge_ 27 = .ok (.iload_n 2, 1) := by decide +kernel
theorem dX12_judge__28 : decode cX12_judge_ 28 = .ok (.ifCond .eq 18, 3) := by decide +kernel
theorem dX12_judge__31 : decode cX12_judge_ 31 = .ok (.bipush 100, 2) := by decide +kernel
theorem dX12_judge__33 : decode cX12_judge_ 33 = .ok (.aload_n 0, 1) := by decide +kernel
theorem dX12_judge__34 : decode cX12_judge_ 34 = .ok (.getfield 126, 3) := by decide +kernel
theorem dX12_judge__37 : decode cX12_judge_ 37 = .ok (.bipush 10, 2) := by decide +kernel
theorem dX12_judge__39 : decode cX12_judge_ 39 = .ok (.iadd, 1) := by decide +kernel
theorem dX12_judge__40 : decode cX12_judge_ 40 = .ok (.invokestatic 159, 3) := by decide +kernel
theorem dX12_judge__43 : decode cX12_judge_ 43 = .ok (.goto 14, 3) := by decide +kernel
theorem dX12_judge__46 : decode cX12_judge_ 46 = .ok (.iconst 0, 1) := by decide +kernel
theorem dX12_judge__47 : decode cX12_judge_ 47 = .ok (.aload_n 0, 1) := by decide +kernel
theorem dX12_judge__48 : decode cX12_judge_ 48 = .ok (.getfield 126, 3) := by decide +kernel
theorem dX12_judge__51 : decode cX12_judge_ 51 = .ok (.bipush 20, 2) := by decide +kernel
theorem dX12_judge__53 : decode cX12_judge_ 53 = .ok (.isub, 1) := by decide +kernel
theorem dX12_judge__54 : decode cX12_judge_ 54 = .ok (.invokestatic 156, 3) := by decide +kernel
theorem dX12_judge__57 : decode cX12_judge_ 57 = .ok (.putfield 126, 3) := by decide +kernel
theorem dX12_judge__60 : decode cX12_judge_ 60 = .ok (.aload_n 0, 1) := by decide +kernel
theorem dX12_judge__61 : decode cX12_judge_ 61 = .ok (.iload_n 2, 1) := by decide +kernel
theorem dX12_judge__62 : decode cX12_judge_ 62 = .ok (.ifCond .ne 7, 3) := by decide +kernel
theorem dX12_judge__65 : decode cX12_judge_ 65 = .ok (.iconst 1, 1) := by decide +kernel
theorem dX12_judge__66 : decode cX12_judge_ 66 = .ok (.goto 4, 3) := by decide +kernel
theorem dX12_judge__69 : decode cX12_judge_ 69 = .ok (.iconst 0, 1) := by decide +kernel
theorem dX12_judge__70 : decode cX12_judge_ 70 = .ok (.putfield 133, 3) := by decide +kernel
theorem dX12_judge__73 : decode cX12_judge_ 73 = .ok (.aload_n 0, 1) := by decide +kernel
theorem dX12_judge__74 : decode cX12_judge_ 74 = .ok (.iload_n 2, 1) := by decide +kernel
theorem dX12_judge__75 : decode cX12_judge_ 75 = .ok (.aload_n 0, 1) := by decide +kernel
theorem dX12_judge__76 : decode cX12_judge_ 76 = .ok (.getfield 129, 3) := by decide +kernel
theorem dX12_judge__79 : decode cX12_judge_ 79 = .ok (.if_icmp .ne 12, 3) := by decide +kernel
theorem dX12_judge__82 : decode cX12_judge_ 82 = .ok (.aload_n 0, 1) := by decide +kernel
theorem dX12_judge__83 : decode cX12_judge_ 83 = .ok (.getfield 162, 3) := by decide +kernel
theorem dX12_judge__86 : decode cX12_judge_ 86 = .ok (.iconst 1, 1) := by decide +kernel
theorem dX12_judge__87 : decode cX12_judge_ 87 = .ok (.iadd, 1) := by decide +kernel
theorem dX12_judge__88 : decode cX12_judge_ 88 = .ok (.goto 4, 3) := by decide +kernel
theorem dX12_judge__91 : decode cX12_judge_ 91 = .ok (.iconst 0, 1) := by decide +kernel
theorem dX12_judge__92 : decode cX12_judge_ 92 = .ok (.putfield 162, 3) := by decide +kernel
theorem dX12_judge__95 : decode cX12_judge_ 95 = .ok (.aload_n 0, 1) := by decide +kernel
theorem dX12_judge__96 : decode cX12_judge_ 96 = .ok (.getfield 162, 3) := by decide +kernel
theorem dX12_judge__99 : decode cX12_judge_ 99 = .ok (.aload_n 0, 1) := by decide +kernel
theorem dX12_judge__100 : decode cX12_judge_ 100 = .ok (.getfield 129, 3) := by decide +kernel
theorem dX12_judge__103 : decode cX12_judge_ 103 = .ok (.ifCond .eq 7, 3) := by decide +kernel
theorem dX12_judge__106 : decode cX12_judge_ 106 = .ok (.iconst 3, 1) := by decide +kernel
theorem dX12_judge__107 : decode cX12_judge_ 107 = .ok (.goto 4, 3) := by decide +kernel
theorem dX12_judge__110 : decode cX12_judge_ 110 = .ok (.iconst 2, 1) := by decide +kernel
theorem dX12_judge__111 : decode cX12_judge_ 111 = .ok (.if_icmp .ge 4, 3) := by decide +kernel
theorem dX12_judge__114 : decode cX12_judge_ 114 = .ok (.return_, 1) := by decide +kernel
theorem dX12_judge__115 : decode cX12_judge_ 115 = .ok (.aload_n 0, 1) := by decide +kernel
theorem dX12_judge__116 : decode cX12_judge_ 116 = .ok (.iconst 0, 1) := by decide +kernel
theorem dX12_judge__117 : decode cX12_judge_ 117 = .ok (.putfield 162, 3) := by decide +kernel
theorem dX12_judge__120 : decode cX12_judge_ 120 = .ok (.aload_n 0, 1) := by decide +kernel
theorem dX12_judge__121 : decode cX12_judge_ 121 = .ok (.aload_n 0, 1) := by decide +kernel
theorem dX12_judge__122 : decode cX12_judge_ 122 = .ok (.getfield 129, 3) := by decide +kernel
theorem dX12_judge__125 : decode cX12_judge_ 125 = .ok (.ifCond .ne 7, 3) := by decide +kernel
theorem dX12_judge__128 : decode cX12_judge_ 128 = .ok (.iconst 1, 1) := by decide +kernel
theorem dX12_judge__129 : decode cX12_judge_ 129 = .ok (.goto 4, 3) := by decide +kernel
theorem dX12_judge__132 : decode cX12_judge_ 132 = .ok (.iconst 0, 1) := by decide +kernel
theorem dX12_judge__133 : decode cX12_judge_ 133 = .ok (.putfield 129, 3) := by decide +kernel
theorem dX12_judge__136 : decode cX12_judge_ 136 = .ok (.aload_n 0, 1) := by decide +kernel
theorem dX12_judge__137 : decode cX12_judge_ 137 = .ok (.aload_n 0, 1) := by decide +kernel
theorem dX12_judge__138 : decode cX12_judge_ 138 = .ok (.getfield 129, 3) := by decide +kernel
theorem dX12_judge__141 : decode cX12_judge_ 141 = .ok (.ifCond .eq 10, 3) := by decide +kernel
theorem dX12_judge__144 : decode cX12_judge_ 144 = .ok (.aload_n 0, 1) := by decide +kernel
theorem dX12_judge__145 : decode cX12_judge_ 145 = .ok (.getfield 126, 3) := by decide +kernel
theorem dX12_judge__148 : decode cX12_judge_ 148 = .ok (.goto 5, 3) := by decide +kernel
theorem dX12_judge__151 : decode cX12_judge_ 151 = .ok (.bipush 30, 2) := by decide +kernel
theorem dX12_judge__153 : decode cX12_judge_ 153 = .ok (.putfield 126, 3) := by decide +kernel
theorem dX12_judge__156 : decode cX12_judge_ 156 = .ok (.return_, 1) := by decide +kernel
theorem dX12_mend_0 : decode cX12_mend 0 = .ok (.iconst 0, 1) := by decide +kernel
theorem dX12_mend_1 : decode cX12_mend 1 = .ok (.istore_n 1, 1) := by decide +kernel
theorem dX12_mend_2 : decode cX12_mend 2 = .ok (.iload_n 1, 1) := by decide +kernel
theorem dX12_mend_3 : decode cX12_mend 3 = .ok (.bipush 48, 2) := by decide +kernel
theorem dX12_mend_5 : decode cX12_mend 5 = .ok (.if_icmp .ge 162, 3) := by decide +kernel
theorem dX12_mend_8 : decode cX12_mend 8 = .ok (.iconst 0, 1) := by decide +kernel
theorem dX12_mend_9 : decode cX12_mend 9 = .ok (.istore_n 2, 1) := by decide +kernel
theorem dX12_mend_10 : decode cX12_mend 10 = .ok (.iconst 0, 1) := by decide +kernel
theorem dX12_mend_11 : decode cX12_mend 11 = .ok (.istore_n 3, 1) := by decide +kernel
theorem dX12_mend_12 : decode cX12_mend 12 = .ok (.aload_n 0, 1) := by decide +kernel
theorem dX12_mend_13 : decode cX12_mend 13 = .ok (.getfield 19, 3) := by decide +kernel
theorem dX12_mend_16 : decode cX12_mend 16 = .ok (.invokeinterface 109 1, 5) := by decide +kernel
theorem dX12_mend_21 : decode cX12_mend 21 = .ok (.astore 4, 2) := by decide +kernel
theorem dX12_mend_23 : decode cX12_mend 23 = .ok (.aload 4, 2) := by decide +kernel
theorem dX12_mend_25 : decode cX12_mend 25 = .ok (.invokeinterface 113 1, 5) := by decide +kernel
theorem dX12_mend_30 : decode cX12_mend 30 = .ok (.ifCond .eq 76, 3) := by decide +kernel
theorem dX12_mend_33 : decode cX12_mend 33 = .ok (.aload 4, 2) := by decide +kernel
theorem dX12_mend_35 : decode cX12_mend 35 = .ok (.invokeinterface 119 1, 5) := by decide +kernel
theorem dX12_mend_40 : decode cX12_mend 40 = .ok (.checkcast 90, 3) := by decide +kernel
theorem dX12_mend_43 : decode cX12_mend 43 = .ok (.astore 5, 2) := by decide +kernel
theorem dX12_mend_45 : decode cX12_mend 45 = .ok (.aload 5, 2) := by decide +kernel
theorem dX12_mend_47 : decode cX12_mend 47 = .ok (.getfield 136, 3) := by decide +kernel
theorem dX12_mend_50 : decode cX12_mend 50 = .ok (.aload 5, 2) := by decide +kernel
theorem dX12_mend_52 : decode cX12_mend 52 = .ok (.getfield 145, 3) := by decide +kernel
theorem dX12_mend_55 : decode cX12_mend 55 = .ok (.invokestatic 52, 3) := by decide +kernel
theorem dX12_mend_58 : decode cX12_mend 58 = .ok (.iload_n 1, 1) := by decide +kernel
theorem dX12_mend_59 : decode cX12_mend 59 = .ok (.if_icmp .ne (-36), 3) := by decide +kernel
theorem dX12_mend_62 : decode cX12_mend 62 = .ok (.aload 5, 2) := by decide +kernel
theorem dX12_mend_64 : decode cX12_mend 64 = .ok (.invokevirtual 123, 3) := by decide +kernel
theorem dX12_mend_67 : decode cX12_mend 67 = .ok (.ifCond .eq (-44), 3) := by decide +kernel
theorem dX12_mend_70 : decode cX12_mend 70 = .ok (.aload 5, 2) := by decide +kernel
theorem dX12_mend_72 : decode cX12_mend 72 = .ok (.getfield 129, 3) := by decide +kernel
theorem dX12_mend_75 : decode cX12_mend 75 = .ok (.ifCond .eq 6, 3) := by decide +kernel
theorem dX12_mend_78 : decode cX12_mend 78 = .ok (.goto (-55), 3) := by decide +kernel
theorem dX12_mend_81 : decode cX12_mend 81 = .ok (.iload_n 2, 1) := by decide +kernel
theorem dX12_mend_82 : decode cX12_mend 82 = .ok (.aload 5, 2) := by decide +kernel
theorem dX12_mend_84 : decode cX12_mend 84 = .ok (.getfield 126, 3) := by decide +kernel
theorem dX12_mend_87 : decode cX12_mend 87 = .ok (.iadd, 1) := by decide +kernel
theorem dX12_mend_88 : decode cX12_mend 88 = .ok (.istore_n 2, 1) := by decide +kernel
theorem dX12_mend_89 : decode cX12_mend 89 = .ok (.iload_n 3, 1) := by decide +kernel
theorem dX12_mend_90 : decode cX12_mend 90 = .ok (.aload 5, 2) := by decide +kernel
theorem dX12_mend_92 : decode cX12_mend 92 = .ok (.getfield 126, 3) := by decide +kernel
theorem dX12_mend_95 : decode cX12_mend 95 = .ok (.aload 5, 2) := by decide +kernel
theorem dX12_mend_97 : decode cX12_mend 97 = .ok (.getfield 106, 3) := by decide +kernel
theorem dX12_mend_100 : decode cX12_mend 100 = .ok (.imul, 1) := by decide +kernel
theorem dX12_mend_101 : decode cX12_mend 101 = .ok (.iadd, 1) := by decide +kernel
theorem dX12_mend_102 : decode cX12_mend 102 = .ok (.istore_n 3, 1) := by decide +kernel
theorem dX12_mend_103 : decode cX12_mend 103 = .ok (.goto (-80), 3) := by decide +kernel
theorem dX12_mend_106 : decode cX12_mend 106 = .ok (.iload_n 2, 1) := by decide +kernel
theorem dX12_mend_107 : decode cX12_mend 107 = .ok (.ifCond .ne 6, 3) := by decide +kernel
theorem dX12_mend_110 : decode cX12_mend 110 = .ok (.goto 51, 3) := by decide +kernel
theorem dX12_mend_113 : decode cX12_mend 113 = .ok (.iload_n 3, 1) := by decide +kernel
theorem dX12_mend_114 : decode cX12_mend 114 = .ok (.iload_n 2, 1) := by decide +kernel
theorem dX12_mend_115 : decode cX12_mend 115 = .ok (.idiv, 1) := by decide +kernel
theorem dX12_mend_116 : decode cX12_mend 116 = .ok (.aload_n 0, 1) := by decide +kernel
theorem dX12_mend_117 : decode cX12_mend 117 = .ok (.getfield 10, 3) := by decide +kernel
theorem dX12_mend_120 : decode cX12_mend 120 = .ok (.getfield 165, 3) := by decide +kernel
theorem dX12_mend_123 : decode cX12_mend 123 = .ok (.iload_n 1, 1) := by decide +kernel
theorem dX12_mend_124 : decode cX12_mend 124 = .ok (.iaload, 1) := by decide +kernel
theorem dX12_mend_125 : decode cX12_mend 125 = .ok (.isub, 1) := by decide +kernel
theorem dX12_mend_126 : decode cX12_mend 126 = .ok (.iload_n 2, 1) := by decide +kernel
theorem dX12_mend_127 : decode cX12_mend 127 = .ok (.imul, 1) := by decide +kernel
theorem dX12_mend_128 : decode cX12_mend 128 = .ok (.bipush 100, 2) := by decide +kernel
theorem dX12_mend_130 : decode cX12_mend 130 = .ok (.iload_n 2, 1) := by decide +kernel
theorem dX12_mend_131 : decode cX12_mend 131 = .ok (.iadd, 1) := by decide +kernel
theorem dX12_mend_132 : decode cX12_mend 132 = .ok (.idiv, 1) := by decide +kernel
theorem dX12_mend_133 : decode cX12_mend 133 = .ok (.istore 4, 2) := by decide +kernel
theorem dX12_mend_135 : decode cX12_mend 135 = .ok (.aload_n 0, 1) := by decide +kernel
theorem dX12_mend_136 : decode cX12_mend 136 = .ok (.getfield 10, 3) := by decide +kernel
theorem dX12_mend_139 : decode cX12_mend 139 = .ok (.getfield 165, 3) := by decide +kernel
theorem dX12_mend_142 : decode cX12_mend 142 = .ok (.iload_n 1, 1) := by decide +kernel
theorem dX12_mend_143 : decode cX12_mend 143 = .ok (.dup2, 1) := by decide +kernel
theorem dX12_mend_144 : decode cX12_mend 144 = .ok (.iaload, 1) := by decide +kernel
theorem dX12_mend_145 : decode cX12_mend 145 = .ok (.iload 4, 2) := by decide +kernel
theorem dX12_mend_147 : decode cX12_mend 147 = .ok (.iadd, 1) := by decide +kernel
theorem dX12_mend_148 : decode cX12_mend 148 = .ok (.iastore, 1) := by decide +kernel
theorem dX12_mend_149 : decode cX12_mend 149 = .ok (.aload_n 0, 1) := by decide +kernel
theorem dX12_mend_150 : decode cX12_mend 150 = .ok (.dup, 1) := by decide +kernel
theorem dX12_mend_151 : decode cX12_mend 151 = .ok (.getfield 168, 3) := by decide +kernel
theorem dX12_mend_154 : decode cX12_mend 154 = .ok (.iload 4, 2) := by decide +kernel
theorem dX12_mend_156 : decode cX12_mend 156 = .ok (.i2l, 1) := by decide +kernel
theorem dX12_mend_157 : decode cX12_mend 157 = .ok (.ladd, 1) := by decide +kernel
theorem dX12_mend_158 : decode cX12_mend 158 = .ok (.putfield 168, 3) := by decide +kernel
theorem dX12_mend_161 : decode cX12_mend 161 = .ok (.iinc 1 1, 3) := by decide +kernel
theorem dX12_mend_164 : decode cX12_mend 164 = .ok (.goto (-162), 3) := by decide +kernel
theorem dX12_mend_167 : decode cX12_mend 167 = .ok (.return_, 1) := by decide +kernel
theorem dX12_subscribe_0 : decode cX12_subscribe 0 = .ok (.iload_n 3, 1) := by decide +kernel
theorem dX12_subscribe_1 : decode cX12_subscribe 1 = .ok (.bipush 20, 2) := by decide +kernel
theorem dX12_subscribe_3 : decode cX12_subscribe 3 = .ok (.sipush 9999, 3) := by decide +kernel
theorem dX12_subscribe_6 : decode cX12_subscribe 6 = .ok (.invokestatic 36, 3) := by decide +kernel
theorem dX12_subscribe_9 : decode cX12_subscribe 9 = .ok (.ifCond .eq 29, 3) := by decide +kernel
theorem dX12_subscribe_12 : decode cX12_subscribe 12 = .ok (.iload 4, 2) := by decide +kernel
theorem dX12_subscribe_14 : decode cX12_subscribe 14 = .ok (.iconst 0, 1) := by decide +kernel
theorem dX12_subscribe_15 : decode cX12_subscribe 15 = .ok (.bipush 23, 2) := by decide +kernel
theorem dX12_subscribe_17 : decode cX12_subscribe 17 = .ok (.invokestatic 36, 3) := by decide +kernel
theorem dX12_subscribe_20 : decode cX12_subscribe 20 = .ok (.ifCond .eq 18, 3) := by decide +kernel
theorem dX12_subscribe_23 : decode cX12_subscribe 23 = .ok (.iload 5, 2) := by decide +kernel
theorem dX12_subscribe_25 : decode cX12_subscribe 25 = .ok (.iconst 0, 1) := by decide +kernel
theorem dX12_subscribe_26 : decode cX12_subscribe 26 = .ok (.bipush 23, 2) := by decide +kernel
theorem dX12_subscribe_28 : decode cX12_subscribe 28 = .ok (.invokestatic 36, 3) := by decide +kernel
theorem dX12_subscribe_31 : decode cX12_subscribe 31 = .ok (.ifCond .eq 7, 3) := by decide +kernel
theorem dX12_subscribe_34 : decode cX12_subscribe 34 = .ok (.iconst 1, 1) := by decide +kernel
theorem dX12_subscribe_35 : decode cX12_subscribe 35 = .ok (.goto 4, 3) := by decide +kernel
theorem dX12_subscribe_38 : decode cX12_subscribe 38 = .ok (.iconst 0, 1) := by decide +kernel
theorem dX12_subscribe_39 : decode cX12_subscribe 39 = .ok (.istore 6, 2) := by decide +kernel
theorem dX12_subscribe_41 : decode cX12_subscribe 41 = .ok (.aload_n 0, 1) := by decide +kernel
theorem dX12_subscribe_42 : decode cX12_subscribe 42 = .ok (.iload_n 1, 1) := by decide +kernel
theorem dX12_subscribe_43 : decode cX12_subscribe 43 = .ok (.iload_n 2, 1) := by decide +kernel
theorem dX12_subscribe_44 : decode cX12_subscribe 44 = .ok (.invokestatic 40, 3) := by decide +kernel
theorem dX12_subscribe_47 : decode cX12_subscribe 47 = .ok (.ifCond .ne 7, 3) := by decide +kernel
theorem dX12_subscribe_50 : decode cX12_subscribe 50 = .ok (.iconst 1, 1) := by decide +kernel
theorem dX12_subscribe_51 : decode cX12_subscribe 51 = .ok (.goto 31, 3) := by decide +kernel
theorem dX12_subscribe_54 : decode cX12_subscribe 54 = .ok (.iload 6, 2) := by decide +kernel
theorem dX12_subscribe_56 : decode cX12_subscribe 56 = .ok (.ifCond .ne 7, 3) := by decide +kernel
theorem dX12_subscribe_59 : decode cX12_subscribe 59 = .ok (.iconst 2, 1) := by decide +kernel
theorem dX12_subscribe_60 : decode cX12_subscribe 60 = .ok (.goto 22, 3) := by decide +kernel
theorem dX12_subscribe_63 : decode cX12_subscribe 63 = .ok (.aload_n 0, 1) := by decide +kernel
theorem dX12_subscribe_64 : decode cX12_subscribe 64 = .ok (.getfield 23, 3) := by decide +kernel
theorem dX12_subscribe_67 : decode cX12_subscribe 67 = .ok (.invokeinterface 84 1, 5) := by decide +kernel
theorem dX12_subscribe_72 : decode cX12_subscribe 72 = .ok (.bipush 12, 2) := by decide +kernel
theorem dX12_subscribe_74 : decode cX12_subscribe 74 = .ok (.if_icmp .ne 7, 3) := by decide +kernel
theorem dX12_subscribe_77 : decode cX12_subscribe 77 = .ok (.iconst 3, 1) := by decide +kernel
theorem dX12_subscribe_78 : decode cX12_subscribe 78 = .ok (.goto 4, 3) := by decide +kernel
theorem dX12_subscribe_81 : decode cX12_subscribe 81 = .ok (.iconst 0, 1) := by decide +kernel
theorem dX12_subscribe_82 : decode cX12_subscribe 82 = .ok (.invokevirtual 44, 3) := by decide +kernel
theorem dX12_subscribe_85 : decode cX12_subscribe 85 = .ok (.ifCond .eq 5, 3) := by decide +kernel
theorem dX12_subscribe_88 : decode cX12_subscribe 88 = .ok (.iconst 0, 1) := by decide +kernel
theorem dX12_subscribe_89 : decode cX12_subscribe 89 = .ok (.ireturn, 1) := by decide +kernel
theorem dX12_subscribe_90 : decode cX12_subscribe 90 = .ok (.aload_n 0, 1) := by decide +kernel
theorem dX12_subscribe_91 : decode cX12_subscribe 91 = .ok (.getfield 23, 3) := by decide +kernel
theorem dX12_subscribe_94 : decode cX12_subscribe 94 = .ok (.new 172, 3) := by decide +kernel
theorem dX12_subscribe_97 : decode cX12_subscribe 97 = .ok (.dup, 1) := by decide +kernel
theorem dX12_subscribe_98 : decode cX12_subscribe 98 = .ok (.iload_n 1, 1) := by decide +kernel
theorem dX12_subscribe_99 : decode cX12_subscribe 99 = .ok (.iload_n 2, 1) := by decide +kernel
theorem dX12_subscribe_100 : decode cX12_subscribe 100 = .ok (.invokestatic 52, 3) := by decide +kernel
theorem dX12_subscribe_103 : decode cX12_subscribe 103 = .ok (.iload_n 3, 1) := by decide +kernel
theorem dX12_subscribe_104 : decode cX12_subscribe 104 = .ok (.iload 4, 2) := by decide +kernel
theorem dX12_subscribe_106 : decode cX12_subscribe 106 = .ok (.iload 5, 2) := by decide +kernel
theorem dX12_subscribe_108 : decode cX12_subscribe 108 = .ok (.invokespecial 174, 3) := by decide +kernel
theorem dX12_subscribe_111 : decode cX12_subscribe 111 = .ok (.invokeinterface 95 2, 5) := by decide +kernel
theorem dX12_subscribe_116 : decode cX12_subscribe 116 = .ok (.pop, 1) := by decide +kernel
theorem dX12_subscribe_117 : decode cX12_subscribe 117 = .ok (.aload_n 0, 1) := by decide +kernel
theorem dX12_subscribe_118 : decode cX12_subscribe 118 = .ok (.getfield 23, 3) := by decide +kernel
theorem dX12_subscribe_121 : decode cX12_subscribe 121 = .ok (.invokeinterface 84 1, 5) := by decide +kernel
theorem dX12_subscribe_126 : decode cX12_subscribe 126 = .ok (.iconst 1, 1) := by decide +kernel
theorem dX12_subscribe_127 : decode cX12_subscribe 127 = .ok (.isub, 1) := by decide +kernel
theorem dX12_subscribe_128 : decode cX12_subscribe 128 = .ok (.ireturn, 1) := by decide +kernel
theorem dX12_addSchool_0 : decode cX12_addSchool 0 = .ok (.aload_n 0, 1) := by decide +kernel
theorem dX12_addSchool_1 : decode cX12_addSchool 1 = .ok (.iload_n 1, 1) := by decide +kernel
theorem dX12_addSchool_2 : decode cX12_addSchool 2 = .ok (.iload_n 2, 1) := by decide +kernel
theorem dX12_addSchool_3 : decode cX12_addSchool 3 = .ok (.invokestatic 40, 3) := by decide +kernel
theorem dX12_addSchool_6 : decode cX12_addSchool 6 = .ok (.ifCond .ne 7, 3) := by decide +kernel
theorem dX12_addSchool_9 : decode cX12_addSchool 9 = .ok (.iconst 1, 1) := by decide +kernel
theorem dX12_addSchool_10 : decode cX12_addSchool 10 = .ok (.goto 38, 3) := by decide +kernel
theorem dX12_addSchool_13 : decode cX12_addSchool 13 = .ok (.iload_n 3, 1) := by decide +kernel
theorem dX12_addSchool_14 : decode cX12_addSchool 14 = .ok (.bipush 20, 2) := by decide +kernel
theorem dX12_addSchool_16 : decode cX12_addSchool 16 = .ok (.sipush 9999, 3) := by decide +kernel
theorem dX12_addSchool_19 : decode cX12_addSchool 19 = .ok (.invokestatic 36, 3) := by decide +kernel
theorem dX12_addSchool_22 : decode cX12_addSchool 22 = .ok (.ifCond .ne 7, 3) := by decide +kernel
theorem dX12_addSchool_25 : decode cX12_addSchool 25 = .ok (.iconst 2, 1) := by decide +kernel
theorem dX12_addSchool_26 : decode cX12_addSchool 26 = .ok (.goto 22, 3) := by decide +kernel
theorem dX12_addSchool_29 : decode cX12_addSchool 29 = .ok (.aload_n 0, 1) := by decide +kernel
theorem dX12_addSchool_30 : decode cX12_addSchool 30 = .ok (.getfield 26, 3) := by decide +kernel
theorem dX12_addSchool_33 : decode cX12_addSchool 33 = .ok (.invokeinterface 84 1, 5) := by decide +kernel
theorem dX12_addSchool_38 : decode cX12_addSchool 38 = .ok (.bipush 6, 2) := by decide +kernel
theorem dX12_addSchool_40 : decode cX12_addSchool 40 = .ok (.if_icmp .ne 7, 3) := by decide +kernel
theorem dX12_addSchool_43 : decode cX12_addSchool 43 = .ok (.iconst 3, 1) := by decide +kernel
theorem dX12_addSchool_44 : decode cX12_addSchool 44 = .ok (.goto 4, 3) := by decide +kernel
theorem dX12_addSchool_47 : decode cX12_addSchool 47 = .ok (.iconst 0, 1) := by decide +kernel
theorem dX12_addSchool_48 : decode cX12_addSchool 48 = .ok (.invokevirtual 44, 3) := by decide +kernel
theorem dX12_addSchool_51 : decode cX12_addSchool 51 = .ok (.ifCond .eq 5, 3) := by decide +kernel
theorem dX12_addSchool_54 : decode cX12_addSchool 54 = .ok (.iconst 0, 1) := by decide +kernel
theorem dX12_addSchool_55 : decode cX12_addSchool 55 = .ok (.ireturn, 1) := by decide +kernel
theorem dX12_addSchool_56 : decode cX12_addSchool 56 = .ok (.aload_n 0, 1) := by decide +kernel
theorem dX12_addSchool_57 : decode cX12_addSchool 57 = .ok (.getfield 26, 3) := by decide +kernel
theorem dX12_addSchool_60 : decode cX12_addSchool 60 = .ok (.new 177, 3) := by decide +kernel
theorem dX12_addSchool_63 : decode cX12_addSchool 63 = .ok (.dup, 1) := by decide +kernel
theorem dX12_addSchool_64 : decode cX12_addSchool 64 = .ok (.iload_n 1, 1) := by decide +kernel
theorem dX12_addSchool_65 : decode cX12_addSchool 65 = .ok (.iload_n 2, 1) := by decide +kernel
theorem dX12_addSchool_66 : decode cX12_addSchool 66 = .ok (.invokestatic 52, 3) := by decide +kernel
theorem dX12_addSchool_69 : decode cX12_addSchool 69 = .ok (.iload_n 3, 1) := by decide +kernel
theorem dX12_addSchool_70 : decode cX12_addSchool 70 = .ok (.invokespecial 179, 3) := by decide +kernel
theorem dX12_addSchool_73 : decode cX12_addSchool 73 = .ok (.invokeinterface 95 2, 5) := by decide +kernel
theorem dX12_addSchool_78 : decode cX12_addSchool 78 = .ok (.pop, 1) := by decide +kernel
theorem dX12_addSchool_79 : decode cX12_addSchool 79 = .ok (.aload_n 0, 1) := by decide +kernel
theorem dX12_addSchool_80 : decode cX12_addSchool 80 = .ok (.getfield 26, 3) := by decide +kernel
theorem dX12_addSchool_83 : decode cX12_addSchool 83 = .ok (.invokeinterface 84 1, 5) := by decide +kernel
theorem dX12_addSchool_88 : decode cX12_addSchool 88 = .ok (.iconst 1, 1) := by decide +kernel
theorem dX12_addSchool_89 : decode cX12_addSchool 89 = .ok (.isub, 1) := by decide +kernel
theorem dX12_addSchool_90 : decode cX12_addSchool 90 = .ok (.ireturn, 1) := by decide +kernel
theorem dX12_isOpen_0 : decode cX12_isOpen 0 = .ok (.aload_n 0, 1) := by decide +kernel
theorem dX12_isOpen_1 : decode cX12_isOpen 1 = .ok (.iload_n 1, 1) := by decide +kernel
theorem dX12_isOpen_2 : decode cX12_isOpen 2 = .ok (.iconst 0, 1) := by decide +kernel
theorem dX12_isOpen_3 : decode cX12_isOpen 3 = .ok (.aload_n 0, 1) := by decide +kernel
theorem dX12_isOpen_4 : decode cX12_isOpen 4 = .ok (.getfield 26, 3) := by decide +kernel
theorem dX12_isOpen_7 : decode cX12_isOpen 7 = .ok (.invokeinterface 84 1, 5) := by decide +kernel
theorem dX12_isOpen_12 : decode cX12_isOpen 12 = .ok (.iconst 1, 1) := by decide +kernel
theorem dX12_isOpen_13 : decode cX12_isOpen 13 = .ok (.isub, 1) := by decide +kernel
theorem dX12_isOpen_14 : decode cX12_isOpen 14 = .ok (.invokestatic 36, 3) := by decide +kernel
theorem dX12_isOpen_17 : decode cX12_isOpen 17 = .ok (.ifCond .eq 7, 3) := by decide +kernel
theorem dX12_isOpen_20 : decode cX12_isOpen 20 = .ok (.iconst 0, 1) := by decide +kernel
theorem dX12_isOpen_21 : decode cX12_isOpen 21 = .ok (.goto 4, 3) := by decide +kernel
theorem dX12_isOpen_24 : decode cX12_isOpen 24 = .ok (.iconst 1, 1) := by decide +kernel
theorem dX12_isOpen_25 : decode cX12_isOpen 25 = .ok (.invokevirtual 44, 3) := by decide +kernel
theorem dX12_isOpen_28 : decode cX12_isOpen 28 = .ok (.ifCond .ne 26, 3) := by decide +kernel
theorem dX12_isOpen_31 : decode cX12_isOpen 31 = .ok (.aload_n 0, 1) := by decide +kernel
theorem dX12_isOpen_32 : decode cX12_isOpen 32 = .ok (.getfield 26, 3) := by decide +kernel
theorem dX12_isOpen_35 : decode cX12_isOpen 35 = .ok (.iload_n 1, 1) := by decide +kernel
theorem dX12_isOpen_36 : decode cX12_isOpen 36 = .ok (.invokeinterface 102 2, 5) := by decide +kernel
theorem dX12_isOpen_41 : decode cX12_isOpen 41 = .ok (.checkcast 177, 3) := by decide +kernel
theorem dX12_isOpen_44 : decode cX12_isOpen 44 = .ok (.getfield 180, 3) := by decide +kernel
theorem dX12_isOpen_47 : decode cX12_isOpen 47 = .ok (.ifCond .ne 7, 3) := by decide +kernel
theorem dX12_isOpen_50 : decode cX12_isOpen 50 = .ok (.iconst 1, 1) := by decide +kernel
theorem dX12_isOpen_51 : decode cX12_isOpen 51 = .ok (.goto 4, 3) := by decide +kernel
theorem dX12_isOpen_54 : decode cX12_isOpen 54 = .ok (.iconst 0, 1) := by decide +kernel
theorem dX12_isOpen_55 : decode cX12_isOpen 55 = .ok (.ireturn, 1) := by decide +kernel
theorem dX12_isWarned_0 : decode cX12_isWarned 0 = .ok (.aload_n 0, 1) := by decide +kernel
theorem dX12_isWarned_1 : decode cX12_isWarned 1 = .ok (.iload_n 1, 1) := by decide +kernel
theorem dX12_isWarned_2 : decode cX12_isWarned 2 = .ok (.iconst 0, 1) := by decide +kernel
theorem dX12_isWarned_3 : decode cX12_isWarned 3 = .ok (.aload_n 0, 1) := by decide +kernel
theorem dX12_isWarned_4 : decode cX12_isWarned 4 = .ok (.getfield 23, 3) := by decide +kernel
theorem dX12_isWarned_7 : decode cX12_isWarned 7 = .ok (.invokeinterface 84 1, 5) := by decide +kernel
theorem dX12_isWarned_12 : decode cX12_isWarned 12 = .ok (.iconst 1, 1) := by decide +kernel
theorem dX12_isWarned_13 : decode cX12_isWarned 13 = .ok (.isub, 1) := by decide +kernel
theorem dX12_isWarned_14 : decode cX12_isWarned 14 = .ok (.invokestatic 36, 3) := by decide +kernel
theorem dX12_isWarned_17 : decode cX12_isWarned 17 = .ok (.ifCond .eq 7, 3) := by decide +kernel
theorem dX12_isWarned_20 : decode cX12_isWarned 20 = .ok (.iconst 0, 1) := by decide +kernel
theorem dX12_isWarned_21 : decode cX12_isWarned 21 = .ok (.goto 4, 3) := by decide +kernel
theorem dX12_isWarned_24 : decode cX12_isWarned 24 = .ok (.iconst 1, 1) := by decide +kernel
theorem dX12_isWarned_25 : decode cX12_isWarned 25 = .ok (.invokevirtual 44, 3) := by decide +kernel
theorem dX12_isWarned_28 : decode cX12_isWarned 28 = .ok (.ifCond .ne 26, 3) := by decide +kernel
theorem dX12_isWarned_31 : decode cX12_isWarned 31 = .ok (.aload_n 0, 1) := by decide +kernel
theorem dX12_isWarned_32 : decode cX12_isWarned 32 = .ok (.getfield 23, 3) := by decide +kernel
theorem dX12_isWarned_35 : decode cX12_isWarned 35 = .ok (.iload_n 1, 1) := by decide +kernel
theorem dX12_isWarned_36 : decode cX12_isWarned 36 = .ok (.invokeinterface 102 2, 5) := by decide +kernel
theorem dX12_isWarned_41 : decode cX12_isWarned 41 = .ok (.checkcast 172, 3) := by decide +kernel
theorem dX12_isWarned_44 : decode cX12_isWarned 44 = .ok (.getfield 183, 3) := by decide +kernel
theorem dX12_isWarned_47 : decode cX12_isWarned 47 = .ok (.ifCond .eq 7, 3) := by decide +kernel
theorem dX12_isWarned_50 : decode cX12_isWarned 50 = .ok (.iconst 1, 1) := by decide +kernel
theorem dX12_isWarned_51 : decode cX12_isWarned 51 = .ok (.goto 4, 3) := by decide +kernel
theorem dX12_isWarned_54 : decode cX12_isWarned 54 = .ok (.iconst 0, 1) := by decide +kernel
theorem dX12_isWarned_55 : decode cX12_isWarned 55 = .ok (.ireturn, 1) := by decide +kernel
theorem dX12_warn_0 : decode cX12_warn 0 = .ok (.iconst 0, 1) := by decide +kernel
theorem dX12_warn_1 : decode cX12_warn 1 = .ok (.istore_n 1, 1) := by decide +kernel
theorem dX12_warn_2 : decode cX12_warn 2 = .ok (.iload_n 1, 1) := by decide +kernel
theorem dX12_warn_3 : decode cX12_warn 3 = .ok (.aload_n 0, 1) := by decide +kernel
theorem dX12_warn_4 : decode cX12_warn 4 = .ok (.getfield 23, 3) := by decide +kernel
theorem dX12_warn_7 : decode cX12_warn 7 = .ok (.invokeinterface 84 1, 5) := by decide +kernel
theorem dX12_warn_12 : decode cX12_warn 12 = .ok (.if_icmp .ge 124, 3) := by decide +kernel
theorem dX12_warn_15 : decode cX12_warn 15 = .ok (.aload_n 0, 1) := by decide +kernel
theorem dX12_warn_16 : decode cX12_warn 16 = .ok (.getfield 23, 3) := by decide +kernel
theorem dX12_warn_19 : decode cX12_warn 19 = .ok (.iload_n 1, 1) := by decide +kernel
theorem dX12_warn_20 : decode cX12_warn 20 = .ok (.invokeinterface 102 2, 5) := by decide +kernel
theorem dX12_warn_25 : decode cX12_warn 25 = .ok (.checkcast 172, 3) := by decide +kernel
theorem dX12_warn_28 : decode cX12_warn 28 = .ok (.astore_n 2, 1) := by decide +kernel
theorem dX12_warn_29 : decode cX12_warn 29 = .ok (.aload_n 0, 1) := by decide +kernel
theorem dX12_warn_30 : decode cX12_warn 30 = .ok (.getfield 10, 3) := by decide +kernel
theorem dX12_warn_33 : decode cX12_warn 33 = .ok (.getfield 165, 3) := by decide +kernel
theorem dX12_warn_36 : decode cX12_warn 36 = .ok (.aload_n 2, 1) := by decide +kernel
theorem dX12_warn_37 : decode cX12_warn 37 = .ok (.getfield 186, 3) := by decide +kernel
theorem dX12_warn_40 : decode cX12_warn 40 = .ok (.iaload, 1) := by decide +kernel
theorem dX12_warn_41 : decode cX12_warn 41 = .ok (.istore_n 3, 1) := by decide +kernel
theorem dX12_warn_42 : decode cX12_warn 42 = .ok (.aload_n 2, 1) := by decide +kernel
theorem dX12_warn_43 : decode cX12_warn 43 = .ok (.getfield 183, 3) := by decide +kernel
theorem dX12_warn_46 : decode cX12_warn 46 = .ok (.ifCond .ne 61, 3) := by decide +kernel
theorem dX12_warn_49 : decode cX12_warn 49 = .ok (.iload_n 3, 1) := by decide +kernel
theorem dX12_warn_50 : decode cX12_warn 50 = .ok (.aload_n 2, 1) := by decide +kernel
theorem dX12_warn_51 : decode cX12_warn 51 = .ok (.getfield 188, 3) := by decide +kernel
theorem dX12_warn_54 : decode cX12_warn 54 = .ok (.if_icmp .lt 53, 3) := by decide +kernel
theorem dX12_warn_57 : decode cX12_warn 57 = .ok (.aload_n 2, 1) := by decide +kernel
theorem dX12_warn_58 : decode cX12_warn 58 = .ok (.aload_n 0, 1) := by decide +kernel
theorem dX12_warn_59 : decode cX12_warn 59 = .ok (.getfield 191, 3) := by decide +kernel
theorem dX12_warn_62 : decode cX12_warn 62 = .ok (.bipush 24, 2) := by decide +kernel
theorem dX12_warn_64 : decode cX12_warn 64 = .ok (.irem, 1) := by decide +kernel
theorem dX12_warn_65 : decode cX12_warn 65 = .ok (.invokevirtual 194, 3) := by decide +kernel
theorem dX12_warn_68 : decode cX12_warn 68 = .ok (.ifCond .eq 39, 3) := by decide +kernel
theorem dX12_warn_71 : decode cX12_warn 71 = .ok (.aload_n 2, 1) := by decide +kernel
theorem dX12_warn_72 : decode cX12_warn 72 = .ok (.iconst 1, 1) := by decide +kernel
theorem dX12_warn_73 : decode cX12_warn 73 = .ok (.putfield 183, 3) := by decide +kernel
theorem dX12_warn_76 : decode cX12_warn 76 = .ok (.aload_n 0, 1) := by decide +kernel
theorem dX12_warn_77 : decode cX12_warn 77 = .ok (.getfield 29, 3) := by decide +kernel
theorem dX12_warn_80 : decode cX12_warn 80 = .ok (.iconst 3, 1) := by decide +kernel
theorem dX12_warn_81 : decode cX12_warn 81 = .ok (.newarray .int, 2) := by decide +kernel
theorem dX12_warn_83 : decode cX12_warn 83 = .ok (.dup, 1) := by decide +kernel
theorem dX12_warn_84 : decode cX12_warn 84 = .ok (.iconst 0, 1) := by decide +kernel
theorem dX12_warn_85 : decode cX12_warn 85 = .ok (.aload_n 0, 1) := by decide +kernel
theorem dX12_warn_86 : decode cX12_warn 86 = .ok (.getfield 191, 3) := by decide +kernel
theorem dX12_warn_89 : decode cX12_warn 89 = .ok (.iastore, 1) := by decide +kernel
theorem dX12_warn_90 : decode cX12_warn 90 = .ok (.dup, 1) := by decide +kernel
theorem dX12_warn_91 : decode cX12_warn 91 = .ok (.iconst 1, 1) := by decide +kernel
theorem dX12_warn_92 : decode cX12_warn 92 = .ok (.iload_n 1, 1) := by decide +kernel
theorem dX12_warn_93 : decode cX12_warn 93 = .ok (.iastore, 1) := by decide +kernel
theorem dX12_warn_94 : decode cX12_warn 94 = .ok (.dup, 1) := by decide +kernel
theorem dX12_warn_95 : decode cX12_warn 95 = .ok (.iconst 2, 1) := by decide +kernel
theorem dX12_warn_96 : decode cX12_warn 96 = .ok (.iload_n 3, 1) := by decide +kernel
theorem dX12_warn_97 : decode cX12_warn 97 = .ok (.iastore, 1) := by decide +kernel
theorem dX12_warn_98 : decode cX12_warn 98 = .ok (.invokeinterface 95 2, 5) := by decide +kernel
theorem dX12_warn_103 : decode cX12_warn 103 = .ok (.pop, 1) := by decide +kernel
theorem dX12_warn_104 : decode cX12_warn 104 = .ok (.goto 26, 3) := by decide +kernel
theorem dX12_warn_107 : decode cX12_warn 107 = .ok (.aload_n 2, 1) := by decide +kernel
theorem dX12_warn_108 : decode cX12_warn 108 = .ok (.getfield 183, 3) := by decide +kernel
theorem dX12_warn_111 : decode cX12_warn 111 = .ok (.ifCond .eq 19, 3) := by decide +kernel
theorem dX12_warn_114 : decode cX12_warn 114 = .ok (.aload_n 2, 1) := by decide +kernel
theorem dX12_warn_115 : decode cX12_warn 115 = .ok (.getfield 188, 3) := by decide +kernel
theorem dX12_warn_118 : decode cX12_warn 118 = .ok (.iload_n 3, 1) := by decide +kernel
theorem dX12_warn_119 : decode cX12_warn 119 = .ok (.isub, 1) := by decide +kernel
theorem dX12_warn_120 : decode cX12_warn 120 = .ok (.bipush 10, 2) := by decide +kernel
theorem dX12_warn_122 : decode cX12_warn 122 = .ok (.if_icmp .le 8, 3) := by decide +kernel
theorem dX12_warn_125 : decode cX12_warn 125 = .ok (.aload_n 2, 1) := by decide +kernel
theorem dX12_warn_126 : decode cX12_warn 126 = .ok (.iconst 0, 1) := by decide +kernel
theorem dX12_warn_127 : decode cX12_warn 127 = .ok (.putfield 183, 3) := by decide +kernel
theorem dX12_warn_130 : decode cX12_warn 130 = .ok (.iinc 1 1, 3) := by decide +kernel
theorem dX12_warn_133 : decode cX12_warn 133 = .ok (.goto (-131), 3) := by decide +kernel
theorem dX12_warn_136 : decode cX12_warn 136 = .ok (.return_, 1) := by decide +kernel
theorem dX12_close_0 : decode cX12_close 0 = .ok (.aload_n 0, 1) := by decide +kernel
theorem dX12_close_1 : decode cX12_close 1 = .ok (.getfield 26, 3) := by decide +kernel
theorem dX12_close_4 : decode cX12_close 4 = .ok (.invokeinterface 109 1, 5) := by decide +kernel
theorem dX12_close_9 : decode cX12_close 9 = .ok (.astore_n 1, 1) := by decide +kernel
theorem dX12_close_10 : decode cX12_close 10 = .ok (.aload_n 1, 1) := by decide +kernel
theorem dX12_close_11 : decode cX12_close 11 = .ok (.invokeinterface 113 1, 5) := by decide +kernel
theorem dX12_close_16 : decode cX12_close 16 = .ok (.ifCond .eq 69, 3) := by decide +kernel
theorem dX12_close_19 : decode cX12_close 19 = .ok (.aload_n 1, 1) := by decide +kernel
theorem dX12_close_20 : decode cX12_close 20 = .ok (.invokeinterface 119 1, 5) := by decide +kernel
theorem dX12_close_25 : decode cX12_close 25 = .ok (.checkcast 177, 3) := by decide +kernel
theorem dX12_close_28 : decode cX12_close 28 = .ok (.astore_n 2, 1) := by decide +kernel
theorem dX12_close_29 : decode cX12_close 29 = .ok (.aload_n 0, 1) := by decide +kernel
theorem dX12_close_30 : decode cX12_close 30 = .ok (.aload_n 2, 1) := by decide +kernel
theorem dX12_close_31 : decode cX12_close 31 = .ok (.getfield 197, 3) := by decide +kernel
theorem dX12_close_34 : decode cX12_close 34 = .ok (.bipush 12, 2) := by decide +kernel
theorem dX12_close_36 : decode cX12_close 36 = .ok (.invokevirtual 198, 3) := by decide +kernel
theorem dX12_close_39 : decode cX12_close 39 = .ok (.aload_n 2, 1) := by decide +kernel
theorem dX12_close_40 : decode cX12_close 40 = .ok (.getfield 201, 3) := by decide +kernel
theorem dX12_close_43 : decode cX12_close 43 = .ok (.if_icmp .lt 7, 3) := by decide +kernel
theorem dX12_close_46 : decode cX12_close 46 = .ok (.iconst 1, 1) := by decide +kernel
theorem dX12_close_47 : decode cX12_close 47 = .ok (.goto 4, 3) := by decide +kernel
theorem dX12_close_50 : decode cX12_close 50 = .ok (.iconst 0, 1) := by decide +kernel
theorem dX12_close_51 : decode cX12_close 51 = .ok (.istore_n 3, 1) := by decide +kernel
theorem dX12_close_52 : decode cX12_close 52 = .ok (.aload_n 0, 1) := by decide +kernel
theorem dX12_close_53 : decode cX12_close 53 = .ok (.dup, 1) := by decide +kernel
theorem dX12_close_54 : decode cX12_close 54 = .ok (.getfield 202, 3) := by decide +kernel
theorem dX12_close_57 : decode cX12_close 57 = .ok (.iload_n 3, 1) := by decide +kernel
theorem dX12_close_58 : decode cX12_close 58 = .ok (.ifCond .eq 14, 3) := by decide +kernel
theorem dX12_close_61 : decode cX12_close 61 = .ok (.aload_n 2, 1) := by decide +kernel
theorem dX12_close_62 : decode cX12_close 62 = .ok (.getfield 180, 3) := by decide +kernel
theorem dX12_close_65 : decode cX12_close 65 = .ok (.ifCond .ne 7, 3) := by decide +kernel
theorem dX12_close_68 : decode cX12_close 68 = .ok (.iconst 1, 1) := by decide +kernel
theorem dX12_close_69 : decode cX12_close 69 = .ok (.goto 4, 3) := by decide +kernel
theorem dX12_close_72 : decode cX12_close 72 = .ok (.iconst 0, 1) := by decide +kernel
theorem dX12_close_73 : decode cX12_close 73 = .ok (.iadd, 1) := by decide +kernel
theorem dX12_close_74 : decode cX12_close 74 = .ok (.putfield 202, 3) := by decide +kernel
theorem dX12_close_77 : decode cX12_close 77 = .ok (.aload_n 2, 1) := by decide +kernel
theorem dX12_close_78 : decode cX12_close 78 = .ok (.iload_n 3, 1) := by decide +kernel
theorem dX12_close_79 : decode cX12_close 79 = .ok (.putfield 180, 3) := by decide +kernel
theorem dX12_close_82 : decode cX12_close 82 = .ok (.goto (-72), 3) := by decide +kernel
theorem dX12_close_85 : decode cX12_close 85 = .ok (.return_, 1) := by decide +kernel
theorem dX12_pass_0 : decode cX12_pass 0 = .ok (.aload_n 0, 1) := by decide +kernel
theorem dX12_pass_1 : decode cX12_pass 1 = .ok (.iload_n 1, 1) := by decide +kernel
theorem dX12_pass_2 : decode cX12_pass 2 = .ok (.iconst 1, 1) := by decide +kernel
theorem dX12_pass_3 : decode cX12_pass 3 = .ok (.bipush 24, 2) := by decide +kernel
theorem dX12_pass_5 : decode cX12_pass 5 = .ok (.invokestatic 36, 3) := by decide +kernel
theorem dX12_pass_8 : decode cX12_pass 8 = .ok (.ifCond .ne 7, 3) := by decide +kernel
theorem dX12_pass_11 : decode cX12_pass 11 = .ok (.iconst 1, 1) := by decide +kernel
theorem dX12_pass_12 : decode cX12_pass 12 = .ok (.goto 20, 3) := by decide +kernel
theorem dX12_pass_15 : decode cX12_pass 15 = .ok (.aload_n 0, 1) := by decide +kernel
theorem dX12_pass_16 : decode cX12_pass 16 = .ok (.getfield 191, 3) := by decide +kernel
theorem dX12_pass_19 : decode cX12_pass 19 = .ok (.iload_n 1, 1) := by decide +kernel
theorem dX12_pass_20 : decode cX12_pass 20 = .ok (.iadd, 1) := by decide +kernel
theorem dX12_pass_21 : decode cX12_pass 21 = .ok (.sipush 999, 3) := by decide +kernel
theorem dX12_pass_24 : decode cX12_pass 24 = .ok (.if_icmp .le 7, 3) := by decide +kernel
theorem dX12_pass_27 : decode cX12_pass 27 = .ok (.iconst 2, 1) := by decide +kernel
theorem dX12_pass_28 : decode cX12_pass 28 = .ok (.goto 4, 3) := by decide +kernel
theorem dX12_pass_31 : decode cX12_pass 31 = .ok (.iconst 0, 1) := by decide +kernel
theorem dX12_pass_32 : decode cX12_pass 32 = .ok (.invokevirtual 44, 3) := by decide +kernel
theorem dX12_pass_35 : decode cX12_pass 35 = .ok (.ifCond .eq 5, 3) := by decide +kernel
theorem dX12_pass_38 : decode cX12_pass 38 = .ok (.iconst 0, 1) := by decide +kernel
theorem dX12_pass_39 : decode cX12_pass 39 = .ok (.ireturn, 1) := by decide +kernel
theorem dX12_pass_40 : decode cX12_pass 40 = .ok (.iconst 0, 1) := by decide +kernel
theorem dX12_pass_41 : decode cX12_pass 41 = .ok (.istore_n 2, 1) := by decide +kernel
theorem dX12_pass_42 : decode cX12_pass 42 = .ok (.iload_n 2, 1) := by decide +kernel
theorem dX12_pass_43 : decode cX12_pass 43 = .ok (.iload_n 1, 1) := by decide +kernel
theorem dX12_pass_44 : decode cX12_pass 44 = .ok (.if_icmp .ge 93, 3) := by decide +kernel
theorem dX12_pass_47 : decode cX12_pass 47 = .ok (.aload_n 0, 1) := by decide +kernel
theorem dX12_pass_48 : decode cX12_pass 48 = .ok (.getfield 10, 3) := by decide +kernel
theorem dX12_pass_51 : decode cX12_pass 51 = .ok (.invokevirtual 205, 3) := by decide +kernel
theorem dX12_pass_54 : decode cX12_pass 54 = .ok (.aload_n 0, 1) := by decide +kernel
theorem dX12_pass_55 : decode cX12_pass 55 = .ok (.invokevirtual 207, 3) := by decide +kernel
theorem dX12_pass_58 : decode cX12_pass 58 = .ok (.aload_n 0, 1) := by decide +kernel
theorem dX12_pass_59 : decode cX12_pass 59 = .ok (.invokevirtual 209, 3) := by decide +kernel
theorem dX12_pass_62 : decode cX12_pass 62 = .ok (.aload_n 0, 1) := by decide +kernel
theorem dX12_pass_63 : decode cX12_pass 63 = .ok (.invokevirtual 212, 3) := by decide +kernel
theorem dX12_pass_66 : decode cX12_pass 66 = .ok (.aload_n 0, 1) := by decide +kernel
theorem dX12_pass_67 : decode cX12_pass 67 = .ok (.getfield 191, 3) := by decide +kernel
theorem dX12_pass_70 : decode cX12_pass 70 = .ok (.bipush 24, 2) := by decide +kernel
theorem dX12_pass_72 : decode cX12_pass 72 = .ok (.irem, 1) := by decide +kernel
theorem dX12_pass_73 : decode cX12_pass 73 = .ok (.bipush 23, 2) := by decide +kernel
theorem dX12_pass_75 : decode cX12_pass 75 = .ok (.if_icmp .ne 7, 3) := by decide +kernel
theorem dX12_pass_78 : decode cX12_pass 78 = .ok (.aload_n 0, 1) := by decide +kernel
theorem dX12_pass_79 : decode cX12_pass 79 = .ok (.invokevirtual 215, 3) := by decide +kernel
theorem dX12_pass_82 : decode cX12_pass 82 = .ok (.aload_n 0, 1) := by decide +kernel
theorem dX12_pass_83 : decode cX12_pass 83 = .ok (.dup, 1) := by decide +kernel
theorem dX12_pass_84 : decode cX12_pass 84 = .ok (.getfield 191, 3) := by decide +kernel
theorem dX12_pass_87 : decode cX12_pass 87 = .ok (.iconst 1, 1) := by decide +kernel
theorem dX12_pass_88 : decode cX12_pass 88 = .ok (.iadd, 1) := by decide +kernel
theorem dX12_pass_89 : decode cX12_pass 89 = .ok (.putfield 191, 3) := by decide +kernel
theorem dX12_pass_92 : decode cX12_pass 92 = .ok (.aload_n 0, 1) := by decide +kernel
theorem dX12_pass_93 : decode cX12_pass 93 = .ok (.getfield 19, 3) := by decide +kernel
theorem dX12_pass_96 : decode cX12_pass 96 = .ok (.invokeinterface 109 1, 5) := by decide +kernel
theorem dX12_pass_101 : decode cX12_pass 101 = .ok (.astore_n 3, 1) := by decide +kernel
theorem dX12_pass_102 : decode cX12_pass 102 = .ok (.aload_n 3, 1) := by decide +kernel
theorem dX12_pass_103 : decode cX12_pass 103 = .ok (.invokeinterface 113 1, 5) := by decide +kernel
theorem dX12_pass_108 : decode cX12_pass 108 = .ok (.ifCond .eq 23, 3) := by decide +kernel
theorem dX12_pass_111 : decode cX12_pass 111 = .ok (.aload_n 3, 1) := by decide +kernel
theorem dX12_pass_112 : decode cX12_pass 112 = .ok (.invokeinterface 119 1, 5) := by decide +kernel
theorem dX12_pass_117 : decode cX12_pass 117 = .ok (.checkcast 90, 3) := by decide +kernel
theorem dX12_pass_120 : decode cX12_pass 120 = .ok (.astore 4, 2) := by decide +kernel
theorem dX12_pass_122 : decode cX12_pass 122 = .ok (.aload 4, 2) := by decide +kernel
theorem dX12_pass_124 : decode cX12_pass 124 = .ok (.iconst (-1), 1) := by decide +kernel
theorem dX12_pass_125 : decode cX12_pass 125 = .ok (.putfield 106, 3) := by decide +kernel
theorem dX12_pass_128 : decode cX12_pass 128 = .ok (.goto (-26), 3) := by decide +kernel
theorem dX12_pass_131 : decode cX12_pass 131 = .ok (.iinc 2 1, 3) := by decide +kernel
theorem dX12_pass_134 : decode cX12_pass 134 = .ok (.goto (-92), 3) := by decide +kernel
theorem dX12_pass_137 : decode cX12_pass 137 = .ok (.aload_n 0, 1) := by decide +kernel
theorem dX12_pass_138 : decode cX12_pass 138 = .ok (.getfield 191, 3) := by decide +kernel
theorem dX12_pass_141 : decode cX12_pass 141 = .ok (.ireturn, 1) := by decide +kernel
theorem dX12_hour_0 : decode cX12_hour 0 = .ok (.aload_n 0, 1) := by decide +kernel
theorem dX12_hour_1 : decode cX12_hour 1 = .ok (.iconst 0, 1) := by decide +kernel
theorem dX12_hour_2 : decode cX12_hour 2 = .ok (.putfield 32, 3) := by decide +kernel
theorem dX12_hour_5 : decode cX12_hour 5 = .ok (.aload_n 0, 1) := by decide +kernel
theorem dX12_hour_6 : decode cX12_hour 6 = .ok (.getfield 191, 3) := by decide +kernel
theorem dX12_hour_9 : decode cX12_hour 9 = .ok (.ireturn, 1) := by decide +kernel
theorem dX12_isNoCell_0 : decode cX12_isNoCell 0 = .ok (.aload_n 0, 1) := by decide +kernel
theorem dX12_isNoCell_1 : decode cX12_isNoCell 1 = .ok (.iload_n 1, 1) := by decide +kernel
theorem dX12_isNoCell_2 : decode cX12_isNoCell 2 = .ok (.iload_n 2, 1) := by decide +kernel
theorem dX12_isNoCell_3 : decode cX12_isNoCell 3 = .ok (.invokestatic 40, 3) := by decide +kernel
theorem dX12_isNoCell_6 : decode cX12_isNoCell 6 = .ok (.ifCond .eq 7, 3) := by decide +kernel
theorem dX12_isNoCell_9 : decode cX12_isNoCell 9 = .ok (.iconst 0, 1) := by decide +kernel
theorem dX12_isNoCell_10 : decode cX12_isNoCell 10 = .ok (.goto 4, 3) := by decide +kernel
theorem dX12_isNoCell_13 : decode cX12_isNoCell 13 = .ok (.iconst 1, 1) := by decide +kernel
theorem dX12_isNoCell_14 : decode cX12_isNoCell 14 = .ok (.invokevirtual 44, 3) := by decide +kernel
theorem dX12_isNoCell_17 : decode cX12_isNoCell 17 = .ok (.ireturn, 1) := by decide +kernel
theorem dX12_fuel_0 : decode cX12_fuel 0 = .ok (.aload_n 0, 1) := by decide +kernel
theorem dX12_fuel_1 : decode cX12_fuel 1 = .ok (.iload_n 1, 1) := by decide +kernel
theorem dX12_fuel_2 : decode cX12_fuel 2 = .ok (.iload_n 2, 1) := by decide +kernel
theorem dX12_fuel_3 : decode cX12_fuel 3 = .ok (.invokevirtual 218, 3) := by decide +kernel
theorem dX12_fuel_6 : decode cX12_fuel 6 = .ok (.ifCond .eq 7, 3) := by decide +kernel
theorem dX12_fuel_9 : decode cX12_fuel 9 = .ok (.iconst 0, 1) := by decide +kernel
theorem dX12_fuel_10 : decode cX12_fuel 10 = .ok (.goto 16, 3) := by decide +kernel
theorem dX12_fuel_13 : decode cX12_fuel 13 = .ok (.aload_n 0, 1) := by decide +kernel
theorem dX12_fuel_14 : decode cX12_fuel 14 = .ok (.getfield 10, 3) := by decide +kernel
theorem dX12_fuel_17 : decode cX12_fuel 17 = .ok (.getfield 48, 3) := by decide +kernel
theorem dX12_fuel_20 : decode cX12_fuel 20 = .ok (.iload_n 1, 1) := by decide +kernel
theorem dX12_fuel_21 : decode cX12_fuel 21 = .ok (.iload_n 2, 1) := by decide +kernel
theorem dX12_fuel_22 : decode cX12_fuel 22 = .ok (.invokestatic 52, 3) := by decide +kernel
theorem dX12_fuel_25 : decode cX12_fuel 25 = .ok (.iaload, 1) := by decide +kernel
theorem dX12_fuel_26 : decode cX12_fuel 26 = .ok (.ireturn, 1) := by decide +kernel
theorem dX12_fire_0 : decode cX12_fire 0 = .ok (.aload_n 0, 1) := by decide +kernel
theorem dX12_fire_1 : decode cX12_fire 1 = .ok (.iload_n 1, 1) := by decide +kernel
theorem dX12_fire_2 : decode cX12_fire 2 = .ok (.iload_n 2, 1) := by decide +kernel
theorem dX12_fire_3 : decode cX12_fire 3 = .ok (.invokevirtual 218, 3) := by decide +kernel
theorem dX12_fire_6 : decode cX12_fire 6 = .ok (.ifCond .eq 7, 3) := by decide +kernel
theorem dX12_fire_9 : decode cX12_fire 9 = .ok (.iconst 0, 1) := by decide +kernel
theorem dX12_fire_10 : decode cX12_fire 10 = .ok (.goto 16, 3) := by decide +kernel
theorem dX12_fire_13 : decode cX12_fire 13 = .ok (.aload_n 0, 1) := by decide +kernel
theorem dX12_fire_14 : decode cX12_fire 14 = .ok (.getfield 10, 3) := by decide +kernel
theorem dX12_fire_17 : decode cX12_fire 17 = .ok (.getfield 60, 3) := by decide +kernel
theorem dX12_fire_20 : decode cX12_fire 20 = .ok (.iload_n 1, 1) := by decide +kernel
theorem dX12_fire_21 : decode cX12_fire 21 = .ok (.iload_n 2, 1) := by decide +kernel
theorem dX12_fire_22 : decode cX12_fire 22 = .ok (.invokestatic 52, 3) := by decide +kernel
theorem dX12_fire_25 : decode cX12_fire 25 = .ok (.iaload, 1) := by decide +kernel
theorem dX12_fire_26 : decode cX12_fire 26 = .ok (.ireturn, 1) := by decide +kernel
theorem dX12_smoke_0 : decode cX12_smoke 0 = .ok (.aload_n 0, 1) := by decide +kernel
theorem dX12_smoke_1 : decode cX12_smoke 1 = .ok (.iload_n 1, 1) := by decide +kernel
theorem dX12_smoke_2 : decode cX12_smoke 2 = .ok (.iload_n 2, 1) := by decide +kernel
theorem dX12_smoke_3 : decode cX12_smoke 3 = .ok (.invokevirtual 218, 3) := by decide +kernel
theorem dX12_smoke_6 : decode cX12_smoke 6 = .ok (.ifCond .eq 7, 3) := by decide +kernel
theorem dX12_smoke_9 : decode cX12_smoke 9 = .ok (.iconst 0, 1) := by decide +kernel
theorem dX12_smoke_10 : decode cX12_smoke 10 = .ok (.goto 16, 3) := by decide +kernel
theorem dX12_smoke_13 : decode cX12_smoke 13 = .ok (.aload_n 0, 1) := by decide +kernel
theorem dX12_smoke_14 : decode cX12_smoke 14 = .ok (.getfield 10, 3) := by decide +kernel
theorem dX12_smoke_17 : decode cX12_smoke 17 = .ok (.getfield 165, 3) := by decide +kernel
theorem dX12_smoke_20 : decode cX12_smoke 20 = .ok (.iload_n 1, 1) := by decide +kernel
theorem dX12_smoke_21 : decode cX12_smoke 21 = .ok (.iload_n 2, 1) := by decide +kernel
theorem dX12_smoke_22 : decode cX12_smoke 22 = .ok (.invokestatic 52, 3) := by decide +kernel
theorem dX12_smoke_25 : decode cX12_smoke 25 = .ok (.iaload, 1) := by decide +kernel
theorem dX12_smoke_26 : decode cX12_smoke 26 = .ok (.ireturn, 1) := by decide +kernel
theorem dX12_hasLine_0 : decode cX12_hasLine 0 = .ok (.aload_n 0, 1) := by decide +kernel
theorem dX12_hasLine_1 : decode cX12_hasLine 1 = .ok (.iload_n 1, 1) := by decide +kernel
theorem dX12_hasLine_2 : decode cX12_hasLine 2 = .ok (.iload_n 2, 1) := by decide +kernel
theorem dX12_hasLine_3 : decode cX12_hasLine 3 = .ok (.invokevirtual 218, 3) := by decide +kernel
theorem dX12_hasLine_6 : decode cX12_hasLine 6 = .ok (.ifCond .ne 23, 3) := by decide +kernel
theorem dX12_hasLine_9 : decode cX12_hasLine 9 = .ok (.aload_n 0, 1) := by decide +kernel
theorem dX12_hasLine_10 : decode cX12_hasLine 10 = .ok (.getfield 10, 3) := by decide +kernel
theorem dX12_hasLine_13 : decode cX12_hasLine 13 = .ok (.getfield 56, 3) := by decide +kernel
theorem dX12_hasLine_16 : decode cX12_hasLine 16 = .ok (.iload_n 1, 1) := by decide +kernel
theorem dX12_hasLine_17 : decode cX12_hasLine 17 = .ok (.iload_n 2, 1) := by decide +kernel
theorem dX12_hasLine_18 : decode cX12_hasLine 18 = .ok (.invokestatic 52, 3) := by decide +kernel
theorem dX12_hasLine_21 : decode cX12_hasLine 21 = .ok (.baload, 1) := by decide +kernel
theorem dX12_hasLine_22 : decode cX12_hasLine 22 = .ok (.ifCond .eq 7, 3) := by decide +kernel
theorem dX12_hasLine_25 : decode cX12_hasLine 25 = .ok (.iconst 1, 1) := by decide +kernel
theorem dX12_hasLine_26 : decode cX12_hasLine 26 = .ok (.goto 4, 3) := by decide +kernel
theorem dX12_hasLine_29 : decode cX12_hasLine 29 = .ok (.iconst 0, 1) := by decide +kernel
theorem dX12_hasLine_30 : decode cX12_hasLine 30 = .ok (.ireturn, 1) := by decide +kernel
theorem dX12_left_0 : decode cX12_left 0 = .ok (.aload_n 0, 1) := by decide +kernel
theorem dX12_left_1 : decode cX12_left 1 = .ok (.iload_n 1, 1) := by decide +kernel
theorem dX12_left_2 : decode cX12_left 2 = .ok (.invokestatic 75, 3) := by decide +kernel
theorem dX12_left_5 : decode cX12_left 5 = .ok (.ifCond .eq 7, 3) := by decide +kernel
theorem dX12_left_8 : decode cX12_left 8 = .ok (.iconst 0, 1) := by decide +kernel
theorem dX12_left_9 : decode cX12_left 9 = .ok (.goto 4, 3) := by decide +kernel
theorem dX12_left_12 : decode cX12_left 12 = .ok (.iconst 1, 1) := by decide +kernel
theorem dX12_left_13 : decode cX12_left 13 = .ok (.invokevirtual 44, 3) := by decide +kernel
theorem dX12_left_16 : decode cX12_left 16 = .ok (.ifCond .eq 7, 3) := by decide +kernel
theorem dX12_left_19 : decode cX12_left 19 = .ok (.iconst 0, 1) := by decide +kernel
theorem dX12_left_20 : decode cX12_left 20 = .ok (.goto 12, 3) := by decide +kernel
theorem dX12_left_23 : decode cX12_left 23 = .ok (.aload_n 0, 1) := by decide +kernel
theorem dX12_left_24 : decode cX12_left 24 = .ok (.getfield 10, 3) := by decide +kernel
theorem dX12_left_27 : decode cX12_left 27 = .ok (.getfield 81, 3) := by decide +kernel
theorem dX12_left_30 : decode cX12_left 30 = .ok (.iload_n 1, 1) := by decide +kernel
theorem dX12_left_31 : decode cX12_left 31 = .ok (.iaload, 1) := by decide +kernel
theorem dX12_left_32 : decode cX12_left 32 = .ok (.ireturn, 1) := by decide +kernel
theorem dX12_worstOf_0 : decode cX12_worstOf 0 = .ok (.new 7, 3) := by decide +kernel
theorem dX12_worstOf_3 : decode cX12_worstOf 3 = .ok (.dup, 1) := by decide +kernel
theorem dX12_worstOf_4 : decode cX12_worstOf 4 = .ok (.aload_n 0, 1) := by decide +kernel
theorem dX12_worstOf_5 : decode cX12_worstOf 5 = .ok (.getfield 10, 3) := by decide +kernel
theorem dX12_worstOf_8 : decode cX12_worstOf 8 = .ok (.invokespecial 221, 3) := by decide +kernel
theorem dX12_worstOf_11 : decode cX12_worstOf 11 = .ok (.astore_n 3, 1) := by decide +kernel
theorem dX12_worstOf_12 : decode cX12_worstOf 12 = .ok (.iconst 0, 1) := by decide +kernel
theorem dX12_worstOf_13 : decode cX12_worstOf 13 = .ok (.istore 4, 2) := by decide +kernel
theorem dX12_worstOf_15 : decode cX12_worstOf 15 = .ok (.iconst 0, 1) := by decide +kernel
theorem dX12_worstOf_16 : decode cX12_worstOf 16 = .ok (.istore 5, 2) := by decide +kernel
theorem dX12_worstOf_18 : decode cX12_worstOf 18 = .ok (.iload 5, 2) := by decide +kernel
theorem dX12_worstOf_20 : decode cX12_worstOf 20 = .ok (.iload_n 2, 1) := by decide +kernel
theorem dX12_worstOf_21 : decode cX12_worstOf 21 = .ok (.if_icmp .ge 26, 3) := by decide +kernel
theorem dX12_worstOf_24 : decode cX12_worstOf 24 = .ok (.aload_n 3, 1) := by decide +kernel
theorem dX12_worstOf_25 : decode cX12_worstOf 25 = .ok (.invokevirtual 205, 3) := by decide +kernel
theorem dX12_worstOf_28 : decode cX12_worstOf 28 = .ok (.iload 4, 2) := by decide +kernel
theorem dX12_worstOf_30 : decode cX12_worstOf 30 = .ok (.aload_n 3, 1) := by decide +kernel
theorem dX12_worstOf_31 : decode cX12_worstOf 31 = .ok (.getfield 165, 3) := by decide +kernel
theorem dX12_worstOf_34 : decode cX12_worstOf 34 = .ok (.iload_n 1, 1) := by decide +kernel
theorem dX12_worstOf_35 : decode cX12_worstOf 35 = .ok (.iaload, 1) := by decide +kernel
theorem dX12_worstOf_36 : decode cX12_worstOf 36 = .ok (.invokestatic 156, 3) := by decide +kernel
theorem dX12_worstOf_39 : decode cX12_worstOf 39 = .ok (.istore 4, 2) := by decide +kernel
theorem dX12_worstOf_41 : decode cX12_worstOf 41 = .ok (.iinc 5 1, 3) := by decide +kernel
theorem dX12_worstOf_44 : decode cX12_worstOf 44 = .ok (.goto (-26), 3) := by decide +kernel
theorem dX12_worstOf_47 : decode cX12_worstOf 47 = .ok (.iload 4, 2) := by decide +kernel
theorem dX12_worstOf_49 : decode cX12_worstOf 49 = .ok (.ireturn, 1) := by decide +kernel
theorem dX12_forecast_0 : decode cX12_forecast 0 = .ok (.aload_n 0, 1) := by decide +kernel
theorem dX12_forecast_1 : decode cX12_forecast 1 = .ok (.iload_n 1, 1) := by decide +kernel
theorem dX12_forecast_2 : decode cX12_forecast 2 = .ok (.iload_n 2, 1) := by decide +kernel
theorem dX12_forecast_3 : decode cX12_forecast 3 = .ok (.invokevirtual 218, 3) := by decide +kernel
theorem dX12_forecast_6 : decode cX12_forecast 6 = .ok (.ifCond .ne 25, 3) := by decide +kernel
theorem dX12_forecast_9 : decode cX12_forecast 9 = .ok (.aload_n 0, 1) := by decide +kernel
theorem dX12_forecast_10 : decode cX12_forecast 10 = .ok (.iload_n 3, 1) := by decide +kernel
theorem dX12_forecast_11 : decode cX12_forecast 11 = .ok (.iconst 1, 1) := by decide +kernel
theorem dX12_forecast_12 : decode cX12_forecast 12 = .ok (.bipush 12, 2) := by decide +kernel
theorem dX12_forecast_14 : decode cX12_forecast 14 = .ok (.invokestatic 36, 3) := by decide +kernel
theorem dX12_forecast_17 : decode cX12_forecast 17 = .ok (.ifCond .eq 7, 3) := by decide +kernel
theorem dX12_forecast_20 : decode cX12_forecast 20 = .ok (.iconst 0, 1) := by decide +kernel
theorem dX12_forecast_21 : decode cX12_forecast 21 = .ok (.goto 4, 3) := by decide +kernel
theorem dX12_forecast_24 : decode cX12_forecast 24 = .ok (.iconst 2, 1) := by decide +kernel
theorem dX12_forecast_25 : decode cX12_forecast 25 = .ok (.invokevirtual 44, 3) := by decide +kernel
theorem dX12_forecast_28 : decode cX12_forecast 28 = .ok (.ifCond .eq 5, 3) := by decide +kernel
theorem dX12_forecast_31 : decode cX12_forecast 31 = .ok (.iconst 0, 1) := by decide +kernel
theorem dX12_forecast_32 : decode cX12_forecast 32 = .ok (.ireturn, 1) := by decide +kernel
theorem dX12_forecast_33 : decode cX12_forecast 33 = .ok (.new 7, 3) := by decide +kernel
theorem dX12_forecast_36 : decode cX12_forecast 36 = .ok (.dup, 1) := by decide +kernel
theorem dX12_forecast_37 : decode cX12_forecast 37 = .ok (.aload_n 0, 1) := by decide +kernel
theorem dX12_forecast_38 : decode cX12_forecast 38 = .ok (.getfield 10, 3) := by decide +kernel
theorem dX12_forecast_41 : decode cX12_forecast 41 = .ok (.invokespecial 221, 3) := by decide +kernel
theorem dX12_forecast_44 : decode cX12_forecast 44 = .ok (.astore 4, 2) := by decide +kernel
theorem dX12_forecast_46 : decode cX12_forecast 46 = .ok (.iconst 0, 1) := by decide +kernel
theorem dX12_forecast_47 : decode cX12_forecast 47 = .ok (.istore 5, 2) := by decide +kernel
theorem dX12_forecast_49 : decode cX12_forecast 49 = .ok (.iload 5, 2) := by decide +kernel
theorem dX12_forecast_51 : decode cX12_forecast 51 = .ok (.iload_n 3, 1) := by decide +kernel
theorem dX12_forecast_52 : decode cX12_forecast 52 = .ok (.if_icmp .ge 14, 3) := by decide +kernel
theorem dX12_forecast_55 : decode cX12_forecast 55 = .ok (.aload 4, 2) := by decide +kernel
theorem dX12_forecast_57 : decode cX12_forecast 57 = .ok (.invokevirtual 205, 3) := by decide +kernel
theorem dX12_forecast_60 : decode cX12_forecast 60 = .ok (.iinc 5 1, 3) := by decide +kernel
theorem dX12_forecast_63 : decode cX12_forecast 63 = .ok (.goto (-14), 3) := by decide +kernel
theorem dX12_forecast_66 : decode cX12_forecast 66 = .ok (.aload 4, 2) := by decide +kernel
theorem dX12_forecast_68 : decode cX12_forecast 68 = .ok (.getfield 165, 3) := by decide +kernel
theorem dX12_forecast_71 : decode cX12_forecast 71 = .ok (.iload_n 1, 1) := by decide +kernel
theorem dX12_forecast_72 : decode cX12_forecast 72 = .ok (.iload_n 2, 1) := by decide +kernel
theorem dX12_forecast_73 : decode cX12_forecast 73 = .ok (.invokestatic 52, 3) := by decide +kernel
theorem dX12_forecast_76 : decode cX12_forecast 76 = .ok (.iaload, 1) := by decide +kernel
theorem dX12_forecast_77 : decode cX12_forecast 77 = .ok (.ireturn, 1) := by decide +kernel
theorem dX12_worst_0 : decode cX12_worst 0 = .ok (.aload_n 0, 1) := by decide +kernel
theorem dX12_worst_1 : decode cX12_worst 1 = .ok (.iload_n 1, 1) := by decide +kernel
theorem dX12_worst_2 : decode cX12_worst 2 = .ok (.iload_n 2, 1) := by decide +kernel
theorem dX12_worst_3 : decode cX12_worst 3 = .ok (.invokevirtual 218, 3) := by decide +kernel
theorem dX12_worst_6 : decode cX12_worst 6 = .ok (.ifCond .ne 25, 3) := by decide +kernel
theorem dX12_worst_9 : decode cX12_worst 9 = .ok (.aload_n 0, 1) := by decide +kernel
theorem dX12_worst_10 : decode cX12_worst 10 = .ok (.iload_n 3, 1) := by decide +kernel
theorem dX12_worst_11 : decode cX12_worst 11 = .ok (.iconst 1, 1) := by decide +kernel
theorem dX12_worst_12 : decode cX12_worst 12 = .ok (.bipush 12, 2) := by decide +kernel
theorem dX12_worst_14 : decode cX12_worst 14 = .ok (.invokestatic 36, 3) := by decide +kernel
theorem dX12_worst_17 : decode cX12_worst 17 = .ok (.ifCond .eq 7, 3) := by decide +kernel
theorem dX12_worst_20 : decode cX12_worst 20 = .ok (.iconst 0, 1) := by decide +kernel
theorem dX12_worst_21 : decode cX12_worst 21 = .ok (.goto 4, 3) := by decide +kernel
theorem dX12_worst_24 : decode cX12_worst 24 = .ok (.iconst 2, 1) := by decide +kernel
theorem dX12_worst_25 : decode cX12_worst 25 = .ok (.invokevirtual 44, 3) := by decide +kernel
theorem dX12_worst_28 : decode cX12_worst 28 = .ok (.ifCond .eq 7, 3) := by decide +kernel
theorem dX12_worst_31 : decode cX12_worst 31 = .ok (.iconst 0, 1) := by decide +kernel
theorem dX12_worst_32 : decode cX12_worst 32 = .ok (.goto 13, 3) := by decide +kernel
theorem dX12_worst_35 : decode cX12_worst 35 = .ok (.aload_n 0, 1) := by decide +kernel
theorem dX12_worst_36 : decode cX12_worst 36 = .ok (.iload_n 1, 1) := by decide +kernel
theorem dX12_worst_37 : decode cX12_worst 37 = .ok (.iload_n 2, 1) := by decide +kernel
theorem dX12_worst_38 : decode cX12_worst 38 = .ok (.invokestatic 52, 3) := by decide +kernel
theorem dX12_worst_41 : decode cX12_worst 41 = .ok (.iload_n 3, 1) := by decide +kernel
theorem dX12_worst_42 : decode cX12_worst 42 = .ok (.invokevirtual 198, 3) := by decide +kernel
theorem dX12_worst_45 : decode cX12_worst 45 = .ok (.ireturn, 1) := by decide +kernel
theorem dX12_warnings_0 : decode cX12_warnings 0 = .ok (.aload_n 0, 1) := by decide +kernel
theorem dX12_warnings_1 : decode cX12_warnings 1 = .ok (.iconst 0, 1) := by decide +kernel
theorem dX12_warnings_2 : decode cX12_warnings 2 = .ok (.putfield 32, 3) := by decide +kernel
theorem dX12_warnings_5 : decode cX12_warnings 5 = .ok (.aload_n 0, 1) := by decide +kernel
theorem dX12_warnings_6 : decode cX12_warnings 6 = .ok (.getfield 29, 3) := by decide +kernel
theorem dX12_warnings_9 : decode cX12_warnings 9 = .ok (.invokeinterface 84 1, 5) := by decide +kernel
theorem dX12_warnings_14 : decode cX12_warnings 14 = .ok (.ireturn, 1) := by decide +kernel
theorem dX12_warned_0 : decode cX12_warned 0 = .ok (.aload_n 0, 1) := by decide +kernel
theorem dX12_warned_1 : decode cX12_warned 1 = .ok (.iload_n 1, 1) := by decide +kernel
theorem dX12_warned_2 : decode cX12_warned 2 = .ok (.iconst 0, 1) := by decide +kernel
theorem dX12_warned_3 : decode cX12_warned 3 = .ok (.aload_n 0, 1) := by decide +kernel
theorem dX12_warned_4 : decode cX12_warned 4 = .ok (.getfield 29, 3) := by decide +kernel
theorem dX12_warned_7 : decode cX12_warned 7 = .ok (.invokeinterface 84 1, 5) := by decide +kernel
theorem dX12_warned_12 : decode cX12_warned 12 = .ok (.iconst 1, 1) := by decide +kernel
theorem dX12_warned_13 : decode cX12_warned 13 = .ok (.isub, 1) := by decide +kernel
theorem dX12_warned_14 : decode cX12_warned 14 = .ok (.invokestatic 36, 3) := by decide +kernel
theorem dX12_warned_17 : decode cX12_warned 17 = .ok (.ifCond .eq 7, 3) := by decide +kernel
theorem dX12_warned_20 : decode cX12_warned 20 = .ok (.iconst 0, 1) := by decide +kernel
theorem dX12_warned_21 : decode cX12_warned 21 = .ok (.goto 4, 3) := by decide +kernel
theorem dX12_warned_24 : decode cX12_warned 24 = .ok (.iconst 1, 1) := by decide +kernel
theorem dX12_warned_25 : decode cX12_warned 25 = .ok (.invokevirtual 44, 3) := by decide +kernel
theorem dX12_warned_28 : decode cX12_warned 28 = .ok (.ifCond .eq 7, 3) := by decide +kernel
theorem dX12_warned_31 : decode cX12_warned 31 = .ok (.iconst 0, 1) := by decide +kernel
theorem dX12_warned_32 : decode cX12_warned 32 = .ok (.goto 18, 3) := by decide +kernel
theorem dX12_warned_35 : decode cX12_warned 35 = .ok (.aload_n 0, 1) := by decide +kernel
theorem dX12_warned_36 : decode cX12_warned 36 = .ok (.getfield 29, 3) := by decide +kernel
theorem dX12_warned_39 : decode cX12_warned 39 = .ok (.iload_n 1, 1) := by decide +kernel
theorem dX12_warned_40 : decode cX12_warned 40 = .ok (.invokeinterface 102 2, 5) := by decide +kernel
theorem dX12_warned_45 : decode cX12_warned 45 = .ok (.checkcast 224, 3) := by decide +kernel
theorem dX12_warned_48 : decode cX12_warned 48 = .ok (.iload_n 2, 1) := by decide +kernel
theorem dX12_warned_49 : decode cX12_warned 49 = .ok (.iaload, 1) := by decide +kernel
theorem dX12_warned_50 : decode cX12_warned 50 = .ok (.ireturn, 1) := by decide +kernel
theorem dX12_warnedAt_0 : decode cX12_warnedAt 0 = .ok (.aload_n 0, 1) := by decide +kernel
theorem dX12_warnedAt_1 : decode cX12_warnedAt 1 = .ok (.iload_n 1, 1) := by decide +kernel
theorem dX12_warnedAt_2 : decode cX12_warnedAt 2 = .ok (.iconst 0, 1) := by decide +kernel
theorem dX12_warnedAt_3 : decode cX12_warnedAt 3 = .ok (.invokevirtual 225, 3) := by decide +kernel
theorem dX12_warnedAt_6 : decode cX12_warnedAt 6 = .ok (.ireturn, 1) := by decide +kernel
theorem dX12_warnedWhom_0 : decode cX12_warnedWhom 0 = .ok (.aload_n 0, 1) := by decide +kernel
theorem dX12_warnedWhom_1 : decode cX12_warnedWhom 1 = .ok (.iload_n 1, 1) := by decide +kernel
theorem dX12_warnedWhom_2 : decode cX12_warnedWhom 2 = .ok (.iconst 1, 1) := by decide +kernel
theorem dX12_warnedWhom_3 : decode cX12_warnedWhom 3 = .ok (.invokevirtual 225, 3) := by decide +kernel
theorem dX12_warnedWhom_6 : decode cX12_warnedWhom 6 = .ok (.ireturn, 1) := by decide +kernel
theorem dX12_warnedBy_0 : decode cX12_warnedBy 0 = .ok (.aload_n 0, 1) := by decide +kernel
theorem dX12_warnedBy_1 : decode cX12_warnedBy 1 = .ok (.iload_n 1, 1) := by decide +kernel
theorem dX12_warnedBy_2 : decode cX12_warnedBy 2 = .ok (.iconst 2, 1) := by decide +kernel
theorem dX12_warnedBy_3 : decode cX12_warnedBy 3 = .ok (.invokevirtual 225, 3) := by decide +kernel
theorem dX12_warnedBy_6 : decode cX12_warnedBy 6 = .ok (.ireturn, 1) := by decide +kernel
theorem dX12_closings_0 : decode cX12_closings 0 = .ok (.aload_n 0, 1) := by decide +kernel
theorem dX12_closings_1 : decode cX12_closings 1 = .ok (.iconst 0, 1) := by decide +kernel
theorem dX12_closings_2 : decode cX12_closings 2 = .ok (.putfield 32, 3) := by decide +kernel
theorem dX12_closings_5 : decode cX12_closings 5 = .ok (.aload_n 0, 1) := by decide +kernel
theorem dX12_closings_6 : decode cX12_closings 6 = .ok (.getfield 202, 3) := by decide +kernel
theorem dX12_closings_9 : decode cX12_closings 9 = .ok (.ireturn, 1) := by decide +kernel
theorem dX12_made_0 : decode cX12_made 0 = .ok (.aload_n 0, 1) := by decide +kernel
theorem dX12_made_1 : decode cX12_made 1 = .ok (.iconst 0, 1) := by decide +kernel
theorem dX12_made_2 : decode cX12_made 2 = .ok (.putfield 32, 3) := by decide +kernel
theorem dX12_made_5 : decode cX12_made 5 = .ok (.aload_n 0, 1) := by decide +kernel
theorem dX12_made_6 : decode cX12_made 6 = .ok (.getfield 10, 3) := by decide +kernel
theorem dX12_made_9 : decode cX12_made 9 = .ok (.getfield 228, 3) := by decide +kernel
theorem dX12_made_12 : decode cX12_made 12 = .ok (.lreturn, 1) := by decide +kernel
theorem dX12_blown_0 : decode cX12_blown 0 = .ok (.aload_n 0, 1) := by decide +kernel
theorem dX12_blown_1 : decode cX12_blown 1 = .ok (.iconst 0, 1) := by decide +kernel
theorem dX12_blown_2 : decode cX12_blown 2 = .ok (.putfield 32, 3) := by decide +kernel
theorem dX12_blown_5 : decode cX12_blown 5 = .ok (.aload_n 0, 1) := by decide +kernel
theorem dX12_blown_6 : decode cX12_blown 6 = .ok (.getfield 10, 3) := by decide +kernel
theorem dX12_blown_9 : decode cX12_blown 9 = .ok (.getfield 231, 3) := by decide +kernel
theorem dX12_blown_12 : decode cX12_blown 12 = .ok (.lreturn, 1) := by decide +kernel
theorem dX12_settled_0 : decode cX12_settled 0 = .ok (.aload_n 0, 1) := by decide +kernel
theorem dX12_settled_1 : decode cX12_settled 1 = .ok (.iconst 0, 1) := by decide +kernel
theorem dX12_settled_2 : decode cX12_settled 2 = .ok (.putfield 32, 3) := by decide +kernel
theorem dX12_settled_5 : decode cX12_settled 5 = .ok (.aload_n 0, 1) := by decide +kernel
theorem dX12_settled_6 : decode cX12_settled 6 = .ok (.getfield 10, 3) := by decide +kernel
theorem dX12_settled_9 : decode cX12_settled 9 = .ok (.getfield 234, 3) := by decide +kernel
theorem dX12_settled_12 : decode cX12_settled 12 = .ok (.lreturn, 1) := by decide +kernel
theorem dX12_mended_0 : decode cX12_mended 0 = .ok (.aload_n 0, 1) := by decide +kernel
theorem dX12_mended_1 : decode cX12_mended 1 = .ok (.iconst 0, 1) := by decide +kernel
theorem dX12_mended_2 : decode cX12_mended 2 = .ok (.putfield 32, 3) := by decide +kernel
theorem dX12_mended_5 : decode cX12_mended 5 = .ok (.aload_n 0, 1) := by decide +kernel
theorem dX12_mended_6 : decode cX12_mended 6 = .ok (.getfield 168, 3) := by decide +kernel
theorem dX12_mended_9 : decode cX12_mended 9 = .ok (.lreturn, 1) := by decide +kernel
theorem dX12_trustShare_0 : decode cX12_trustShare 0 = .ok (.iconst 0, 1) := by decide +kernel
theorem dX12_trustShare_1 : decode cX12_trustShare 1 = .ok (.istore_n 1, 1) := by decide +kernel
theorem dX12_trustShare_2 : decode cX12_trustShare 2 = .ok (.aload_n 0, 1) := by decide +kernel
theorem dX12_trustShare_3 : decode cX12_trustShare 3 = .ok (.getfield 19, 3) := by decide +kernel
theorem dX12_trustShare_6 : decode cX12_trustShare 6 = .ok (.invokeinterface 109 1, 5) := by decide +kernel
theorem dX12_trustShare_11 : decode cX12_trustShare 11 = .ok (.astore_n 2, 1) := by decide +kernel
theorem dX12_trustShare_12 : decode cX12_trustShare 12 = .ok (.aload_n 2, 1) := by decide +kernel
theorem dX12_trustShare_13 : decode cX12_trustShare 13 = .ok (.invokeinterface 113 1, 5) := by decide +kernel
theorem dX12_trustShare_18 : decode cX12_trustShare 18 = .ok (.ifCond .eq 31, 3) := by decide +kernel
theorem dX12_trustShare_21 : decode cX12_trustShare 21 = .ok (.aload_n 2, 1) := by decide +kernel
theorem dX12_trustShare_22 : decode cX12_trustShare 22 = .ok (.invokeinterface 119 1, 5) := by decide +kernel
theorem dX12_trustShare_27 : decode cX12_trustShare 27 = .ok (.checkcast 90, 3) := by decide +kernel
theorem dX12_trustShare_30 : decode cX12_trustShare 30 = .ok (.astore_n 3, 1) := by decide +kernel
theorem dX12_trustShare_31 : decode cX12_trustShare 31 = .ok (.iload_n 1, 1) := by decide +kernel
theorem dX12_trustShare_32 : decode cX12_trustShare 32 = .ok (.aload_n 3, 1) := by decide +kernel
theorem dX12_trustShare_33 : decode cX12_trustShare 33 = .ok (.getfield 129, 3) := by decide +kernel
theorem dX12_trustShare_36 : decode cX12_trustShare 36 = .ok (.ifCond .eq 7, 3) := by decide +kernel
theorem dX12_trustShare_39 : decode cX12_trustShare 39 = .ok (.iconst 0, 1) := by decide +kernel
theorem dX12_trustShare_40 : decode cX12_trustShare 40 = .ok (.goto 4, 3) := by decide +kernel
theorem dX12_trustShare_43 : decode cX12_trustShare 43 = .ok (.iconst 1, 1) := by decide +kernel
theorem dX12_trustShare_44 : decode cX12_trustShare 44 = .ok (.iadd, 1) := by decide +kernel
theorem dX12_trustShare_45 : decode cX12_trustShare 45 = .ok (.istore_n 1, 1) := by decide +kernel
theorem dX12_trustShare_46 : decode cX12_trustShare 46 = .ok (.goto (-34), 3) := by decide +kernel
theorem dX12_trustShare_49 : decode cX12_trustShare 49 = .ok (.aload_n 0, 1) := by decide +kernel
theorem dX12_trustShare_50 : decode cX12_trustShare 50 = .ok (.aload_n 0, 1) := by decide +kernel
theorem dX12_trustShare_51 : decode cX12_trustShare 51 = .ok (.getfield 19, 3) := by decide +kernel
theorem dX12_trustShare_54 : decode cX12_trustShare 54 = .ok (.invokeinterface 237 1, 5) := by decide +kernel
theorem dX12_trustShare_59 : decode cX12_trustShare 59 = .ok (.ifCond .eq 7, 3) := by decide +kernel
theorem dX12_trustShare_62 : decode cX12_trustShare 62 = .ok (.iconst 1, 1) := by decide +kernel
theorem dX12_trustShare_63 : decode cX12_trustShare 63 = .ok (.goto 4, 3) := by decide +kernel
theorem dX12_trustShare_66 : decode cX12_trustShare 66 = .ok (.iconst 0, 1) := by decide +kernel
theorem dX12_trustShare_67 : decode cX12_trustShare 67 = .ok (.invokevirtual 44, 3) := by decide +kernel
theorem dX12_trustShare_70 : decode cX12_trustShare 70 = .ok (.ifCond .eq 7, 3) := by decide +kernel
theorem dX12_trustShare_73 : decode cX12_trustShare 73 = .ok (.fconst 0, 1) := by decide +kernel
theorem dX12_trustShare_74 : decode cX12_trustShare 74 = .ok (.goto 16, 3) := by decide +kernel
theorem dX12_trustShare_77 : decode cX12_trustShare 77 = .ok (.iload_n 1, 1) := by decide +kernel
theorem dX12_trustShare_78 : decode cX12_trustShare 78 = .ok (.i2f, 1) := by decide +kernel
theorem dX12_trustShare_79 : decode cX12_trustShare 79 = .ok (.aload_n 0, 1) := by decide +kernel
theorem dX12_trustShare_80 : decode cX12_trustShare 80 = .ok (.getfield 19, 3) := by decide +kernel
theorem dX12_trustShare_83 : decode cX12_trustShare 83 = .ok (.invokeinterface 84 1, 5) := by decide +kernel
theorem dX12_trustShare_88 : decode cX12_trustShare 88 = .ok (.i2f, 1) := by decide +kernel
theorem dX12_trustShare_89 : decode cX12_trustShare 89 = .ok (.fdiv, 1) := by decide +kernel
theorem dX12_trustShare_90 : decode cX12_trustShare 90 = .ok (.freturn, 1) := by decide +kernel
theorem dX12_meanSmoke_0 : decode cX12_meanSmoke 0 = .ok (.aload_n 0, 1) := by decide +kernel
theorem dX12_meanSmoke_1 : decode cX12_meanSmoke 1 = .ok (.iconst 0, 1) := by decide +kernel
theorem dX12_meanSmoke_2 : decode cX12_meanSmoke 2 = .ok (.putfield 32, 3) := by decide +kernel
theorem dX12_meanSmoke_5 : decode cX12_meanSmoke 5 = .ok (.lconst 0, 1) := by decide +kernel
theorem dX12_meanSmoke_6 : decode cX12_meanSmoke 6 = .ok (.lstore_n 1, 1) := by decide +kernel
theorem dX12_meanSmoke_7 : decode cX12_meanSmoke 7 = .ok (.aload_n 0, 1) := by decide +kernel
theorem dX12_meanSmoke_8 : decode cX12_meanSmoke 8 = .ok (.getfield 10, 3) := by decide +kernel
theorem dX12_meanSmoke_11 : decode cX12_meanSmoke 11 = .ok (.getfield 165, 3) := by decide +kernel
theorem dX12_meanSmoke_14 : decode cX12_meanSmoke 14 = .ok (.astore_n 3, 1) := by decide +kernel
theorem dX12_meanSmoke_15 : decode cX12_meanSmoke 15 = .ok (.aload_n 3, 1) := by decide +kernel
theorem dX12_meanSmoke_16 : decode cX12_meanSmoke 16 = .ok (.arraylength, 1) := by decide +kernel
theorem dX12_meanSmoke_17 : decode cX12_meanSmoke 17 = .ok (.istore 4, 2) := by decide +kernel
theorem dX12_meanSmoke_19 : decode cX12_meanSmoke 19 = .ok (.iconst 0, 1) := by decide +kernel
theorem dX12_meanSmoke_20 : decode cX12_meanSmoke 20 = .ok (.istore 5, 2) := by decide +kernel
theorem dX12_meanSmoke_22 : decode cX12_meanSmoke 22 = .ok (.iload 5, 2) := by decide +kernel
theorem dX12_meanSmoke_24 : decode cX12_meanSmoke 24 = .ok (.iload 4, 2) := by decide +kernel
theorem dX12_meanSmoke_26 : decode cX12_meanSmoke 26 = .ok (.if_icmp .ge 21, 3) := by decide +kernel
theorem dX12_meanSmoke_29 : decode cX12_meanSmoke 29 = .ok (.aload_n 3, 1) := by decide +kernel
theorem dX12_meanSmoke_30 : decode cX12_meanSmoke 30 = .ok (.iload 5, 2) := by decide +kernel
theorem dX12_meanSmoke_32 : decode cX12_meanSmoke 32 = .ok (.iaload, 1) := by decide +kernel
theorem dX12_meanSmoke_33 : decode cX12_meanSmoke 33 = .ok (.istore 6, 2) := by decide +kernel
theorem dX12_meanSmoke_35 : decode cX12_meanSmoke 35 = .ok (.lload_n 1, 1) := by decide +kernel
theorem dX12_meanSmoke_36 : decode cX12_meanSmoke 36 = .ok (.iload 6, 2) := by decide +kernel
theorem dX12_meanSmoke_38 : decode cX12_meanSmoke 38 = .ok (.i2l, 1) := by decide +kernel
theorem dX12_meanSmoke_39 : decode cX12_meanSmoke 39 = .ok (.ladd, 1) := by decide +kernel
theorem dX12_meanSmoke_40 : decode cX12_meanSmoke 40 = .ok (.lstore_n 1, 1) := by decide +kernel
theorem dX12_meanSmoke_41 : decode cX12_meanSmoke 41 = .ok (.iinc 5 1, 3) := by decide +kernel
theorem dX12_meanSmoke_44 : decode cX12_meanSmoke 44 = .ok (.goto (-22), 3) := by decide +kernel
theorem dX12_meanSmoke_47 : decode cX12_meanSmoke 47 = .ok (.lload_n 1, 1) := by decide +kernel
theorem dX12_meanSmoke_48 : decode cX12_meanSmoke 48 = .ok (.l2d, 1) := by decide +kernel
theorem dX12_meanSmoke_49 : decode cX12_meanSmoke 49 = .ok (.ldc2_w 240, 3) := by decide +kernel
theorem dX12_meanSmoke_52 : decode cX12_meanSmoke 52 = .ok (.ddiv, 1) := by decide +kernel
theorem dX12_meanSmoke_53 : decode cX12_meanSmoke 53 = .ok (.dreturn, 1) := by decide +kernel
theorem dX12_isKept_0 : decode cX12_isKept 0 = .ok (.aload_n 0, 1) := by decide +kernel
theorem dX12_isKept_1 : decode cX12_isKept 1 = .ok (.iconst 0, 1) := by decide +kernel
theorem dX12_isKept_2 : decode cX12_isKept 2 = .ok (.putfield 32, 3) := by decide +kernel
theorem dX12_isKept_5 : decode cX12_isKept 5 = .ok (.iconst 1, 1) := by decide +kernel
theorem dX12_isKept_6 : decode cX12_isKept 6 = .ok (.ireturn, 1) := by decide +kernel
theorem dX12_isSame_0 : decode cX12_isSame 0 = .ok (.aload_n 0, 1) := by decide +kernel
theorem dX12_isSame_1 : decode cX12_isSame 1 = .ok (.iconst 0, 1) := by decide +kernel
theorem dX12_isSame_2 : decode cX12_isSame 2 = .ok (.putfield 32, 3) := by decide +kernel
theorem dX12_isSame_5 : decode cX12_isSame 5 = .ok (.iconst 1, 1) := by decide +kernel
theorem dX12_isSame_6 : decode cX12_isSame 6 = .ok (.ireturn, 1) := by decide +kernel
theorem dJx00060_init_a7421_0 : decode cJx00060_init_a7421 0 = .ok (.aload_n 0, 1) := by decide +kernel
theorem dJx00060_init_a7421_1 : decode cJx00060_init_a7421 1 = .ok (.aload_n 1, 1) := by decide +kernel
theorem dJx00060_init_a7421_2 : decode cJx00060_init_a7421 2 = .ok (.invokespecial 7, 3) := by decide +kernel
theorem dJx00060_init_a7421_5 : decode cJx00060_init_a7421 5 = .ok (.return_, 1) := by decide +kernel
theorem dJ9_abs_0f7a4_0 : decode cJ9_abs_0f7a4 0 = .ok (.iload_n 0, 1) := by decide +kernel
theorem dJ9_abs_0f7a4_1 : decode cJ9_abs_0f7a4 1 = .ok (.ifCond .ge 8, 3) := by decide +kernel
theorem dJ9_abs_0f7a4_4 : decode cJ9_abs_0f7a4 4 = .ok (.iload_n 0, 1) := by decide +kernel
theorem dJ9_abs_0f7a4_5 : decode cJ9_abs_0f7a4 5 = .ok (.ineg, 1) := by decide +kernel
theorem dJ9_abs_0f7a4_6 : decode cJ9_abs_0f7a4 6 = .ok (.goto 4, 3) := by decide +kernel
theorem dJ9_abs_0f7a4_9 : decode cJ9_abs_0f7a4 9 = .ok (.iload_n 0, 1) := by decide +kernel
theorem dJ9_abs_0f7a4_10 : decode cJ9_abs_0f7a4 10 = .ok (.ireturn, 1) := by decide +kernel
theorem dJ9_max_7cf53_0 : decode cJ9_max_7cf53 0 = .ok (.iload_n 0, 1) := by decide +kernel
theorem dJ9_max_7cf53_1 : decode cJ9_max_7cf53 1 = .ok (.iload_n 1, 1) := by decide +kernel
theorem dJ9_max_7cf53_2 : decode cJ9_max_7cf53 2 = .ok (.if_icmp .lt 7, 3) := by decide +kernel
theorem dJ9_max_7cf53_5 : decode cJ9_max_7cf53 5 = .ok (.iload_n 0, 1) := by decide +kernel
theorem dJ9_max_7cf53_6 : decode cJ9_max_7cf53 6 = .ok (.goto 4, 3) := by decide +kernel
theorem dJ9_max_7cf53_9 : decode cJ9_max_7cf53 9 = .ok (.iload_n 1, 1) := by decide +kernel
theorem dJ9_max_7cf53_10 : decode cJ9_max_7cf53 10 = .ok (.ireturn, 1) := by decide +kernel
theorem dJ9_min_7cf53_0 : decode cJ9_min_7cf53 0 = .ok (.iload_n 0, 1) := by decide +kernel
theorem dJ9_min_7cf53_1 : decode cJ9_min_7cf53 1 = .ok (.iload_n 1, 1) := by decide +kernel
theorem dJ9_min_7cf53_2 : decode cJ9_min_7cf53 2 = .ok (.if_icmp .gt 7, 3) := by decide +kernel
theorem dJ9_min_7cf53_5 : decode cJ9_min_7cf53 5 = .ok (.iload_n 0, 1) := by decide +kernel
theorem dJ9_min_7cf53_6 : decode cJ9_min_7cf53 6 = .ok (.goto 4, 3) := by decide +kernel
theorem dJ9_min_7cf53_9 : decode cJ9_min_7cf53 9 = .ok (.iload_n 1, 1) := by decide +kernel
theorem dJ9_min_7cf53_10 : decode cJ9_min_7cf53 10 = .ok (.ireturn, 1) := by decide +kernel
theorem dJxa1e45_init_da8c8_0 : decode cJxa1e45_init_da8c8 0 = .ok (.aload_n 0, 1) := by decide +kernel
theorem dJxa1e45_init_da8c8_1 : decode cJxa1e45_init_da8c8 1 = .ok (.invokespecial 1, 3) := by decide +kernel
theorem dJxa1e45_init_da8c8_4 : decode cJxa1e45_init_da8c8 4 = .ok (.return_, 1) := by decide +kernel
theorem dJxc12de_init_da8c8_0 : decode cJxc12de_init_da8c8 0 = .ok (.aload_n 0, 1) := by decide +kernel
theorem dJxc12de_init_da8c8_1 : decode cJxc12de_init_da8c8 1 = .ok (.invokespecial 1, 3) := by decide +kernel
theorem dJxc12de_init_da8c8_4 : decode cJxc12de_init_da8c8 4 = .ok (.aload_n 0, 1) := by decide +kernel
theorem dJxc12de_init_da8c8_5 : decode cJxc12de_init_da8c8 5 = .ok (.iconst 0, 1) := by decide +kernel
theorem dJxc12de_init_da8c8_6 : decode cJxc12de_init_da8c8 6 = .ok (.putfield 7, 3) := by decide +kernel
theorem dJxc12de_init_da8c8_9 : decode cJxc12de_init_da8c8 9 = .ok (.return_, 1) := by decide +kernel
theorem dJx35411_init_45d68_0 : decode cJx35411_init_45d68 0 = .ok (.aload_n 0, 1) := by decide +kernel
theorem dJx35411_init_45d68_1 : decode cJx35411_init_45d68 1 = .ok (.aload_n 1, 1) := by decide +kernel
theorem dJx35411_init_45d68_2 : decode cJx35411_init_45d68 2 = .ok (.putfield 1, 3) := by decide +kernel
theorem dJx35411_init_45d68_5 : decode cJx35411_init_45d68 5 = .ok (.aload_n 0, 1) := by decide +kernel
theorem dJx35411_init_45d68_6 : decode cJx35411_init_45d68 6 = .ok (.invokespecial 7, 3) := by decide +kernel
theorem dJx35411_init_45d68_9 : decode cJx35411_init_45d68 9 = .ok (.aload_n 0, 1) := by decide +kernel
theorem dJx35411_init_45d68_10 : decode cJx35411_init_45d68 10 = .ok (.iconst (-1), 1) := by decide +kernel
theorem dJx35411_init_45d68_11 : decode cJx35411_init_45d68 11 = .ok (.putfield 13, 3) := by decide +kernel
theorem dJx35411_init_45d68_14 : decode cJx35411_init_45d68 14 = .ok (.aload_n 0, 1) := by decide +kernel
theorem dJx35411_init_45d68_15 : decode cJx35411_init_45d68 15 = .ok (.aload_n 0, 1) := by decide +kernel
theorem dJx35411_init_45d68_16 : decode cJx35411_init_45d68 16 = .ok (.getfield 1, 3) := by decide +kernel
theorem dJx35411_init_45d68_19 : decode cJx35411_init_45d68 19 = .ok (.getfield 17, 3) := by decide +kernel
theorem dJx35411_init_45d68_22 : decode cJx35411_init_45d68 22 = .ok (.putfield 22, 3) := by decide +kernel
theorem dJx35411_init_45d68_25 : decode cJx35411_init_45d68 25 = .ok (.return_, 1) := by decide +kernel
theorem dJx35411_hasNext_aae02_0 : decode cJx35411_hasNext_aae02 0 = .ok (.aload_n 0, 1) := by decide +kernel
theorem dJx35411_hasNext_aae02_1 : decode cJx35411_hasNext_aae02 1 = .ok (.getfield 25, 3) := by decide +kernel
theorem dJx35411_hasNext_aae02_4 : decode cJx35411_hasNext_aae02 4 = .ok (.aload_n 0, 1) := by decide +kernel
theorem dJx35411_hasNext_aae02_5 : decode cJx35411_hasNext_aae02 5 = .ok (.getfield 1, 3) := by decide +kernel
theorem dJx35411_hasNext_aae02_8 : decode cJx35411_hasNext_aae02 8 = .ok (.getfield 28, 3) := by decide +kernel
theorem dJx35411_hasNext_aae02_11 : decode cJx35411_hasNext_aae02 11 = .ok (.if_icmp .eq 7, 3) := by decide +kernel
theorem dJx35411_hasNext_aae02_14 : decode cJx35411_hasNext_aae02 14 = .ok (.iconst 1, 1) := by decide +kernel
theorem dJx35411_hasNext_aae02_15 : decode cJx35411_hasNext_aae02 15 = .ok (.goto 4, 3) := by decide +kernel
theorem dJx35411_hasNext_aae02_18 : decode cJx35411_hasNext_aae02 18 = .ok (.iconst 0, 1) := by decide +kernel
theorem dJx35411_hasNext_aae02_19 : decode cJx35411_hasNext_aae02 19 = .ok (.ireturn, 1) := by decide +kernel
theorem dJx35411_next_0502b_0 : decode cJx35411_next_0502b 0 = .ok (.aload_n 0, 1) := by decide +kernel
theorem dJx35411_next_0502b_1 : decode cJx35411_next_0502b 1 = .ok (.invokevirtual 31, 3) := by decide +kernel
theorem dJx35411_next_0502b_4 : decode cJx35411_next_0502b 4 = .ok (.aload_n 0, 1) := by decide +kernel
theorem dJx35411_next_0502b_5 : decode cJx35411_next_0502b 5 = .ok (.getfield 25, 3) := by decide +kernel
theorem dJx35411_next_0502b_8 : decode cJx35411_next_0502b 8 = .ok (.istore_n 1, 1) := by decide +kernel
theorem dJx35411_next_0502b_9 : decode cJx35411_next_0502b 9 = .ok (.iload_n 1, 1) := by decide +kernel
theorem dJx35411_next_0502b_10 : decode cJx35411_next_0502b 10 = .ok (.aload_n 0, 1) := by decide +kernel
theorem dJx35411_next_0502b_11 : decode cJx35411_next_0502b 11 = .ok (.getfield 1, 3) := by decide +kernel
theorem dJx35411_next_0502b_14 : decode cJx35411_next_0502b 14 = .ok (.getfield 28, 3) := by decide +kernel
theorem dJx35411_next_0502b_17 : decode cJx35411_next_0502b 17 = .ok (.if_icmp .lt 11, 3) := by decide +kernel
theorem dJx35411_next_0502b_20 : decode cJx35411_next_0502b 20 = .ok (.new 34, 3) := by decide +kernel
theorem dJx35411_next_0502b_23 : decode cJx35411_next_0502b 23 = .ok (.dup, 1) := by decide +kernel
theorem dJx35411_next_0502b_24 : decode cJx35411_next_0502b 24 = .ok (.invokespecial 36, 3) := by decide +kernel
theorem dJx35411_next_0502b_27 : decode cJx35411_next_0502b 27 = .ok (.athrow, 1) := by decide +kernel
theorem dJx35411_next_0502b_28 : decode cJx35411_next_0502b 28 = .ok (.aload_n 0, 1) := by decide +kernel
theorem dJx35411_next_0502b_29 : decode cJx35411_next_0502b 29 = .ok (.getfield 1, 3) := by decide +kernel
theorem dJx35411_next_0502b_32 : decode cJx35411_next_0502b 32 = .ok (.getfield 37, 3) := by decide +kernel
theorem dJx35411_next_0502b_35 : decode cJx35411_next_0502b 35 = .ok (.astore_n 2, 1) := by decide +kernel
theorem dJx35411_next_0502b_36 : decode cJx35411_next_0502b 36 = .ok (.iload_n 1, 1) := by decide +kernel
theorem dJx35411_next_0502b_37 : decode cJx35411_next_0502b 37 = .ok (.aload_n 2, 1) := by decide +kernel
theorem dJx35411_next_0502b_38 : decode cJx35411_next_0502b 38 = .ok (.arraylength, 1) := by decide +kernel
theorem dJx35411_next_0502b_39 : decode cJx35411_next_0502b 39 = .ok (.if_icmp .lt 11, 3) := by decide +kernel
theorem dJx35411_next_0502b_42 : decode cJx35411_next_0502b 42 = .ok (.new 41, 3) := by decide +kernel
theorem dJx35411_next_0502b_45 : decode cJx35411_next_0502b 45 = .ok (.dup, 1) := by decide +kernel
theorem dJx35411_next_0502b_46 : decode cJx35411_next_0502b 46 = .ok (.invokespecial 43, 3) := by decide +kernel
theorem dJx35411_next_0502b_49 : decode cJx35411_next_0502b 49 = .ok (.athrow, 1) := by decide +kernel
theorem dJx35411_next_0502b_50 : decode cJx35411_next_0502b 50 = .ok (.aload_n 0, 1) := by decide +kernel
theorem dJx35411_next_0502b_51 : decode cJx35411_next_0502b 51 = .ok (.iload_n 1, 1) := by decide +kernel
theorem dJx35411_next_0502b_52 : decode cJx35411_next_0502b 52 = .ok (.iconst 1, 1) := by decide +kernel
theorem dJx35411_next_0502b_53 : decode cJx35411_next_0502b 53 = .ok (.iadd, 1) := by decide +kernel
theorem dJx35411_next_0502b_54 : decode cJx35411_next_0502b 54 = .ok (.putfield 25, 3) := by decide +kernel
theorem dJx35411_next_0502b_57 : decode cJx35411_next_0502b 57 = .ok (.aload_n 2, 1) := by decide +kernel
theorem dJx35411_next_0502b_58 : decode cJx35411_next_0502b 58 = .ok (.aload_n 0, 1) := by decide +kernel
theorem dJx35411_next_0502b_59 : decode cJx35411_next_0502b 59 = .ok (.iload_n 1, 1) := by decide +kernel
theorem dJx35411_next_0502b_60 : decode cJx35411_next_0502b 60 = .ok (.dup_x1, 1) := by decide +kernel
theorem dJx35411_next_0502b_61 : decode cJx35411_next_0502b 61 = .ok (.putfield 13, 3) := by decide +kernel
theorem dJx35411_next_0502b_64 : decode cJx35411_next_0502b 64 = .ok (.aaload, 1) := by decide +kernel
theorem dJx35411_next_0502b_65 : decode cJx35411_next_0502b 65 = .ok (.areturn, 1) := by decide +kernel
theorem dJx35411_checkForComodification_da8c8_0 : decode cJx35411_checkForComodification_da8c8 0 = .ok (.aload_n 0, 1) := by decide +kernel
theorem dJx35411_checkForComodification_da8c8_1 : decode cJx35411_checkForComodification_da8c8 1 = .ok (.getfield 1, 3) := by decide +kernel
theorem dJx35411_checkForComodification_da8c8_4 : decode cJx35411_checkForComodification_da8c8 4 = .ok (.getfield 17, 3) := by decide +kernel
theorem dJx35411_checkForComodification_da8c8_7 : decode cJx35411_checkForComodification_da8c8 7 = .ok (.aload_n 0, 1) := by decide +kernel
theorem dJx35411_checkForComodification_da8c8_8 : decode cJx35411_checkForComodification_da8c8 8 = .ok (.getfield 22, 3) := by decide +kernel
theorem dJx35411_checkForComodification_da8c8_11 : decode cJx35411_checkForComodification_da8c8 11 = .ok (.if_icmp .eq 11, 3) := by decide +kernel
theorem dJx35411_checkForComodification_da8c8_14 : decode cJx35411_checkForComodification_da8c8 14 = .ok (.new 41, 3) := by decide +kernel
theorem dJx35411_checkForComodification_da8c8_17 : decode cJx35411_checkForComodification_da8c8 17 = .ok (.dup, 1) := by decide +kernel
theorem dJx35411_checkForComodification_da8c8_18 : decode cJx35411_checkForComodification_da8c8 18 = .ok (.invokespecial 43, 3) := by decide +kernel
theorem dJx35411_checkForComodification_da8c8_21 : decode cJx35411_checkForComodification_da8c8 21 = .ok (.athrow, 1) := by decide +kernel
theorem dJx35411_checkForComodification_da8c8_22 : decode cJx35411_checkForComodification_da8c8 22 = .ok (.return_, 1) := by decide +kernel
theorem dJx4a65c_init_da8c8_0 : decode cJx4a65c_init_da8c8 0 = .ok (.aload_n 0, 1) := by decide +kernel
theorem dJx4a65c_init_da8c8_1 : decode cJx4a65c_init_da8c8 1 = .ok (.invokespecial 1, 3) := by decide +kernel
theorem dJx4a65c_init_da8c8_4 : decode cJx4a65c_init_da8c8 4 = .ok (.aload_n 0, 1) := by decide +kernel
theorem dJx4a65c_init_da8c8_5 : decode cJx4a65c_init_da8c8 5 = .ok (.getstatic 39, 3) := by decide +kernel
theorem dJx4a65c_init_da8c8_8 : decode cJx4a65c_init_da8c8 8 = .ok (.putfield 9, 3) := by decide +kernel
theorem dJx4a65c_init_da8c8_11 : decode cJx4a65c_init_da8c8 11 = .ok (.return_, 1) := by decide +kernel
theorem dJx4a65c_grow_92f84_0 : decode cJx4a65c_grow_92f84 0 = .ok (.aload_n 0, 1) := by decide +kernel
theorem dJx4a65c_grow_92f84_1 : decode cJx4a65c_grow_92f84 1 = .ok (.getfield 9, 3) := by decide +kernel
theorem dJx4a65c_grow_92f84_4 : decode cJx4a65c_grow_92f84 4 = .ok (.arraylength, 1) := by decide +kernel
theorem dJx4a65c_grow_92f84_5 : decode cJx4a65c_grow_92f84 5 = .ok (.istore_n 2, 1) := by decide +kernel
theorem dJx4a65c_grow_92f84_6 : decode cJx4a65c_grow_92f84 6 = .ok (.iload_n 2, 1) := by decide +kernel
theorem dJx4a65c_grow_92f84_7 : decode cJx4a65c_grow_92f84 7 = .ok (.ifCond .gt 13, 3) := by decide +kernel
theorem dJx4a65c_grow_92f84_10 : decode cJx4a65c_grow_92f84 10 = .ok (.aload_n 0, 1) := by decide +kernel
theorem dJx4a65c_grow_92f84_11 : decode cJx4a65c_grow_92f84 11 = .ok (.getfield 9, 3) := by decide +kernel
theorem dJx4a65c_grow_92f84_14 : decode cJx4a65c_grow_92f84 14 = .ok (.getstatic 39, 3) := by decide +kernel
theorem dJx4a65c_grow_92f84_17 : decode cJx4a65c_grow_92f84 17 = .ok (.if_acmp .eq 28, 3) := by decide +kernel
theorem dJx4a65c_grow_92f84_20 : decode cJx4a65c_grow_92f84 20 = .ok (.iload_n 2, 1) := by decide +kernel
theorem dJx4a65c_grow_92f84_21 : decode cJx4a65c_grow_92f84 21 = .ok (.iload_n 1, 1) := by decide +kernel
theorem dJx4a65c_grow_92f84_22 : decode cJx4a65c_grow_92f84 22 = .ok (.iload_n 2, 1) := by decide +kernel
theorem dJx4a65c_grow_92f84_23 : decode cJx4a65c_grow_92f84 23 = .ok (.isub, 1) := by decide +kernel
theorem dJx4a65c_grow_92f84_24 : decode cJx4a65c_grow_92f84 24 = .ok (.iload_n 2, 1) := by decide +kernel
theorem dJx4a65c_grow_92f84_25 : decode cJx4a65c_grow_92f84 25 = .ok (.iconst 1, 1) := by decide +kernel
theorem dJx4a65c_grow_92f84_26 : decode cJx4a65c_grow_92f84 26 = .ok (.ishr, 1) := by decide +kernel
theorem dJx4a65c_grow_92f84_27 : decode cJx4a65c_grow_92f84 27 = .ok (.invokestatic 73, 3) := by decide +kernel
theorem dJx4a65c_grow_92f84_30 : decode cJx4a65c_grow_92f84 30 = .ok (.istore_n 3, 1) := by decide +kernel
theorem dJx4a65c_grow_92f84_31 : decode cJx4a65c_grow_92f84 31 = .ok (.aload_n 0, 1) := by decide +kernel
theorem dJx4a65c_grow_92f84_32 : decode cJx4a65c_grow_92f84 32 = .ok (.aload_n 0, 1) := by decide +kernel
theorem dJx4a65c_grow_92f84_33 : decode cJx4a65c_grow_92f84 33 = .ok (.getfield 9, 3) := by decide +kernel
theorem dJx4a65c_grow_92f84_36 : decode cJx4a65c_grow_92f84 36 = .ok (.iload_n 3, 1) := by decide +kernel
theorem dJx4a65c_grow_92f84_37 : decode cJx4a65c_grow_92f84 37 = .ok (.invokestatic 66, 3) := by decide +kernel
theorem dJx4a65c_grow_92f84_40 : decode cJx4a65c_grow_92f84 40 = .ok (.dup_x1, 1) := by decide +kernel
theorem dJx4a65c_grow_92f84_41 : decode cJx4a65c_grow_92f84 41 = .ok (.putfield 9, 3) := by decide +kernel
theorem dJx4a65c_grow_92f84_44 : decode cJx4a65c_grow_92f84 44 = .ok (.areturn, 1) := by decide +kernel
theorem dJx4a65c_grow_92f84_45 : decode cJx4a65c_grow_92f84 45 = .ok (.aload_n 0, 1) := by decide +kernel
theorem dJx4a65c_grow_92f84_46 : decode cJx4a65c_grow_92f84 46 = .ok (.bipush 10, 2) := by decide +kernel
theorem dJx4a65c_grow_92f84_48 : decode cJx4a65c_grow_92f84 48 = .ok (.iload_n 1, 1) := by decide +kernel
theorem dJx4a65c_grow_92f84_49 : decode cJx4a65c_grow_92f84 49 = .ok (.invokestatic 79, 3) := by decide +kernel
theorem dJx4a65c_grow_92f84_52 : decode cJx4a65c_grow_92f84 52 = .ok (.anewarray 7, 3) := by decide +kernel
theorem dJx4a65c_grow_92f84_55 : decode cJx4a65c_grow_92f84 55 = .ok (.dup_x1, 1) := by decide +kernel
theorem dJx4a65c_grow_92f84_56 : decode cJx4a65c_grow_92f84 56 = .ok (.putfield 9, 3) := by decide +kernel
theorem dJx4a65c_grow_92f84_59 : decode cJx4a65c_grow_92f84 59 = .ok (.areturn, 1) := by decide +kernel
theorem dJx4a65c_grow_d5877_0 : decode cJx4a65c_grow_d5877 0 = .ok (.aload_n 0, 1) := by decide +kernel
theorem dJx4a65c_grow_d5877_1 : decode cJx4a65c_grow_d5877 1 = .ok (.aload_n 0, 1) := by decide +kernel
theorem dJx4a65c_grow_d5877_2 : decode cJx4a65c_grow_d5877 2 = .ok (.getfield 48, 3) := by decide +kernel
theorem dJx4a65c_grow_d5877_5 : decode cJx4a65c_grow_d5877 5 = .ok (.iconst 1, 1) := by decide +kernel
theorem dJx4a65c_grow_d5877_6 : decode cJx4a65c_grow_d5877 6 = .ok (.iadd, 1) := by decide +kernel
theorem dJx4a65c_grow_d5877_7 : decode cJx4a65c_grow_d5877 7 = .ok (.invokevirtual 69, 3) := by decide +kernel
theorem dJx4a65c_grow_d5877_10 : decode cJx4a65c_grow_d5877 10 = .ok (.areturn, 1) := by decide +kernel
theorem dJx4a65c_size_8abf5_0 : decode cJx4a65c_size_8abf5 0 = .ok (.aload_n 0, 1) := by decide +kernel
theorem dJx4a65c_size_8abf5_1 : decode cJx4a65c_size_8abf5 1 = .ok (.getfield 48, 3) := by decide +kernel
theorem dJx4a65c_size_8abf5_4 : decode cJx4a65c_size_8abf5 4 = .ok (.ireturn, 1) := by decide +kernel
theorem dJx4a65c_isEmpty_aae02_0 : decode cJx4a65c_isEmpty_aae02 0 = .ok (.aload_n 0, 1) := by decide +kernel
theorem dJx4a65c_isEmpty_aae02_1 : decode cJx4a65c_isEmpty_aae02 1 = .ok (.getfield 48, 3) := by decide +kernel
theorem dJx4a65c_isEmpty_aae02_4 : decode cJx4a65c_isEmpty_aae02 4 = .ok (.ifCond .ne 7, 3) := by decide +kernel
theorem dJx4a65c_isEmpty_aae02_7 : decode cJx4a65c_isEmpty_aae02 7 = .ok (.iconst 1, 1) := by decide +kernel
theorem dJx4a65c_isEmpty_aae02_8 : decode cJx4a65c_isEmpty_aae02 8 = .ok (.goto 4, 3) := by decide +kernel
theorem dJx4a65c_isEmpty_aae02_11 : decode cJx4a65c_isEmpty_aae02 11 = .ok (.iconst 0, 1) := by decide +kernel
theorem dJx4a65c_isEmpty_aae02_12 : decode cJx4a65c_isEmpty_aae02 12 = .ok (.ireturn, 1) := by decide +kernel
theorem dJx4a65c_elementData_915e3_0 : decode cJx4a65c_elementData_915e3 0 = .ok (.aload_n 0, 1) := by decide +kernel
theorem dJx4a65c_elementData_915e3_1 : decode cJx4a65c_elementData_915e3 1 = .ok (.getfield 9, 3) := by decide +kernel
theorem dJx4a65c_elementData_915e3_4 : decode cJx4a65c_elementData_915e3 4 = .ok (.iload_n 1, 1) := by decide +kernel
theorem dJx4a65c_elementData_915e3_5 : decode cJx4a65c_elementData_915e3 5 = .ok (.aaload, 1) := by decide +kernel
theorem dJx4a65c_elementData_915e3_6 : decode cJx4a65c_elementData_915e3 6 = .ok (.areturn, 1) := by decide +kernel
theorem dJx4a65c_get_915e3_0 : decode cJx4a65c_get_915e3 0 = .ok (.iload_n 1, 1) := by decide +kernel
theorem dJx4a65c_get_915e3_1 : decode cJx4a65c_get_915e3 1 = .ok (.aload_n 0, 1) := by decide +kernel
theorem dJx4a65c_get_915e3_2 : decode cJx4a65c_get_915e3 2 = .ok (.getfield 48, 3) := by decide +kernel
theorem dJx4a65c_get_915e3_5 : decode cJx4a65c_get_915e3 5 = .ok (.invokestatic 118, 3) := by decide +kernel
theorem dJx4a65c_get_915e3_8 : decode cJx4a65c_get_915e3 8 = .ok (.pop, 1) := by decide +kernel
theorem dJx4a65c_get_915e3_9 : decode cJx4a65c_get_915e3 9 = .ok (.aload_n 0, 1) := by decide +kernel
theorem dJx4a65c_get_915e3_10 : decode cJx4a65c_get_915e3 10 = .ok (.iload_n 1, 1) := by decide +kernel
theorem dJx4a65c_get_915e3_11 : decode cJx4a65c_get_915e3 11 = .ok (.invokevirtual 123, 3) := by decide +kernel
theorem dJx4a65c_get_915e3_14 : decode cJx4a65c_get_915e3 14 = .ok (.areturn, 1) := by decide +kernel
theorem dJx4a65c_add_72be8_0 : decode cJx4a65c_add_72be8 0 = .ok (.iload_n 3, 1) := by decide +kernel
theorem dJx4a65c_add_72be8_1 : decode cJx4a65c_add_72be8 1 = .ok (.aload_n 2, 1) := by decide +kernel
theorem dJx4a65c_add_72be8_2 : decode cJx4a65c_add_72be8 2 = .ok (.arraylength, 1) := by decide +kernel
theorem dJx4a65c_add_72be8_3 : decode cJx4a65c_add_72be8 3 = .ok (.if_icmp .ne 8, 3) := by decide +kernel
theorem dJx4a65c_add_72be8_6 : decode cJx4a65c_add_72be8 6 = .ok (.aload_n 0, 1) := by decide +kernel
theorem dJx4a65c_add_72be8_7 : decode cJx4a65c_add_72be8 7 = .ok (.invokevirtual 129, 3) := by decide +kernel
theorem dJx4a65c_add_72be8_10 : decode cJx4a65c_add_72be8 10 = .ok (.astore_n 2, 1) := by decide +kernel
theorem dJx4a65c_add_72be8_11 : decode cJx4a65c_add_72be8 11 = .ok (.aload_n 2, 1) := by decide +kernel
theorem dJx4a65c_add_72be8_12 : decode cJx4a65c_add_72be8 12 = .ok (.iload_n 3, 1) := by decide +kernel
theorem dJx4a65c_add_72be8_13 : decode cJx4a65c_add_72be8 13 = .ok (.aload_n 1, 1) := by decide +kernel
theorem dJx4a65c_add_72be8_14 : decode cJx4a65c_add_72be8 14 = .ok (.aastore, 1) := by decide +kernel
theorem dJx4a65c_add_72be8_15 : decode cJx4a65c_add_72be8 15 = .ok (.aload_n 0, 1) := by decide +kernel
theorem dJx4a65c_add_72be8_16 : decode cJx4a65c_add_72be8 16 = .ok (.iload_n 3, 1) := by decide +kernel
theorem dJx4a65c_add_72be8_17 : decode cJx4a65c_add_72be8 17 = .ok (.iconst 1, 1) := by decide +kernel
theorem dJx4a65c_add_72be8_18 : decode cJx4a65c_add_72be8 18 = .ok (.iadd, 1) := by decide +kernel
theorem dJx4a65c_add_72be8_19 : decode cJx4a65c_add_72be8 19 = .ok (.putfield 48, 3) := by decide +kernel
theorem dJx4a65c_add_72be8_22 : decode cJx4a65c_add_72be8 22 = .ok (.return_, 1) := by decide +kernel
theorem dJx4a65c_add_9ea2d_0 : decode cJx4a65c_add_9ea2d 0 = .ok (.aload_n 0, 1) := by decide +kernel
theorem dJx4a65c_add_9ea2d_1 : decode cJx4a65c_add_9ea2d 1 = .ok (.dup, 1) := by decide +kernel
theorem dJx4a65c_add_9ea2d_2 : decode cJx4a65c_add_9ea2d 2 = .ok (.getfield 63, 3) := by decide +kernel
theorem dJx4a65c_add_9ea2d_5 : decode cJx4a65c_add_9ea2d 5 = .ok (.iconst 1, 1) := by decide +kernel
theorem dJx4a65c_add_9ea2d_6 : decode cJx4a65c_add_9ea2d 6 = .ok (.iadd, 1) := by decide +kernel
theorem dJx4a65c_add_9ea2d_7 : decode cJx4a65c_add_9ea2d 7 = .ok (.putfield 63, 3) := by decide +kernel
theorem dJx4a65c_add_9ea2d_10 : decode cJx4a65c_add_9ea2d 10 = .ok (.aload_n 0, 1) := by decide +kernel
theorem dJx4a65c_add_9ea2d_11 : decode cJx4a65c_add_9ea2d 11 = .ok (.aload_n 1, 1) := by decide +kernel
theorem dJx4a65c_add_9ea2d_12 : decode cJx4a65c_add_9ea2d 12 = .ok (.aload_n 0, 1) := by decide +kernel
theorem dJx4a65c_add_9ea2d_13 : decode cJx4a65c_add_9ea2d 13 = .ok (.getfield 9, 3) := by decide +kernel
theorem dJx4a65c_add_9ea2d_16 : decode cJx4a65c_add_9ea2d 16 = .ok (.aload_n 0, 1) := by decide +kernel
theorem dJx4a65c_add_9ea2d_17 : decode cJx4a65c_add_9ea2d 17 = .ok (.getfield 48, 3) := by decide +kernel
theorem dJx4a65c_add_9ea2d_20 : decode cJx4a65c_add_9ea2d 20 = .ok (.invokevirtual 131, 3) := by decide +kernel
theorem dJx4a65c_add_9ea2d_23 : decode cJx4a65c_add_9ea2d 23 = .ok (.iconst 1, 1) := by decide +kernel
theorem dJx4a65c_add_9ea2d_24 : decode cJx4a65c_add_9ea2d 24 = .ok (.ireturn, 1) := by decide +kernel
theorem dJx4a65c_iterator_32c93_0 : decode cJx4a65c_iterator_32c93 0 = .ok (.new 267, 3) := by decide +kernel
theorem dJx4a65c_iterator_32c93_3 : decode cJx4a65c_iterator_32c93 3 = .ok (.dup, 1) := by decide +kernel
theorem dJx4a65c_iterator_32c93_4 : decode cJx4a65c_iterator_32c93 4 = .ok (.aload_n 0, 1) := by decide +kernel
theorem dJx4a65c_iterator_32c93_5 : decode cJx4a65c_iterator_32c93 5 = .ok (.invokespecial 269, 3) := by decide +kernel
theorem dJx4a65c_iterator_32c93_8 : decode cJx4a65c_iterator_32c93 8 = .ok (.areturn, 1) := by decide +kernel
theorem dJ7_fill_53178_0 : decode cJ7_fill_53178 0 = .ok (.iconst 0, 1) := by decide +kernel
theorem dJ7_fill_53178_1 : decode cJ7_fill_53178 1 = .ok (.istore_n 2, 1) := by decide +kernel
theorem dJ7_fill_53178_2 : decode cJ7_fill_53178 2 = .ok (.aload_n 0, 1) := by decide +kernel
theorem dJ7_fill_53178_3 : decode cJ7_fill_53178 3 = .ok (.arraylength, 1) := by decide +kernel
theorem dJ7_fill_53178_4 : decode cJ7_fill_53178 4 = .ok (.istore_n 3, 1) := by decide +kernel
theorem dJ7_fill_53178_5 : decode cJ7_fill_53178 5 = .ok (.iload_n 2, 1) := by decide +kernel
theorem dJ7_fill_53178_6 : decode cJ7_fill_53178 6 = .ok (.iload_n 3, 1) := by decide +kernel
theorem dJ7_fill_53178_7 : decode cJ7_fill_53178 7 = .ok (.if_icmp .ge 13, 3) := by decide +kernel
theorem dJ7_fill_53178_10 : decode cJ7_fill_53178 10 = .ok (.aload_n 0, 1) := by decide +kernel
theorem dJ7_fill_53178_11 : decode cJ7_fill_53178 11 = .ok (.iload_n 2, 1) := by decide +kernel
theorem dJ7_fill_53178_12 : decode cJ7_fill_53178 12 = .ok (.iload_n 1, 1) := by decide +kernel
theorem dJ7_fill_53178_13 : decode cJ7_fill_53178 13 = .ok (.iastore, 1) := by decide +kernel
theorem dJ7_fill_53178_14 : decode cJ7_fill_53178 14 = .ok (.iinc 2 1, 3) := by decide +kernel
theorem dJ7_fill_53178_17 : decode cJ7_fill_53178 17 = .ok (.goto (-12), 3) := by decide +kernel
theorem dJ7_fill_53178_20 : decode cJ7_fill_53178 20 = .ok (.return_, 1) := by decide +kernel
theorem dJ7_copyOf_1904c_0 : decode cJ7_copyOf_1904c 0 = .ok (.aload_n 0, 1) := by decide +kernel
theorem dJ7_copyOf_1904c_1 : decode cJ7_copyOf_1904c 1 = .ok (.iload_n 1, 1) := by decide +kernel
theorem dJ7_copyOf_1904c_2 : decode cJ7_copyOf_1904c 2 = .ok (.aload_n 0, 1) := by decide +kernel
theorem dJ7_copyOf_1904c_3 : decode cJ7_copyOf_1904c 3 = .ok (.invokevirtual 86, 3) := by decide +kernel
theorem dJ7_copyOf_1904c_6 : decode cJ7_copyOf_1904c 6 = .ok (.invokestatic 300, 3) := by decide +kernel
theorem dJ7_copyOf_1904c_9 : decode cJ7_copyOf_1904c 9 = .ok (.areturn, 1) := by decide +kernel
theorem dJ7_copyOf_6403c_0 : decode cJ7_copyOf_6403c 0 = .ok (.aload_n 2, 1) := by decide +kernel
theorem dJ7_copyOf_6403c_1 : decode cJ7_copyOf_6403c 1 = .ok (.ldc 110, 2) := by decide +kernel
theorem dJ7_copyOf_6403c_3 : decode cJ7_copyOf_6403c 3 = .ok (.if_acmp .ne 10, 3) := by decide +kernel
theorem dJ7_copyOf_6403c_6 : decode cJ7_copyOf_6403c 6 = .ok (.iload_n 1, 1) := by decide +kernel
theorem dJ7_copyOf_6403c_7 : decode cJ7_copyOf_6403c 7 = .ok (.anewarray 2, 3) := by decide +kernel
theorem dJ7_copyOf_6403c_10 : decode cJ7_copyOf_6403c 10 = .ok (.goto 14, 3) := by decide +kernel
theorem dJ7_copyOf_6403c_13 : decode cJ7_copyOf_6403c 13 = .ok (.aload_n 2, 1) := by decide +kernel
theorem dJ7_copyOf_6403c_14 : decode cJ7_copyOf_6403c 14 = .ok (.invokevirtual 90, 3) := by decide +kernel
theorem dJ7_copyOf_6403c_17 : decode cJ7_copyOf_6403c 17 = .ok (.iload_n 1, 1) := by decide +kernel
theorem dJ7_copyOf_6403c_18 : decode cJ7_copyOf_6403c 18 = .ok (.invokestatic 95, 3) := by decide +kernel
theorem dJ7_copyOf_6403c_21 : decode cJ7_copyOf_6403c 21 = .ok (.checkcast 110, 3) := by decide +kernel
theorem dJ7_copyOf_6403c_24 : decode cJ7_copyOf_6403c 24 = .ok (.astore_n 3, 1) := by decide +kernel
theorem dJ7_copyOf_6403c_25 : decode cJ7_copyOf_6403c 25 = .ok (.aload_n 0, 1) := by decide +kernel
theorem dJ7_copyOf_6403c_26 : decode cJ7_copyOf_6403c 26 = .ok (.iconst 0, 1) := by decide +kernel
theorem dJ7_copyOf_6403c_27 : decode cJ7_copyOf_6403c 27 = .ok (.aload_n 3, 1) := by decide +kernel
theorem dJ7_copyOf_6403c_28 : decode cJ7_copyOf_6403c 28 = .ok (.iconst 0, 1) := by decide +kernel
theorem dJ7_copyOf_6403c_29 : decode cJ7_copyOf_6403c 29 = .ok (.aload_n 0, 1) := by decide +kernel
theorem dJ7_copyOf_6403c_30 : decode cJ7_copyOf_6403c 30 = .ok (.arraylength, 1) := by decide +kernel
theorem dJ7_copyOf_6403c_31 : decode cJ7_copyOf_6403c 31 = .ok (.iload_n 1, 1) := by decide +kernel
theorem dJ7_copyOf_6403c_32 : decode cJ7_copyOf_6403c 32 = .ok (.invokestatic 304, 3) := by decide +kernel
theorem dJ7_copyOf_6403c_35 : decode cJ7_copyOf_6403c 35 = .ok (.invokestatic 150, 3) := by decide +kernel
theorem dJ7_copyOf_6403c_38 : decode cJ7_copyOf_6403c 38 = .ok (.aload_n 3, 1) := by decide +kernel
theorem dJ7_copyOf_6403c_39 : decode cJ7_copyOf_6403c 39 = .ok (.areturn, 1) := by decide +kernel
theorem dJ7_copyOf_59c91_0 : decode cJ7_copyOf_59c91 0 = .ok (.iload_n 1, 1) := by decide +kernel
theorem dJ7_copyOf_59c91_1 : decode cJ7_copyOf_59c91 1 = .ok (.aload_n 0, 1) := by decide +kernel
theorem dJ7_copyOf_59c91_2 : decode cJ7_copyOf_59c91 2 = .ok (.arraylength, 1) := by decide +kernel
theorem dJ7_copyOf_59c91_3 : decode cJ7_copyOf_59c91 3 = .ok (.if_icmp .ne 11, 3) := by decide +kernel
theorem dJ7_copyOf_59c91_6 : decode cJ7_copyOf_59c91 6 = .ok (.aload_n 0, 1) := by decide +kernel
theorem dJ7_copyOf_59c91_7 : decode cJ7_copyOf_59c91 7 = .ok (.invokevirtual 316, 3) := by decide +kernel
theorem dJ7_copyOf_59c91_10 : decode cJ7_copyOf_59c91 10 = .ok (.checkcast 317, 3) := by decide +kernel
theorem dJ7_copyOf_59c91_13 : decode cJ7_copyOf_59c91 13 = .ok (.areturn, 1) := by decide +kernel
theorem dJ7_copyOf_59c91_14 : decode cJ7_copyOf_59c91 14 = .ok (.iload_n 1, 1) := by decide +kernel
theorem dJ7_copyOf_59c91_15 : decode cJ7_copyOf_59c91 15 = .ok (.newarray .int, 2) := by decide +kernel
theorem dJ7_copyOf_59c91_17 : decode cJ7_copyOf_59c91 17 = .ok (.astore_n 2, 1) := by decide +kernel
theorem dJ7_copyOf_59c91_18 : decode cJ7_copyOf_59c91 18 = .ok (.aload_n 0, 1) := by decide +kernel
theorem dJ7_copyOf_59c91_19 : decode cJ7_copyOf_59c91 19 = .ok (.iconst 0, 1) := by decide +kernel
theorem dJ7_copyOf_59c91_20 : decode cJ7_copyOf_59c91 20 = .ok (.aload_n 2, 1) := by decide +kernel
theorem dJ7_copyOf_59c91_21 : decode cJ7_copyOf_59c91 21 = .ok (.iconst 0, 1) := by decide +kernel
theorem dJ7_copyOf_59c91_22 : decode cJ7_copyOf_59c91 22 = .ok (.aload_n 0, 1) := by decide +kernel
theorem dJ7_copyOf_59c91_23 : decode cJ7_copyOf_59c91 23 = .ok (.arraylength, 1) := by decide +kernel
theorem dJ7_copyOf_59c91_24 : decode cJ7_copyOf_59c91 24 = .ok (.iload_n 1, 1) := by decide +kernel
theorem dJ7_copyOf_59c91_25 : decode cJ7_copyOf_59c91 25 = .ok (.invokestatic 304, 3) := by decide +kernel
theorem dJ7_copyOf_59c91_28 : decode cJ7_copyOf_59c91 28 = .ok (.invokestatic 150, 3) := by decide +kernel
theorem dJ7_copyOf_59c91_31 : decode cJ7_copyOf_59c91 31 = .ok (.aload_n 2, 1) := by decide +kernel
theorem dJ7_copyOf_59c91_32 : decode cJ7_copyOf_59c91 32 = .ok (.areturn, 1) := by decide +kernel
theorem dJ15_checkIndex_7cf53_0 : decode cJ15_checkIndex_7cf53 0 = .ok (.iload_n 0, 1) := by decide +kernel
theorem dJ15_checkIndex_7cf53_1 : decode cJ15_checkIndex_7cf53 1 = .ok (.iload_n 1, 1) := by decide +kernel
theorem dJ15_checkIndex_7cf53_2 : decode cJ15_checkIndex_7cf53 2 = .ok (.aconst_null, 1) := by decide +kernel
theorem dJ15_checkIndex_7cf53_3 : decode cJ15_checkIndex_7cf53 3 = .ok (.invokestatic 105, 3) := by decide +kernel
theorem dJ15_checkIndex_7cf53_6 : decode cJ15_checkIndex_7cf53 6 = .ok (.ireturn, 1) := by decide +kernel
theorem dJ8_newLength_cabcc_0 : decode cJ8_newLength_cabcc 0 = .ok (.iload_n 0, 1) := by decide +kernel
theorem dJ8_newLength_cabcc_1 : decode cJ8_newLength_cabcc 1 = .ok (.iload_n 1, 1) := by decide +kernel
theorem dJ8_newLength_cabcc_2 : decode cJ8_newLength_cabcc 2 = .ok (.iload_n 2, 1) := by decide +kernel
theorem dJ8_newLength_cabcc_3 : decode cJ8_newLength_cabcc 3 = .ok (.invokestatic 194, 3) := by decide +kernel
theorem dJ8_newLength_cabcc_6 : decode cJ8_newLength_cabcc 6 = .ok (.iadd, 1) := by decide +kernel
theorem dJ8_newLength_cabcc_7 : decode cJ8_newLength_cabcc 7 = .ok (.istore_n 3, 1) := by decide +kernel
theorem dJ8_newLength_cabcc_8 : decode cJ8_newLength_cabcc 8 = .ok (.iconst 0, 1) := by decide +kernel
theorem dJ8_newLength_cabcc_9 : decode cJ8_newLength_cabcc 9 = .ok (.iload_n 3, 1) := by decide +kernel
theorem dJ8_newLength_cabcc_10 : decode cJ8_newLength_cabcc 10 = .ok (.if_icmp .ge 11, 3) := by decide +kernel
theorem dJ8_newLength_cabcc_13 : decode cJ8_newLength_cabcc 13 = .ok (.iload_n 3, 1) := by decide +kernel
theorem dJ8_newLength_cabcc_14 : decode cJ8_newLength_cabcc 14 = .ok (.ldc 200, 2) := by decide +kernel
theorem dJ8_newLength_cabcc_16 : decode cJ8_newLength_cabcc 16 = .ok (.if_icmp .gt 5, 3) := by decide +kernel
theorem dJ8_newLength_cabcc_19 : decode cJ8_newLength_cabcc 19 = .ok (.iload_n 3, 1) := by decide +kernel
theorem dJ8_newLength_cabcc_20 : decode cJ8_newLength_cabcc 20 = .ok (.ireturn, 1) := by decide +kernel
theorem dJ8_newLength_cabcc_21 : decode cJ8_newLength_cabcc 21 = .ok (.iload_n 0, 1) := by decide +kernel
theorem dJ8_newLength_cabcc_22 : decode cJ8_newLength_cabcc 22 = .ok (.iload_n 1, 1) := by decide +kernel
theorem dJ8_newLength_cabcc_23 : decode cJ8_newLength_cabcc 23 = .ok (.invokestatic 201, 3) := by decide +kernel
theorem dJ8_newLength_cabcc_26 : decode cJ8_newLength_cabcc 26 = .ok (.ireturn, 1) := by decide +kernel
theorem dJ8_hugeLength_7cf53_0 : decode cJ8_hugeLength_7cf53 0 = .ok (.iload_n 0, 1) := by decide +kernel
theorem dJ8_hugeLength_7cf53_1 : decode cJ8_hugeLength_7cf53 1 = .ok (.iload_n 1, 1) := by decide +kernel
theorem dJ8_hugeLength_7cf53_2 : decode cJ8_hugeLength_7cf53 2 = .ok (.iadd, 1) := by decide +kernel
theorem dJ8_hugeLength_7cf53_3 : decode cJ8_hugeLength_7cf53 3 = .ok (.istore_n 2, 1) := by decide +kernel
theorem dJ8_hugeLength_7cf53_4 : decode cJ8_hugeLength_7cf53 4 = .ok (.iload_n 2, 1) := by decide +kernel
theorem dJ8_hugeLength_7cf53_5 : decode cJ8_hugeLength_7cf53 5 = .ok (.ifCond .ge 44, 3) := by decide +kernel
theorem dJ8_hugeLength_7cf53_8 : decode cJ8_hugeLength_7cf53 8 = .ok (.new 204, 3) := by decide +kernel
theorem dJ8_hugeLength_7cf53_11 : decode cJ8_hugeLength_7cf53 11 = .ok (.dup, 1) := by decide +kernel
theorem dJ8_hugeLength_7cf53_12 : decode cJ8_hugeLength_7cf53 12 = .ok (.new 89, 3) := by decide +kernel
theorem dJ8_hugeLength_7cf53_15 : decode cJ8_hugeLength_7cf53 15 = .ok (.dup, 1) := by decide +kernel
theorem dJ8_hugeLength_7cf53_16 : decode cJ8_hugeLength_7cf53 16 = .ok (.invokespecial 91, 3) := by decide +kernel
theorem dJ8_hugeLength_7cf53_19 : decode cJ8_hugeLength_7cf53 19 = .ok (.ldc 206, 2) := by decide +kernel
theorem dJ8_hugeLength_7cf53_21 : decode cJ8_hugeLength_7cf53 21 = .ok (.invokevirtual 94, 3) := by decide +kernel
theorem dJ8_hugeLength_7cf53_24 : decode cJ8_hugeLength_7cf53 24 = .ok (.iload_n 0, 1) := by decide +kernel
theorem dJ8_hugeLength_7cf53_25 : decode cJ8_hugeLength_7cf53 25 = .ok (.invokevirtual 98, 3) := by decide +kernel
theorem dJ8_hugeLength_7cf53_28 : decode cJ8_hugeLength_7cf53 28 = .ok (.ldc 208, 2) := by decide +kernel
theorem dJ8_hugeLength_7cf53_30 : decode cJ8_hugeLength_7cf53 30 = .ok (.invokevirtual 94, 3) := by decide +kernel
theorem dJ8_hugeLength_7cf53_33 : decode cJ8_hugeLength_7cf53 33 = .ok (.iload_n 1, 1) := by decide +kernel
theorem dJ8_hugeLength_7cf53_34 : decode cJ8_hugeLength_7cf53 34 = .ok (.invokevirtual 98, 3) := by decide +kernel
theorem dJ8_hugeLength_7cf53_37 : decode cJ8_hugeLength_7cf53 37 = .ok (.ldc 210, 2) := by decide +kernel
theorem dJ8_hugeLength_7cf53_39 : decode cJ8_hugeLength_7cf53 39 = .ok (.invokevirtual 94, 3) := by decide +kernel
theorem dJ8_hugeLength_7cf53_42 : decode cJ8_hugeLength_7cf53 42 = .ok (.invokevirtual 101, 3) := by decide +kernel
theorem dJ8_hugeLength_7cf53_45 : decode cJ8_hugeLength_7cf53 45 = .ok (.invokespecial 212, 3) := by decide +kernel
theorem dJ8_hugeLength_7cf53_48 : decode cJ8_hugeLength_7cf53 48 = .ok (.athrow, 1) := by decide +kernel
theorem dJ8_hugeLength_7cf53_49 : decode cJ8_hugeLength_7cf53 49 = .ok (.iload_n 2, 1) := by decide +kernel
theorem dJ8_hugeLength_7cf53_50 : decode cJ8_hugeLength_7cf53 50 = .ok (.ldc 200, 2) := by decide +kernel
theorem dJ8_hugeLength_7cf53_52 : decode cJ8_hugeLength_7cf53 52 = .ok (.if_icmp .gt 6, 3) := by decide +kernel
theorem dJ8_hugeLength_7cf53_55 : decode cJ8_hugeLength_7cf53 55 = .ok (.ldc 200, 2) := by decide +kernel
theorem dJ8_hugeLength_7cf53_57 : decode cJ8_hugeLength_7cf53 57 = .ok (.ireturn, 1) := by decide +kernel
theorem dJ8_hugeLength_7cf53_58 : decode cJ8_hugeLength_7cf53 58 = .ok (.iload_n 2, 1) := by decide +kernel
theorem dJ8_hugeLength_7cf53_59 : decode cJ8_hugeLength_7cf53 59 = .ok (.ireturn, 1) := by decide +kernel
theorem dJ3_checkIndex_8e157_0 : decode cJ3_checkIndex_8e157 0 = .ok (.iload_n 0, 1) := by decide +kernel
theorem dJ3_checkIndex_8e157_1 : decode cJ3_checkIndex_8e157 1 = .ok (.ifCond .lt 8, 3) := by decide +kernel
theorem dJ3_checkIndex_8e157_4 : decode cJ3_checkIndex_8e157 4 = .ok (.iload_n 0, 1) := by decide +kernel
theorem dJ3_checkIndex_8e157_5 : decode cJ3_checkIndex_8e157 5 = .ok (.iload_n 1, 1) := by decide +kernel
theorem dJ3_checkIndex_8e157_6 : decode cJ3_checkIndex_8e157 6 = .ok (.if_icmp .lt 10, 3) := by decide +kernel
theorem dJ3_checkIndex_8e157_9 : decode cJ3_checkIndex_8e157 9 = .ok (.aload_n 2, 1) := by decide +kernel
theorem dJ3_checkIndex_8e157_10 : decode cJ3_checkIndex_8e157 10 = .ok (.iload_n 0, 1) := by decide +kernel
theorem dJ3_checkIndex_8e157_11 : decode cJ3_checkIndex_8e157 11 = .ok (.iload_n 1, 1) := by decide +kernel
theorem dJ3_checkIndex_8e157_12 : decode cJ3_checkIndex_8e157 12 = .ok (.invokestatic 95, 3) := by decide +kernel
theorem dJ3_checkIndex_8e157_15 : decode cJ3_checkIndex_8e157 15 = .ok (.athrow, 1) := by decide +kernel
theorem dJ3_checkIndex_8e157_16 : decode cJ3_checkIndex_8e157 16 = .ok (.iload_n 0, 1) := by decide +kernel
theorem dJ3_checkIndex_8e157_17 : decode cJ3_checkIndex_8e157 17 = .ok (.ireturn, 1) := by decide +kernel
theorem dL_setFuel_0 : decode cL_setFuel 0 = .ok (.aload 4, 2) := by decide +kernel
theorem dL_setFuel_2 : decode cL_setFuel 2 = .ok (.iconst 0, 1) := by decide +kernel
theorem dL_setFuel_3 : decode cL_setFuel 3 = .ok (.aload_n 0, 1) := by decide +kernel
theorem dL_setFuel_4 : decode cL_setFuel 4 = .ok (.iload_n 1, 1) := by decide +kernel
theorem dL_setFuel_5 : decode cL_setFuel 5 = .ok (.iload_n 2, 1) := by decide +kernel
theorem dL_setFuel_6 : decode cL_setFuel 6 = .ok (.iload_n 3, 1) := by decide +kernel
theorem dL_setFuel_7 : decode cL_setFuel 7 = .ok (.invokevirtual 7, 3) := by decide +kernel
theorem dL_setFuel_10 : decode cL_setFuel 10 = .ok (.i2l, 1) := by decide +kernel
theorem dL_setFuel_11 : decode cL_setFuel 11 = .ok (.lastore, 1) := by decide +kernel
theorem dL_setFuel_12 : decode cL_setFuel 12 = .ok (.goto 11, 3) := by decide +kernel
theorem dL_setFuel_15 : decode cL_setFuel 15 = .ok (.astore 5, 2) := by decide +kernel
theorem dL_setFuel_17 : decode cL_setFuel 17 = .ok (.iconst 1, 1) := by decide +kernel
theorem dL_setFuel_18 : decode cL_setFuel 18 = .ok (.ireturn, 1) := by decide +kernel
theorem dL_setFuel_19 : decode cL_setFuel 19 = .ok (.astore 5, 2) := by decide +kernel
theorem dL_setFuel_21 : decode cL_setFuel 21 = .ok (.iconst 2, 1) := by decide +kernel
theorem dL_setFuel_22 : decode cL_setFuel 22 = .ok (.ireturn, 1) := by decide +kernel
theorem dL_setFuel_23 : decode cL_setFuel 23 = .ok (.iconst 0, 1) := by decide +kernel
theorem dL_setFuel_24 : decode cL_setFuel 24 = .ok (.ireturn, 1) := by decide +kernel
theorem dL_light_0 : decode cL_light 0 = .ok (.aload 4, 2) := by decide +kernel
theorem dL_light_2 : decode cL_light 2 = .ok (.iconst 0, 1) := by decide +kernel
theorem dL_light_3 : decode cL_light 3 = .ok (.aload_n 0, 1) := by decide +kernel
theorem dL_light_4 : decode cL_light 4 = .ok (.iload_n 1, 1) := by decide +kernel
theorem dL_light_5 : decode cL_light 5 = .ok (.iload_n 2, 1) := by decide +kernel
theorem dL_light_6 : decode cL_light 6 = .ok (.iload_n 3, 1) := by decide +kernel
theorem dL_light_7 : decode cL_light 7 = .ok (.invokevirtual 17, 3) := by decide +kernel
theorem dL_light_10 : decode cL_light 10 = .ok (.ifCond .eq 7, 3) := by decide +kernel
theorem dL_light_13 : decode cL_light 13 = .ok (.lconst 1, 1) := by decide +kernel
theorem dL_light_14 : decode cL_light 14 = .ok (.goto 4, 3) := by decide +kernel
theorem dL_light_17 : decode cL_light 17 = .ok (.lconst 0, 1) := by decide +kernel
theorem dL_light_18 : decode cL_light 18 = .ok (.lastore, 1) := by decide +kernel
theorem dL_light_19 : decode cL_light 19 = .ok (.goto 15, 3) := by decide +kernel
theorem dL_light_22 : decode cL_light 22 = .ok (.astore 5, 2) := by decide +kernel
theorem dL_light_24 : decode cL_light 24 = .ok (.iconst 1, 1) := by decide +kernel
theorem dL_light_25 : decode cL_light 25 = .ok (.ireturn, 1) := by decide +kernel
theorem dL_light_26 : decode cL_light 26 = .ok (.astore 5, 2) := by decide +kernel
theorem dL_light_28 : decode cL_light 28 = .ok (.iconst 2, 1) := by decide +kernel
theorem dL_light_29 : decode cL_light 29 = .ok (.ireturn, 1) := by decide +kernel
theorem dL_light_30 : decode cL_light 30 = .ok (.astore 5, 2) := by decide +kernel
theorem dL_light_32 : decode cL_light 32 = .ok (.iconst 3, 1) := by decide +kernel
theorem dL_light_33 : decode cL_light 33 = .ok (.ireturn, 1) := by decide +kernel
theorem dL_light_34 : decode cL_light 34 = .ok (.iconst 0, 1) := by decide +kernel
theorem dL_light_35 : decode cL_light 35 = .ok (.ireturn, 1) := by decide +kernel
theorem dL_setWind_0 : decode cL_setWind 0 = .ok (.aload 4, 2) := by decide +kernel
theorem dL_setWind_2 : decode cL_setWind 2 = .ok (.iconst 0, 1) := by decide +kernel
theorem dL_setWind_3 : decode cL_setWind 3 = .ok (.aload_n 0, 1) := by decide +kernel
theorem dL_setWind_4 : decode cL_setWind 4 = .ok (.iload_n 1, 1) := by decide +kernel
theorem dL_setWind_5 : decode cL_setWind 5 = .ok (.iload_n 2, 1) := by decide +kernel
theorem dL_setWind_6 : decode cL_setWind 6 = .ok (.iload_n 3, 1) := by decide +kernel
theorem dL_setWind_7 : decode cL_setWind 7 = .ok (.invokevirtual 23, 3) := by decide +kernel
theorem dL_setWind_10 : decode cL_setWind 10 = .ok (.i2l, 1) := by decide +kernel
theorem dL_setWind_11 : decode cL_setWind 11 = .ok (.lastore, 1) := by decide +kernel
theorem dL_setWind_12 : decode cL_setWind 12 = .ok (.goto 7, 3) := by decide +kernel
theorem dL_setWind_15 : decode cL_setWind 15 = .ok (.astore 5, 2) := by decide +kernel
theorem dL_setWind_17 : decode cL_setWind 17 = .ok (.iconst 1, 1) := by decide +kernel
theorem dL_setWind_18 : decode cL_setWind 18 = .ok (.ireturn, 1) := by decide +kernel
theorem dL_setWind_19 : decode cL_setWind 19 = .ok (.iconst 0, 1) := by decide +kernel
theorem dL_setWind_20 : decode cL_setWind 20 = .ok (.ireturn, 1) := by decide +kernel
theorem dL_setRain_0 : decode cL_setRain 0 = .ok (.aload_n 2, 1) := by decide +kernel
theorem dL_setRain_1 : decode cL_setRain 1 = .ok (.iconst 0, 1) := by decide +kernel
theorem dL_setRain_2 : decode cL_setRain 2 = .ok (.aload_n 0, 1) := by decide +kernel
theorem dL_setRain_3 : decode cL_setRain 3 = .ok (.iload_n 1, 1) := by decide +kernel
theorem dL_setRain_4 : decode cL_setRain 4 = .ok (.invokevirtual 26, 3) := by decide +kernel
theorem dL_setRain_7 : decode cL_setRain 7 = .ok (.i2l, 1) := by decide +kernel
theorem dL_setRain_8 : decode cL_setRain 8 = .ok (.lastore, 1) := by decide +kernel
theorem dL_setRain_9 : decode cL_setRain 9 = .ok (.goto 6, 3) := by decide +kernel
theorem dL_setRain_12 : decode cL_setRain 12 = .ok (.astore_n 3, 1) := by decide +kernel
theorem dL_setRain_13 : decode cL_setRain 13 = .ok (.iconst 1, 1) := by decide +kernel
theorem dL_setRain_14 : decode cL_setRain 14 = .ok (.ireturn, 1) := by decide +kernel
theorem dL_setRain_15 : decode cL_setRain 15 = .ok (.iconst 0, 1) := by decide +kernel
theorem dL_setRain_16 : decode cL_setRain 16 = .ok (.ireturn, 1) := by decide +kernel
theorem dL_digLine_0 : decode cL_digLine 0 = .ok (.aload 4, 2) := by decide +kernel
theorem dL_digLine_2 : decode cL_digLine 2 = .ok (.iconst 0, 1) := by decide +kernel
theorem dL_digLine_3 : decode cL_digLine 3 = .ok (.aload_n 0, 1) := by decide +kernel
theorem dL_digLine_4 : decode cL_digLine 4 = .ok (.iload_n 1, 1) := by decide +kernel
theorem dL_digLine_5 : decode cL_digLine 5 = .ok (.iload_n 2, 1) := by decide +kernel
theorem dL_digLine_6 : decode cL_digLine 6 = .ok (.iload_n 3, 1) := by decide +kernel
theorem dL_digLine_7 : decode cL_digLine 7 = .ok (.invokevirtual 30, 3) := by decide +kernel
theorem dL_digLine_10 : decode cL_digLine 10 = .ok (.i2l, 1) := by decide +kernel
theorem dL_digLine_11 : decode cL_digLine 11 = .ok (.lastore, 1) := by decide +kernel
theorem dL_digLine_12 : decode cL_digLine 12 = .ok (.goto 15, 3) := by decide +kernel
theorem dL_digLine_15 : decode cL_digLine 15 = .ok (.astore 5, 2) := by decide +kernel
theorem dL_digLine_17 : decode cL_digLine 17 = .ok (.iconst 1, 1) := by decide +kernel
theorem dL_digLine_18 : decode cL_digLine 18 = .ok (.ireturn, 1) := by decide +kernel
theorem dL_digLine_19 : decode cL_digLine 19 = .ok (.astore 5, 2) := by decide +kernel
theorem dL_digLine_21 : decode cL_digLine 21 = .ok (.iconst 2, 1) := by decide +kernel
theorem dL_digLine_22 : decode cL_digLine 22 = .ok (.ireturn, 1) := by decide +kernel
theorem dL_digLine_23 : decode cL_digLine 23 = .ok (.astore 5, 2) := by decide +kernel
theorem dL_digLine_25 : decode cL_digLine 25 = .ok (.iconst 3, 1) := by decide +kernel
theorem dL_digLine_26 : decode cL_digLine 26 = .ok (.ireturn, 1) := by decide +kernel
theorem dL_digLine_27 : decode cL_digLine 27 = .ok (.iconst 0, 1) := by decide +kernel
theorem dL_digLine_28 : decode cL_digLine 28 = .ok (.ireturn, 1) := by decide +kernel
theorem dL_addSensor_0 : decode cL_addSensor 0 = .ok (.aload_n 3, 1) := by decide +kernel
theorem dL_addSensor_1 : decode cL_addSensor 1 = .ok (.iconst 0, 1) := by decide +kernel
theorem dL_addSensor_2 : decode cL_addSensor 2 = .ok (.aload_n 0, 1) := by decide +kernel
theorem dL_addSensor_3 : decode cL_addSensor 3 = .ok (.iload_n 1, 1) := by decide +kernel
theorem dL_addSensor_4 : decode cL_addSensor 4 = .ok (.iload_n 2, 1) := by decide +kernel
theorem dL_addSensor_5 : decode cL_addSensor 5 = .ok (.invokevirtual 33, 3) := by decide +kernel
theorem dL_addSensor_8 : decode cL_addSensor 8 = .ok (.i2l, 1) := by decide +kernel
theorem dL_addSensor_9 : decode cL_addSensor 9 = .ok (.lastore, 1) := by decide +kernel
theorem dL_addSensor_10 : decode cL_addSensor 10 = .ok (.goto 11, 3) := by decide +kernel
theorem dL_addSensor_13 : decode cL_addSensor 13 = .ok (.astore 4, 2) := by decide +kernel
theorem dL_addSensor_15 : decode cL_addSensor 15 = .ok (.iconst 1, 1) := by decide +kernel
theorem dL_addSensor_16 : decode cL_addSensor 16 = .ok (.ireturn, 1) := by decide +kernel
theorem dL_addSensor_17 : decode cL_addSensor 17 = .ok (.astore 4, 2) := by decide +kernel
theorem dL_addSensor_19 : decode cL_addSensor 19 = .ok (.iconst 2, 1) := by decide +kernel
theorem dL_addSensor_20 : decode cL_addSensor 20 = .ok (.ireturn, 1) := by decide +kernel
theorem dL_addSensor_21 : decode cL_addSensor 21 = .ok (.iconst 0, 1) := by decide +kernel
theorem dL_addSensor_22 : decode cL_addSensor 22 = .ok (.ireturn, 1) := by decide +kernel
theorem dL_read_0 : decode cL_read 0 = .ok (.aload_n 3, 1) := by decide +kernel
theorem dL_read_1 : decode cL_read 1 = .ok (.iconst 0, 1) := by decide +kernel
theorem dL_read_2 : decode cL_read 2 = .ok (.aload_n 0, 1) := by decide +kernel
theorem dL_read_3 : decode cL_read 3 = .ok (.iload_n 1, 1) := by decide +kernel
theorem dL_read_4 : decode cL_read 4 = .ok (.iload_n 2, 1) := by decide +kernel
theorem dL_read_5 : decode cL_read 5 = .ok (.invokevirtual 39, 3) := by decide +kernel
theorem dL_read_8 : decode cL_read 8 = .ok (.i2l, 1) := by decide +kernel
theorem dL_read_9 : decode cL_read 9 = .ok (.lastore, 1) := by decide +kernel
theorem dL_read_10 : decode cL_read 10 = .ok (.goto 11, 3) := by decide +kernel
theorem dL_read_13 : decode cL_read 13 = .ok (.astore 4, 2) := by decide +kernel
theorem dL_read_15 : decode cL_read 15 = .ok (.iconst 1, 1) := by decide +kernel
theorem dL_read_16 : decode cL_read 16 = .ok (.ireturn, 1) := by decide +kernel
theorem dL_read_17 : decode cL_read 17 = .ok (.astore 4, 2) := by decide +kernel
theorem dL_read_19 : decode cL_read 19 = .ok (.iconst 2, 1) := by decide +kernel
theorem dL_read_20 : decode cL_read 20 = .ok (.ireturn, 1) := by decide +kernel
theorem dL_read_21 : decode cL_read 21 = .ok (.iconst 0, 1) := by decide +kernel
theorem dL_read_22 : decode cL_read 22 = .ok (.ireturn, 1) := by decide +kernel
theorem dL_trust_0 : decode cL_trust 0 = .ok (.aload_n 2, 1) := by decide +kernel
theorem dL_trust_1 : decode cL_trust 1 = .ok (.iconst 0, 1) := by decide +kernel
theorem dL_trust_2 : decode cL_trust 2 = .ok (.aload_n 0, 1) := by decide +kernel
theorem dL_trust_3 : decode cL_trust 3 = .ok (.iload_n 1, 1) := by decide +kernel
theorem dL_trust_4 : decode cL_trust 4 = .ok (.invokevirtual 42, 3) := by decide +kernel
theorem dL_trust_7 : decode cL_trust 7 = .ok (.i2l, 1) := by decide +kernel
theorem dL_trust_8 : decode cL_trust 8 = .ok (.lastore, 1) := by decide +kernel
theorem dL_trust_9 : decode cL_trust 9 = .ok (.goto 6, 3) := by decide +kernel
theorem dL_trust_12 : decode cL_trust 12 = .ok (.astore_n 3, 1) := by decide +kernel
theorem dL_trust_13 : decode cL_trust 13 = .ok (.iconst 1, 1) := by decide +kernel
theorem dL_trust_14 : decode cL_trust 14 = .ok (.ireturn, 1) := by decide +kernel
theorem dL_trust_15 : decode cL_trust 15 = .ok (.iconst 0, 1) := by decide +kernel
theorem dL_trust_16 : decode cL_trust 16 = .ok (.ireturn, 1) := by decide +kernel
theorem dL_stateOf_0 : decode cL_stateOf 0 = .ok (.aload_n 2, 1) := by decide +kernel
theorem dL_stateOf_1 : decode cL_stateOf 1 = .ok (.iconst 0, 1) := by decide +kernel
theorem dL_stateOf_2 : decode cL_stateOf 2 = .ok (.aload_n 0, 1) := by decide +kernel
theorem dL_stateOf_3 : decode cL_stateOf 3 = .ok (.iload_n 1, 1) := by decide +kernel
theorem dL_stateOf_4 : decode cL_stateOf 4 = .ok (.invokevirtual 45, 3) := by decide +kernel
theorem dL_stateOf_7 : decode cL_stateOf 7 = .ok (.i2l, 1) := by decide +kernel
theorem dL_stateOf_8 : decode cL_stateOf 8 = .ok (.lastore, 1) := by decide +kernel
theorem dL_stateOf_9 : decode cL_stateOf 9 = .ok (.goto 6, 3) := by decide +kernel
theorem dL_stateOf_12 : decode cL_stateOf 12 = .ok (.astore_n 3, 1) := by decide +kernel
theorem dL_stateOf_13 : decode cL_stateOf 13 = .ok (.iconst 1, 1) := by decide +kernel
theorem dL_stateOf_14 : decode cL_stateOf 14 = .ok (.ireturn, 1) := by decide +kernel
theorem dL_stateOf_15 : decode cL_stateOf 15 = .ok (.iconst 0, 1) := by decide +kernel
theorem dL_stateOf_16 : decode cL_stateOf 16 = .ok (.ireturn, 1) := by decide +kernel
theorem dL_judged_0 : decode cL_judged 0 = .ok (.aload_n 2, 1) := by decide +kernel
theorem dL_judged_1 : decode cL_judged 1 = .ok (.iconst 0, 1) := by decide +kernel
theorem dL_judged_2 : decode cL_judged 2 = .ok (.aload_n 0, 1) := by decide +kernel
theorem dL_judged_3 : decode cL_judged 3 = .ok (.iload_n 1, 1) := by decide +kernel
theorem dL_judged_4 : decode cL_judged 4 = .ok (.invokevirtual 49, 3) := by decide +kernel
theorem dL_judged_7 : decode cL_judged 7 = .ok (.i2l, 1) := by decide +kernel
theorem dL_judged_8 : decode cL_judged 8 = .ok (.lastore, 1) := by decide +kernel
theorem dL_judged_9 : decode cL_judged 9 = .ok (.goto 9, 3) := by decide +kernel
theorem dL_judged_12 : decode cL_judged 12 = .ok (.astore_n 3, 1) := by decide +kernel
theorem dL_judged_13 : decode cL_judged 13 = .ok (.iconst 1, 1) := by decide +kernel
theorem dL_judged_14 : decode cL_judged 14 = .ok (.ireturn, 1) := by decide +kernel
theorem dL_judged_15 : decode cL_judged 15 = .ok (.astore_n 3, 1) := by decide +kernel
theorem dL_judged_16 : decode cL_judged 16 = .ok (.iconst 2, 1) := by decide +kernel
theorem dL_judged_17 : decode cL_judged 17 = .ok (.ireturn, 1) := by decide +kernel
theorem dL_judged_18 : decode cL_judged 18 = .ok (.iconst 0, 1) := by decide +kernel
theorem dL_judged_19 : decode cL_judged 19 = .ok (.ireturn, 1) := by decide +kernel
theorem dL_subscribe_0 : decode cL_subscribe 0 = .ok (.aload 6, 2) := by decide +kernel
theorem dL_subscribe_2 : decode cL_subscribe 2 = .ok (.iconst 0, 1) := by decide +kernel
theorem dL_subscribe_3 : decode cL_subscribe 3 = .ok (.aload_n 0, 1) := by decide +kernel
theorem dL_subscribe_4 : decode cL_subscribe 4 = .ok (.iload_n 1, 1) := by decide +kernel
theorem dL_subscribe_5 : decode cL_subscribe 5 = .ok (.iload_n 2, 1) := by decide +kernel
theorem dL_subscribe_6 : decode cL_subscribe 6 = .ok (.iload_n 3, 1) := by decide +kernel
theorem dL_subscribe_7 : decode cL_subscribe 7 = .ok (.iload 4, 2) := by decide +kernel
theorem dL_subscribe_9 : decode cL_subscribe 9 = .ok (.iload 5, 2) := by decide +kernel
theorem dL_subscribe_11 : decode cL_subscribe 11 = .ok (.invokevirtual 52, 3) := by decide +kernel
theorem dL_subscribe_14 : decode cL_subscribe 14 = .ok (.i2l, 1) := by decide +kernel
theorem dL_subscribe_15 : decode cL_subscribe 15 = .ok (.lastore, 1) := by decide +kernel
theorem dL_subscribe_16 : decode cL_subscribe 16 = .ok (.goto 15, 3) := by decide +kernel
theorem dL_subscribe_19 : decode cL_subscribe 19 = .ok (.astore 7, 2) := by decide +kernel
theorem dL_subscribe_21 : decode cL_subscribe 21 = .ok (.iconst 1, 1) := by decide +kernel
theorem dL_subscribe_22 : decode cL_subscribe 22 = .ok (.ireturn, 1) := by decide +kernel
theorem dL_subscribe_23 : decode cL_subscribe 23 = .ok (.astore 7, 2) := by decide +kernel
theorem dL_subscribe_25 : decode cL_subscribe 25 = .ok (.iconst 2, 1) := by decide +kernel
theorem dL_subscribe_26 : decode cL_subscribe 26 = .ok (.ireturn, 1) := by decide +kernel
theorem dL_subscribe_27 : decode cL_subscribe 27 = .ok (.astore 7, 2) := by decide +kernel
theorem dL_subscribe_29 : decode cL_subscribe 29 = .ok (.iconst 3, 1) := by decide +kernel
theorem dL_subscribe_30 : decode cL_subscribe 30 = .ok (.ireturn, 1) := by decide +kernel
theorem dL_subscribe_31 : decode cL_subscribe 31 = .ok (.iconst 0, 1) := by decide +kernel
theorem dL_subscribe_32 : decode cL_subscribe 32 = .ok (.ireturn, 1) := by decide +kernel
theorem dL_addSchool_0 : decode cL_addSchool 0 = .ok (.aload 4, 2) := by decide +kernel
theorem dL_addSchool_2 : decode cL_addSchool 2 = .ok (.iconst 0, 1) := by decide +kernel
theorem dL_addSchool_3 : decode cL_addSchool 3 = .ok (.aload_n 0, 1) := by decide +kernel
theorem dL_addSchool_4 : decode cL_addSchool 4 = .ok (.iload_n 1, 1) := by decide +kernel
theorem dL_addSchool_5 : decode cL_addSchool 5 = .ok (.iload_n 2, 1) := by decide +kernel
theorem dL_addSchool_6 : decode cL_addSchool 6 = .ok (.iload_n 3, 1) := by decide +kernel
theorem dL_addSchool_7 : decode cL_addSchool 7 = .ok (.invokevirtual 56, 3) := by decide +kernel
theorem dL_addSchool_10 : decode cL_addSchool 10 = .ok (.i2l, 1) := by decide +kernel
theorem dL_addSchool_11 : decode cL_addSchool 11 = .ok (.lastore, 1) := by decide +kernel
theorem dL_addSchool_12 : decode cL_addSchool 12 = .ok (.goto 15, 3) := by decide +kernel
theorem dL_addSchool_15 : decode cL_addSchool 15 = .ok (.astore 5, 2) := by decide +kernel
theorem dL_addSchool_17 : decode cL_addSchool 17 = .ok (.iconst 1, 1) := by decide +kernel
theorem dL_addSchool_18 : decode cL_addSchool 18 = .ok (.ireturn, 1) := by decide +kernel
theorem dL_addSchool_19 : decode cL_addSchool 19 = .ok (.astore 5, 2) := by decide +kernel
theorem dL_addSchool_21 : decode cL_addSchool 21 = .ok (.iconst 2, 1) := by decide +kernel
theorem dL_addSchool_22 : decode cL_addSchool 22 = .ok (.ireturn, 1) := by decide +kernel
theorem dL_addSchool_23 : decode cL_addSchool 23 = .ok (.astore 5, 2) := by decide +kernel
theorem dL_addSchool_25 : decode cL_addSchool 25 = .ok (.iconst 3, 1) := by decide +kernel
theorem dL_addSchool_26 : decode cL_addSchool 26 = .ok (.ireturn, 1) := by decide +kernel
theorem dL_addSchool_27 : decode cL_addSchool 27 = .ok (.iconst 0, 1) := by decide +kernel
theorem dL_addSchool_28 : decode cL_addSchool 28 = .ok (.ireturn, 1) := by decide +kernel
theorem dL_isOpen_0 : decode cL_isOpen 0 = .ok (.aload_n 2, 1) := by decide +kernel
theorem dL_isOpen_1 : decode cL_isOpen 1 = .ok (.iconst 0, 1) := by decide +kernel
theorem dL_isOpen_2 : decode cL_isOpen 2 = .ok (.aload_n 0, 1) := by decide +kernel
theorem dL_isOpen_3 : decode cL_isOpen 3 = .ok (.iload_n 1, 1) := by decide +kernel
theorem dL_isOpen_4 : decode cL_isOpen 4 = .ok (.invokevirtual 59, 3) := by decide +kernel
theorem dL_isOpen_7 : decode cL_isOpen 7 = .ok (.ifCond .eq 7, 3) := by decide +kernel
theorem dL_isOpen_10 : decode cL_isOpen 10 = .ok (.lconst 1, 1) := by decide +kernel
theorem dL_isOpen_11 : decode cL_isOpen 11 = .ok (.goto 4, 3) := by decide +kernel
theorem dL_isOpen_14 : decode cL_isOpen 14 = .ok (.lconst 0, 1) := by decide +kernel
theorem dL_isOpen_15 : decode cL_isOpen 15 = .ok (.lastore, 1) := by decide +kernel
theorem dL_isOpen_16 : decode cL_isOpen 16 = .ok (.goto 6, 3) := by decide +kernel
theorem dL_isOpen_19 : decode cL_isOpen 19 = .ok (.astore_n 3, 1) := by decide +kernel
theorem dL_isOpen_20 : decode cL_isOpen 20 = .ok (.iconst 1, 1) := by decide +kernel
theorem dL_isOpen_21 : decode cL_isOpen 21 = .ok (.ireturn, 1) := by decide +kernel
theorem dL_isOpen_22 : decode cL_isOpen 22 = .ok (.iconst 0, 1) := by decide +kernel
theorem dL_isOpen_23 : decode cL_isOpen 23 = .ok (.ireturn, 1) := by decide +kernel
theorem dL_isWarned_0 : decode cL_isWarned 0 = .ok (.aload_n 2, 1) := by decide +kernel
theorem dL_isWarned_1 : decode cL_isWarned 1 = .ok (.iconst 0, 1) := by decide +kernel
theorem dL_isWarned_2 : decode cL_isWarned 2 = .ok (.aload_n 0, 1) := by decide +kernel
theorem dL_isWarned_3 : decode cL_isWarned 3 = .ok (.iload_n 1, 1) := by decide +kernel
theorem dL_isWarned_4 : decode cL_isWarned 4 = .ok (.invokevirtual 63, 3) := by decide +kernel
theorem dL_isWarned_7 : decode cL_isWarned 7 = .ok (.ifCond .eq 7, 3) := by decide +kernel
theorem dL_isWarned_10 : decode cL_isWarned 10 = .ok (.lconst 1, 1) := by decide +kernel
theorem dL_isWarned_11 : decode cL_isWarned 11 = .ok (.goto 4, 3) := by decide +kernel
theorem dL_isWarned_14 : decode cL_isWarned 14 = .ok (.lconst 0, 1) := by decide +kernel
theorem dL_isWarned_15 : decode cL_isWarned 15 = .ok (.lastore, 1) := by decide +kernel
theorem dL_isWarned_16 : decode cL_isWarned 16 = .ok (.goto 6, 3) := by decide +kernel
theorem dL_isWarned_19 : decode cL_isWarned 19 = .ok (.astore_n 3, 1) := by decide +kernel
theorem dL_isWarned_20 : decode cL_isWarned 20 = .ok (.iconst 1, 1) := by decide +kernel
theorem dL_isWarned_21 : decode cL_isWarned 21 = .ok (.ireturn, 1) := by decide +kernel
theorem dL_isWarned_22 : decode cL_isWarned 22 = .ok (.iconst 0, 1) := by decide +kernel
theorem dL_isWarned_23 : decode cL_isWarned 23 = .ok (.ireturn, 1) := by decide +kernel
theorem dL_pass_0 : decode cL_pass 0 = .ok (.aload_n 2, 1) := by decide +kernel
