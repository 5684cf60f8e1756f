theorem dL_pass_4 : decode cL_pass 4 = .ok (.invokevirtual 66, 3) := by decide +kernel
theorem dL_pass_7 : decode cL_pass 7 = .ok (.i2l, 1) := by decide +kernel
theorem dL_pass_8 : decode cL_pass 8 = .ok (.lastore, 1) := by decide +kernel
theorem dL_pass_9 : decode cL_pass 9 = .ok (.goto 9, 3) := by decide +kernel
theorem dL_pass_12 : decode cL_pass 12 = .ok (.astore_n 3, 1) := by decide +kernel
theorem dL_pass_13 : decode cL_pass 13 = .ok (.iconst 1, 1) := by decide +kernel
theorem dL_pass_14 : decode cL_pass 14 = .ok (.ireturn, 1) := by decide +kernel
theorem dL_pass_15 : decode cL_pass 15 = .ok (.astore_n 3, 1) := by decide +kernel
theorem dL_pass_16 : decode cL_pass 16 = .ok (.iconst 2, 1) := by decide +kernel
theorem dL_pass_17 : decode cL_pass 17 = .ok (.ireturn, 1) := by decide +kernel
theorem dL_pass_18 : decode cL_pass 18 = .ok (.iconst 0, 1) := by decide +kernel
theorem dL_pass_19 : decode cL_pass 19 = .ok (.ireturn, 1) := by decide +kernel
theorem dL_fuel_0 : decode cL_fuel 0 = .ok (.aload_n 3, 1) := by decide +kernel
theorem dL_fuel_1 : decode cL_fuel 1 = .ok (.iconst 0, 1) := by decide +kernel
theorem dL_fuel_2 : decode cL_fuel 2 = .ok (.aload_n 0, 1) := by decide +kernel
theorem dL_fuel_3 : decode cL_fuel 3 = .ok (.iload_n 1, 1) := by decide +kernel
theorem dL_fuel_4 : decode cL_fuel 4 = .ok (.iload_n 2, 1) := by decide +kernel
theorem dL_fuel_5 : decode cL_fuel 5 = .ok (.invokevirtual 69, 3) := by decide +kernel
theorem dL_fuel_8 : decode cL_fuel 8 = .ok (.i2l, 1) := by decide +kernel
theorem dL_fuel_9 : decode cL_fuel 9 = .ok (.lastore, 1) := by decide +kernel
theorem dL_fuel_10 : decode cL_fuel 10 = .ok (.goto 7, 3) := by decide +kernel
theorem dL_fuel_13 : decode cL_fuel 13 = .ok (.astore 4, 2) := by decide +kernel
theorem dL_fuel_15 : decode cL_fuel 15 = .ok (.iconst 1, 1) := by decide +kernel
theorem dL_fuel_16 : decode cL_fuel 16 = .ok (.ireturn, 1) := by decide +kernel
theorem dL_fuel_17 : decode cL_fuel 17 = .ok (.iconst 0, 1) := by decide +kernel
theorem dL_fuel_18 : decode cL_fuel 18 = .ok (.ireturn, 1) := by decide +kernel
theorem dL_fire_0 : decode cL_fire 0 = .ok (.aload_n 3, 1) := by decide +kernel
theorem dL_fire_1 : decode cL_fire 1 = .ok (.iconst 0, 1) := by decide +kernel
theorem dL_fire_2 : decode cL_fire 2 = .ok (.aload_n 0, 1) := by decide +kernel
theorem dL_fire_3 : decode cL_fire 3 = .ok (.iload_n 1, 1) := by decide +kernel
theorem dL_fire_4 : decode cL_fire 4 = .ok (.iload_n 2, 1) := by decide +kernel
theorem dL_fire_5 : decode cL_fire 5 = .ok (.invokevirtual 72, 3) := by decide +kernel
theorem dL_fire_8 : decode cL_fire 8 = .ok (.i2l, 1) := by decide +kernel
theorem dL_fire_9 : decode cL_fire 9 = .ok (.lastore, 1) := by decide +kernel
theorem dL_fire_10 : decode cL_fire 10 = .ok (.goto 7, 3) := by decide +kernel
theorem dL_fire_13 : decode cL_fire 13 = .ok (.astore 4, 2) := by decide +kernel
theorem dL_fire_15 : decode cL_fire 15 = .ok (.iconst 1, 1) := by decide +kernel
theorem dL_fire_16 : decode cL_fire 16 = .ok (.ireturn, 1) := by decide +kernel
theorem dL_fire_17 : decode cL_fire 17 = .ok (.iconst 0, 1) := by decide +kernel
theorem dL_fire_18 : decode cL_fire 18 = .ok (.ireturn, 1) := by decide +kernel
theorem dL_smoke_0 : decode cL_smoke 0 = .ok (.aload_n 3, 1) := by decide +kernel
theorem dL_smoke_1 : decode cL_smoke 1 = .ok (.iconst 0, 1) := by decide +kernel
theorem dL_smoke_2 : decode cL_smoke 2 = .ok (.aload_n 0, 1) := by decide +kernel
theorem dL_smoke_3 : decode cL_smoke 3 = .ok (.iload_n 1, 1) := by decide +kernel
theorem dL_smoke_4 : decode cL_smoke 4 = .ok (.iload_n 2, 1) := by decide +kernel
theorem dL_smoke_5 : decode cL_smoke 5 = .ok (.invokevirtual 75, 3) := by decide +kernel
theorem dL_smoke_8 : decode cL_smoke 8 = .ok (.i2l, 1) := by decide +kernel
theorem dL_smoke_9 : decode cL_smoke 9 = .ok (.lastore, 1) := by decide +kernel
theorem dL_smoke_10 : decode cL_smoke 10 = .ok (.goto 7, 3) := by decide +kernel
theorem dL_smoke_13 : decode cL_smoke 13 = .ok (.astore 4, 2) := by decide +kernel
theorem dL_smoke_15 : decode cL_smoke 15 = .ok (.iconst 1, 1) := by decide +kernel
theorem dL_smoke_16 : decode cL_smoke 16 = .ok (.ireturn, 1) := by decide +kernel
theorem dL_smoke_17 : decode cL_smoke 17 = .ok (.iconst 0, 1) := by decide +kernel
theorem dL_smoke_18 : decode cL_smoke 18 = .ok (.ireturn, 1) := by decide +kernel
theorem dL_hasLine_0 : decode cL_hasLine 0 = .ok (.aload_n 3, 1) := by decide +kernel
theorem dL_hasLine_1 : decode cL_hasLine 1 = .ok (.iconst 0, 1) := by decide +kernel
theorem dL_hasLine_2 : decode cL_hasLine 2 = .ok (.aload_n 0, 1) := by decide +kernel
theorem dL_hasLine_3 : decode cL_hasLine 3 = .ok (.iload_n 1, 1) := by decide +kernel
theorem dL_hasLine_4 : decode cL_hasLine 4 = .ok (.iload_n 2, 1) := by decide +kernel
theorem dL_hasLine_5 : decode cL_hasLine 5 = .ok (.invokevirtual 78, 3) := by decide +kernel
theorem dL_hasLine_8 : decode cL_hasLine 8 = .ok (.ifCond .eq 7, 3) := by decide +kernel
theorem dL_hasLine_11 : decode cL_hasLine 11 = .ok (.lconst 1, 1) := by decide +kernel
theorem dL_hasLine_12 : decode cL_hasLine 12 = .ok (.goto 4, 3) := by decide +kernel
theorem dL_hasLine_15 : decode cL_hasLine 15 = .ok (.lconst 0, 1) := by decide +kernel
theorem dL_hasLine_16 : decode cL_hasLine 16 = .ok (.lastore, 1) := by decide +kernel
theorem dL_hasLine_17 : decode cL_hasLine 17 = .ok (.goto 7, 3) := by decide +kernel
theorem dL_hasLine_20 : decode cL_hasLine 20 = .ok (.astore 4, 2) := by decide +kernel
theorem dL_hasLine_22 : decode cL_hasLine 22 = .ok (.iconst 1, 1) := by decide +kernel
theorem dL_hasLine_23 : decode cL_hasLine 23 = .ok (.ireturn, 1) := by decide +kernel
theorem dL_hasLine_24 : decode cL_hasLine 24 = .ok (.iconst 0, 1) := by decide +kernel
theorem dL_hasLine_25 : decode cL_hasLine 25 = .ok (.ireturn, 1) := by decide +kernel
theorem dL_left_0 : decode cL_left 0 = .ok (.aload_n 2, 1) := by decide +kernel
theorem dL_left_1 : decode cL_left 1 = .ok (.iconst 0, 1) := by decide +kernel
theorem dL_left_2 : decode cL_left 2 = .ok (.aload_n 0, 1) := by decide +kernel
theorem dL_left_3 : decode cL_left 3 = .ok (.iload_n 1, 1) := by decide +kernel
theorem dL_left_4 : decode cL_left 4 = .ok (.invokevirtual 82, 3) := by decide +kernel
theorem dL_left_7 : decode cL_left 7 = .ok (.i2l, 1) := by decide +kernel
theorem dL_left_8 : decode cL_left 8 = .ok (.lastore, 1) := by decide +kernel
theorem dL_left_9 : decode cL_left 9 = .ok (.goto 6, 3) := by decide +kernel
theorem dL_left_12 : decode cL_left 12 = .ok (.astore_n 3, 1) := by decide +kernel
theorem dL_left_13 : decode cL_left 13 = .ok (.iconst 1, 1) := by decide +kernel
theorem dL_left_14 : decode cL_left 14 = .ok (.ireturn, 1) := by decide +kernel
theorem dL_left_15 : decode cL_left 15 = .ok (.iconst 0, 1) := by decide +kernel
theorem dL_left_16 : decode cL_left 16 = .ok (.ireturn, 1) := by decide +kernel
theorem dL_forecast_0 : decode cL_forecast 0 = .ok (.aload 4, 2) := by decide +kernel
theorem dL_forecast_2 : decode cL_forecast 2 = .ok (.iconst 0, 1) := by decide +kernel
theorem dL_forecast_3 : decode cL_forecast 3 = .ok (.aload_n 0, 1) := by decide +kernel
theorem dL_forecast_4 : decode cL_forecast 4 = .ok (.iload_n 1, 1) := by decide +kernel
theorem dL_forecast_5 : decode cL_forecast 5 = .ok (.iload_n 2, 1) := by decide +kernel
theorem dL_forecast_6 : decode cL_forecast 6 = .ok (.iload_n 3, 1) := by decide +kernel
theorem dL_forecast_7 : decode cL_forecast 7 = .ok (.invokevirtual 85, 3) := by decide +kernel
theorem dL_forecast_10 : decode cL_forecast 10 = .ok (.i2l, 1) := by decide +kernel
theorem dL_forecast_11 : decode cL_forecast 11 = .ok (.lastore, 1) := by decide +kernel
theorem dL_forecast_12 : decode cL_forecast 12 = .ok (.goto 11, 3) := by decide +kernel
theorem dL_forecast_15 : decode cL_forecast 15 = .ok (.astore 5, 2) := by decide +kernel
theorem dL_forecast_17 : decode cL_forecast 17 = .ok (.iconst 1, 1) := by decide +kernel
theorem dL_forecast_18 : decode cL_forecast 18 = .ok (.ireturn, 1) := by decide +kernel
theorem dL_forecast_19 : decode cL_forecast 19 = .ok (.astore 5, 2) := by decide +kernel
theorem dL_forecast_21 : decode cL_forecast 21 = .ok (.iconst 2, 1) := by decide +kernel
theorem dL_forecast_22 : decode cL_forecast 22 = .ok (.ireturn, 1) := by decide +kernel
theorem dL_forecast_23 : decode cL_forecast 23 = .ok (.iconst 0, 1) := by decide +kernel
theorem dL_forecast_24 : decode cL_forecast 24 = .ok (.ireturn, 1) := by decide +kernel
theorem dL_worst_0 : decode cL_worst 0 = .ok (.aload 4, 2) := by decide +kernel
theorem dL_worst_2 : decode cL_worst 2 = .ok (.iconst 0, 1) := by decide +kernel
theorem dL_worst_3 : decode cL_worst 3 = .ok (.aload_n 0, 1) := by decide +kernel
theorem dL_worst_4 : decode cL_worst 4 = .ok (.iload_n 1, 1) := by decide +kernel
theorem dL_worst_5 : decode cL_worst 5 = .ok (.iload_n 2, 1) := by decide +kernel
theorem dL_worst_6 : decode cL_worst 6 = .ok (.iload_n 3, 1) := by decide +kernel
theorem dL_worst_7 : decode cL_worst 7 = .ok (.invokevirtual 88, 3) := by decide +kernel
theorem dL_worst_10 : decode cL_worst 10 = .ok (.i2l, 1) := by decide +kernel
theorem dL_worst_11 : decode cL_worst 11 = .ok (.lastore, 1) := by decide +kernel
theorem dL_worst_12 : decode cL_worst 12 = .ok (.goto 11, 3) := by decide +kernel
theorem dL_worst_15 : decode cL_worst 15 = .ok (.astore 5, 2) := by decide +kernel
theorem dL_worst_17 : decode cL_worst 17 = .ok (.iconst 1, 1) := by decide +kernel
theorem dL_worst_18 : decode cL_worst 18 = .ok (.ireturn, 1) := by decide +kernel
theorem dL_worst_19 : decode cL_worst 19 = .ok (.astore 5, 2) := by decide +kernel
theorem dL_worst_21 : decode cL_worst 21 = .ok (.iconst 2, 1) := by decide +kernel
theorem dL_worst_22 : decode cL_worst 22 = .ok (.ireturn, 1) := by decide +kernel
theorem dL_worst_23 : decode cL_worst 23 = .ok (.iconst 0, 1) := by decide +kernel
theorem dL_worst_24 : decode cL_worst 24 = .ok (.ireturn, 1) := by decide +kernel
theorem dL_warnedAt_0 : decode cL_warnedAt 0 = .ok (.aload_n 2, 1) := by decide +kernel
theorem dL_warnedAt_1 : decode cL_warnedAt 1 = .ok (.iconst 0, 1) := by decide +kernel
theorem dL_warnedAt_2 : decode cL_warnedAt 2 = .ok (.aload_n 0, 1) := by decide +kernel
theorem dL_warnedAt_3 : decode cL_warnedAt 3 = .ok (.iload_n 1, 1) := by decide +kernel
theorem dL_warnedAt_4 : decode cL_warnedAt 4 = .ok (.invokevirtual 91, 3) := by decide +kernel
theorem dL_warnedAt_7 : decode cL_warnedAt 7 = .ok (.i2l, 1) := by decide +kernel
theorem dL_warnedAt_8 : decode cL_warnedAt 8 = .ok (.lastore, 1) := by decide +kernel
theorem dL_warnedAt_9 : decode cL_warnedAt 9 = .ok (.goto 6, 3) := by decide +kernel
theorem dL_warnedAt_12 : decode cL_warnedAt 12 = .ok (.astore_n 3, 1) := by decide +kernel
theorem dL_warnedAt_13 : decode cL_warnedAt 13 = .ok (.iconst 1, 1) := by decide +kernel
theorem dL_warnedAt_14 : decode cL_warnedAt 14 = .ok (.ireturn, 1) := by decide +kernel
theorem dL_warnedAt_15 : decode cL_warnedAt 15 = .ok (.iconst 0, 1) := by decide +kernel
theorem dL_warnedAt_16 : decode cL_warnedAt 16 = .ok (.ireturn, 1) := by decide +kernel
theorem dL_warnedWhom_0 : decode cL_warnedWhom 0 = .ok (.aload_n 2, 1) := by decide +kernel
theorem dL_warnedWhom_1 : decode cL_warnedWhom 1 = .ok (.iconst 0, 1) := by decide +kernel
theorem dL_warnedWhom_2 : decode cL_warnedWhom 2 = .ok (.aload_n 0, 1) := by decide +kernel
theorem dL_warnedWhom_3 : decode cL_warnedWhom 3 = .ok (.iload_n 1, 1) := by decide +kernel
theorem dL_warnedWhom_4 : decode cL_warnedWhom 4 = .ok (.invokevirtual 94, 3) := by decide +kernel
theorem dL_warnedWhom_7 : decode cL_warnedWhom 7 = .ok (.i2l, 1) := by decide +kernel
theorem dL_warnedWhom_8 : decode cL_warnedWhom 8 = .ok (.lastore, 1) := by decide +kernel
theorem dL_warnedWhom_9 : decode cL_warnedWhom 9 = .ok (.goto 6, 3) := by decide +kernel
theorem dL_warnedWhom_12 : decode cL_warnedWhom 12 = .ok (.astore_n 3, 1) := by decide +kernel
theorem dL_warnedWhom_13 : decode cL_warnedWhom 13 = .ok (.iconst 1, 1) := by decide +kernel
theorem dL_warnedWhom_14 : decode cL_warnedWhom 14 = .ok (.ireturn, 1) := by decide +kernel
theorem dL_warnedWhom_15 : decode cL_warnedWhom 15 = .ok (.iconst 0, 1) := by decide +kernel
theorem dL_warnedWhom_16 : decode cL_warnedWhom 16 = .ok (.ireturn, 1) := by decide +kernel
theorem dL_warnedBy_0 : decode cL_warnedBy 0 = .ok (.aload_n 2, 1) := by decide +kernel
theorem dL_warnedBy_1 : decode cL_warnedBy 1 = .ok (.iconst 0, 1) := by decide +kernel
theorem dL_warnedBy_2 : decode cL_warnedBy 2 = .ok (.aload_n 0, 1) := by decide +kernel
theorem dL_warnedBy_3 : decode cL_warnedBy 3 = .ok (.iload_n 1, 1) := by decide +kernel
theorem dL_warnedBy_4 : decode cL_warnedBy 4 = .ok (.invokevirtual 97, 3) := by decide +kernel
theorem dL_warnedBy_7 : decode cL_warnedBy 7 = .ok (.i2l, 1) := by decide +kernel
theorem dL_warnedBy_8 : decode cL_warnedBy 8 = .ok (.lastore, 1) := by decide +kernel
theorem dL_warnedBy_9 : decode cL_warnedBy 9 = .ok (.goto 6, 3) := by decide +kernel
theorem dL_warnedBy_12 : decode cL_warnedBy 12 = .ok (.astore_n 3, 1) := by decide +kernel
theorem dL_warnedBy_13 : decode cL_warnedBy 13 = .ok (.iconst 1, 1) := by decide +kernel
theorem dL_warnedBy_14 : decode cL_warnedBy 14 = .ok (.ireturn, 1) := by decide +kernel
theorem dL_warnedBy_15 : decode cL_warnedBy 15 = .ok (.iconst 0, 1) := by decide +kernel
theorem dL_warnedBy_16 : decode cL_warnedBy 16 = .ok (.ireturn, 1) := by decide +kernel
theorem dL_trustShare_0 : decode cL_trustShare 0 = .ok (.aload_n 1, 1) := by decide +kernel
theorem dL_trustShare_1 : decode cL_trustShare 1 = .ok (.iconst 0, 1) := by decide +kernel
theorem dL_trustShare_2 : decode cL_trustShare 2 = .ok (.aload_n 0, 1) := by decide +kernel
theorem dL_trustShare_3 : decode cL_trustShare 3 = .ok (.invokevirtual 100, 3) := by decide +kernel
theorem dL_trustShare_6 : decode cL_trustShare 6 = .ok (.f2d, 1) := by decide +kernel
theorem dL_trustShare_7 : decode cL_trustShare 7 = .ok (.dastore, 1) := by decide +kernel
theorem dL_trustShare_8 : decode cL_trustShare 8 = .ok (.goto 6, 3) := by decide +kernel
theorem dL_trustShare_11 : decode cL_trustShare 11 = .ok (.astore_n 2, 1) := by decide +kernel
theorem dL_trustShare_12 : decode cL_trustShare 12 = .ok (.iconst 1, 1) := by decide +kernel
theorem dL_trustShare_13 : decode cL_trustShare 13 = .ok (.ireturn, 1) := by decide +kernel
theorem dL_trustShare_14 : decode cL_trustShare 14 = .ok (.iconst 0, 1) := by decide +kernel
theorem dL_trustShare_15 : decode cL_trustShare 15 = .ok (.ireturn, 1) := by decide +kernel
