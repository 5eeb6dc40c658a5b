theorem dL_parse_0 : decode cL_parse 0 = .ok (.aload_n 2, 1) := by decide +kernel
theorem dL_parse_1 : decode cL_parse 1 = .ok (.iconst 0, 1) := by decide +kernel
theorem dL_parse_2 : decode cL_parse 2 = .ok (.aload_n 0, 1) := by decide +kernel
theorem dL_parse_3 : decode cL_parse 3 = .ok (.iload_n 1, 1) := by decide +kernel
theorem dL_parse_4 : decode cL_parse 4 = .ok (.invokevirtual 7, 3) := by decide +kernel
theorem dL_parse_7 : decode cL_parse 7 = .ok (.i2l, 1) := by decide +kernel
theorem dL_parse_8 : decode cL_parse 8 = .ok (.lastore, 1) := by decide +kernel
theorem dL_parse_9 : decode cL_parse 9 = .ok (.goto 6, 3) := by decide +kernel
theorem dL_parse_12 : decode cL_parse 12 = .ok (.astore_n 3, 1) := by decide +kernel
theorem dL_parse_13 : decode cL_parse 13 = .ok (.iconst 1, 1) := by decide +kernel
theorem dL_parse_14 : decode cL_parse 14 = .ok (.ireturn, 1) := by decide +kernel
theorem dL_parse_15 : decode cL_parse 15 = .ok (.iconst 0, 1) := by decide +kernel
theorem dL_parse_16 : decode cL_parse 16 = .ok (.ireturn, 1) := by decide +kernel
theorem dL_size_0 : decode cL_size 0 = .ok (.aload_n 2, 1) := by decide +kernel
theorem dL_size_1 : decode cL_size 1 = .ok (.iconst 0, 1) := by decide +kernel
theorem dL_size_2 : decode cL_size 2 = .ok (.aload_n 0, 1) := by decide +kernel
theorem dL_size_3 : decode cL_size 3 = .ok (.iload_n 1, 1) := by decide +kernel
theorem dL_size_4 : decode cL_size 4 = .ok (.invokevirtual 15, 3) := by decide +kernel
theorem dL_size_7 : decode cL_size 7 = .ok (.i2l, 1) := by decide +kernel
theorem dL_size_8 : decode cL_size 8 = .ok (.lastore, 1) := by decide +kernel
theorem dL_size_9 : decode cL_size 9 = .ok (.goto 6, 3) := by decide +kernel
theorem dL_size_12 : decode cL_size 12 = .ok (.astore_n 3, 1) := by decide +kernel
theorem dL_size_13 : decode cL_size 13 = .ok (.iconst 1, 1) := by decide +kernel
theorem dL_size_14 : decode cL_size 14 = .ok (.ireturn, 1) := by decide +kernel
theorem dL_size_15 : decode cL_size 15 = .ok (.iconst 0, 1) := by decide +kernel
theorem dL_size_16 : decode cL_size 16 = .ok (.ireturn, 1) := by decide +kernel
theorem dL_bikes_0 : decode cL_bikes 0 = .ok (.aload_n 2, 1) := by decide +kernel
theorem dL_bikes_1 : decode cL_bikes 1 = .ok (.iconst 0, 1) := by decide +kernel
theorem dL_bikes_2 : decode cL_bikes 2 = .ok (.aload_n 0, 1) := by decide +kernel
theorem dL_bikes_3 : decode cL_bikes 3 = .ok (.iload_n 1, 1) := by decide +kernel
theorem dL_bikes_4 : decode cL_bikes 4 = .ok (.invokevirtual 18, 3) := by decide +kernel
theorem dL_bikes_7 : decode cL_bikes 7 = .ok (.i2l, 1) := by decide +kernel
theorem dL_bikes_8 : decode cL_bikes 8 = .ok (.lastore, 1) := by decide +kernel
theorem dL_bikes_9 : decode cL_bikes 9 = .ok (.goto 6, 3) := by decide +kernel
theorem dL_bikes_12 : decode cL_bikes 12 = .ok (.astore_n 3, 1) := by decide +kernel
theorem dL_bikes_13 : decode cL_bikes 13 = .ok (.iconst 1, 1) := by decide +kernel
theorem dL_bikes_14 : decode cL_bikes 14 = .ok (.ireturn, 1) := by decide +kernel
theorem dL_bikes_15 : decode cL_bikes 15 = .ok (.iconst 0, 1) := by decide +kernel
theorem dL_bikes_16 : decode cL_bikes 16 = .ok (.ireturn, 1) := by decide +kernel
theorem dL_freeDocks_0 : decode cL_freeDocks 0 = .ok (.aload_n 2, 1) := by decide +kernel
theorem dL_freeDocks_1 : decode cL_freeDocks 1 = .ok (.iconst 0, 1) := by decide +kernel
theorem dL_freeDocks_2 : decode cL_freeDocks 2 = .ok (.aload_n 0, 1) := by decide +kernel
theorem dL_freeDocks_3 : decode cL_freeDocks 3 = .ok (.iload_n 1, 1) := by decide +kernel
theorem dL_freeDocks_4 : decode cL_freeDocks 4 = .ok (.invokevirtual 23, 3) := by decide +kernel
theorem dL_freeDocks_7 : decode cL_freeDocks 7 = .ok (.i2l, 1) := by decide +kernel
theorem dL_freeDocks_8 : decode cL_freeDocks 8 = .ok (.lastore, 1) := by decide +kernel
theorem dL_freeDocks_9 : decode cL_freeDocks 9 = .ok (.goto 6, 3) := by decide +kernel
theorem dL_freeDocks_12 : decode cL_freeDocks 12 = .ok (.astore_n 3, 1) := by decide +kernel
theorem dL_freeDocks_13 : decode cL_freeDocks 13 = .ok (.iconst 1, 1) := by decide +kernel
theorem dL_freeDocks_14 : decode cL_freeDocks 14 = .ok (.ireturn, 1) := by decide +kernel
theorem dL_freeDocks_15 : decode cL_freeDocks 15 = .ok (.iconst 0, 1) := by decide +kernel
theorem dL_freeDocks_16 : decode cL_freeDocks 16 = .ok (.ireturn, 1) := by decide +kernel
theorem dL_brokenDocks_0 : decode cL_brokenDocks 0 = .ok (.aload_n 2, 1) := by decide +kernel
theorem dL_brokenDocks_1 : decode cL_brokenDocks 1 = .ok (.iconst 0, 1) := by decide +kernel
theorem dL_brokenDocks_2 : decode cL_brokenDocks 2 = .ok (.aload_n 0, 1) := by decide +kernel
theorem dL_brokenDocks_3 : decode cL_brokenDocks 3 = .ok (.iload_n 1, 1) := by decide +kernel
theorem dL_brokenDocks_4 : decode cL_brokenDocks 4 = .ok (.invokevirtual 26, 3) := by decide +kernel
theorem dL_brokenDocks_7 : decode cL_brokenDocks 7 = .ok (.i2l, 1) := by decide +kernel
theorem dL_brokenDocks_8 : decode cL_brokenDocks 8 = .ok (.lastore, 1) := by decide +kernel
theorem dL_brokenDocks_9 : decode cL_brokenDocks 9 = .ok (.goto 6, 3) := by decide +kernel
theorem dL_brokenDocks_12 : decode cL_brokenDocks 12 = .ok (.astore_n 3, 1) := by decide +kernel
theorem dL_brokenDocks_13 : decode cL_brokenDocks 13 = .ok (.iconst 1, 1) := by decide +kernel
theorem dL_brokenDocks_14 : decode cL_brokenDocks 14 = .ok (.ireturn, 1) := by decide +kernel
theorem dL_brokenDocks_15 : decode cL_brokenDocks 15 = .ok (.iconst 0, 1) := by decide +kernel
theorem dL_brokenDocks_16 : decode cL_brokenDocks 16 = .ok (.ireturn, 1) := by decide +kernel
theorem dL_isBalanced_0 : decode cL_isBalanced 0 = .ok (.aload_n 2, 1) := by decide +kernel
theorem dL_isBalanced_1 : decode cL_isBalanced 1 = .ok (.iconst 0, 1) := by decide +kernel
theorem dL_isBalanced_2 : decode cL_isBalanced 2 = .ok (.aload_n 0, 1) := by decide +kernel
theorem dL_isBalanced_3 : decode cL_isBalanced 3 = .ok (.iload_n 1, 1) := by decide +kernel
theorem dL_isBalanced_4 : decode cL_isBalanced 4 = .ok (.invokevirtual 29, 3) := by decide +kernel
theorem dL_isBalanced_7 : decode cL_isBalanced 7 = .ok (.ifCond .eq 7, 3) := by decide +kernel
theorem dL_isBalanced_10 : decode cL_isBalanced 10 = .ok (.lconst 1, 1) := by decide +kernel
theorem dL_isBalanced_11 : decode cL_isBalanced 11 = .ok (.goto 4, 3) := by decide +kernel
theorem dL_isBalanced_14 : decode cL_isBalanced 14 = .ok (.lconst 0, 1) := by decide +kernel
theorem dL_isBalanced_15 : decode cL_isBalanced 15 = .ok (.lastore, 1) := by decide +kernel
theorem dL_isBalanced_16 : decode cL_isBalanced 16 = .ok (.goto 6, 3) := by decide +kernel
theorem dL_isBalanced_19 : decode cL_isBalanced 19 = .ok (.astore_n 3, 1) := by decide +kernel
theorem dL_isBalanced_20 : decode cL_isBalanced 20 = .ok (.iconst 1, 1) := by decide +kernel
theorem dL_isBalanced_21 : decode cL_isBalanced 21 = .ok (.ireturn, 1) := by decide +kernel
theorem dL_isBalanced_22 : decode cL_isBalanced 22 = .ok (.iconst 0, 1) := by decide +kernel
theorem dL_isBalanced_23 : decode cL_isBalanced 23 = .ok (.ireturn, 1) := by decide +kernel
theorem dL_nearest_0 : decode cL_nearest 0 = .ok (.aload_n 3, 1) := by decide +kernel
theorem dL_nearest_1 : decode cL_nearest 1 = .ok (.iconst 0, 1) := by decide +kernel
theorem dL_nearest_2 : decode cL_nearest 2 = .ok (.aload_n 0, 1) := by decide +kernel
theorem dL_nearest_3 : decode cL_nearest 3 = .ok (.iload_n 1, 1) := by decide +kernel
theorem dL_nearest_4 : decode cL_nearest 4 = .ok (.iload_n 2, 1) := by decide +kernel
theorem dL_nearest_5 : decode cL_nearest 5 = .ok (.invokevirtual 33, 3) := by decide +kernel
theorem dL_nearest_8 : decode cL_nearest 8 = .ok (.i2l, 1) := by decide +kernel
theorem dL_nearest_9 : decode cL_nearest 9 = .ok (.lastore, 1) := by decide +kernel
theorem dL_nearest_10 : decode cL_nearest 10 = .ok (.goto 7, 3) := by decide +kernel
theorem dL_nearest_13 : decode cL_nearest 13 = .ok (.astore 4, 2) := by decide +kernel
theorem dL_nearest_15 : decode cL_nearest 15 = .ok (.iconst 1, 1) := by decide +kernel
theorem dL_nearest_16 : decode cL_nearest 16 = .ok (.ireturn, 1) := by decide +kernel
theorem dL_nearest_17 : decode cL_nearest 17 = .ok (.iconst 0, 1) := by decide +kernel
theorem dL_nearest_18 : decode cL_nearest 18 = .ok (.ireturn, 1) := by decide +kernel
theorem dL_rideMinutes_0 : decode cL_rideMinutes 0 = .ok (.aload_n 3, 1) := by decide +kernel
theorem dL_rideMinutes_1 : decode cL_rideMinutes 1 = .ok (.iconst 0, 1) := by decide +kernel
theorem dL_rideMinutes_2 : decode cL_rideMinutes 2 = .ok (.aload_n 0, 1) := by decide +kernel
theorem dL_rideMinutes_3 : decode cL_rideMinutes 3 = .ok (.iload_n 1, 1) := by decide +kernel
theorem dL_rideMinutes_4 : decode cL_rideMinutes 4 = .ok (.iload_n 2, 1) := by decide +kernel
theorem dL_rideMinutes_5 : decode cL_rideMinutes 5 = .ok (.invokevirtual 37, 3) := by decide +kernel
theorem dL_rideMinutes_8 : decode cL_rideMinutes 8 = .ok (.i2l, 1) := by decide +kernel
theorem dL_rideMinutes_9 : decode cL_rideMinutes 9 = .ok (.lastore, 1) := by decide +kernel
theorem dL_rideMinutes_10 : decode cL_rideMinutes 10 = .ok (.goto 7, 3) := by decide +kernel
theorem dL_rideMinutes_13 : decode cL_rideMinutes 13 = .ok (.astore 4, 2) := by decide +kernel
theorem dL_rideMinutes_15 : decode cL_rideMinutes 15 = .ok (.iconst 1, 1) := by decide +kernel
theorem dL_rideMinutes_16 : decode cL_rideMinutes 16 = .ok (.ireturn, 1) := by decide +kernel
theorem dL_rideMinutes_17 : decode cL_rideMinutes 17 = .ok (.iconst 0, 1) := by decide +kernel
theorem dL_rideMinutes_18 : decode cL_rideMinutes 18 = .ok (.ireturn, 1) := by decide +kernel
theorem dL_quote_0 : decode cL_quote 0 = .ok (.aload_n 3, 1) := by decide +kernel
theorem dL_quote_1 : decode cL_quote 1 = .ok (.iconst 0, 1) := by decide +kernel
theorem dL_quote_2 : decode cL_quote 2 = .ok (.aload_n 0, 1) := by decide +kernel
theorem dL_quote_3 : decode cL_quote 3 = .ok (.iload_n 1, 1) := by decide +kernel
theorem dL_quote_4 : decode cL_quote 4 = .ok (.iload_n 2, 1) := by decide +kernel
theorem dL_quote_5 : decode cL_quote 5 = .ok (.invokevirtual 41, 3) := by decide +kernel
theorem dL_quote_8 : decode cL_quote 8 = .ok (.i2l, 1) := by decide +kernel
theorem dL_quote_9 : decode cL_quote 9 = .ok (.lastore, 1) := by decide +kernel
theorem dL_quote_10 : decode cL_quote 10 = .ok (.goto 7, 3) := by decide +kernel
theorem dL_quote_13 : decode cL_quote 13 = .ok (.astore 4, 2) := by decide +kernel
theorem dL_quote_15 : decode cL_quote 15 = .ok (.iconst 1, 1) := by decide +kernel
theorem dL_quote_16 : decode cL_quote 16 = .ok (.ireturn, 1) := by decide +kernel
theorem dL_quote_17 : decode cL_quote 17 = .ok (.iconst 0, 1) := by decide +kernel
theorem dL_quote_18 : decode cL_quote 18 = .ok (.ireturn, 1) := by decide +kernel
theorem dL_bonusAt_0 : decode cL_bonusAt 0 = .ok (.aload_n 2, 1) := by decide +kernel
theorem dL_bonusAt_1 : decode cL_bonusAt 1 = .ok (.iconst 0, 1) := by decide +kernel
theorem dL_bonusAt_2 : decode cL_bonusAt 2 = .ok (.aload_n 0, 1) := by decide +kernel
theorem dL_bonusAt_3 : decode cL_bonusAt 3 = .ok (.iload_n 1, 1) := by decide +kernel
theorem dL_bonusAt_4 : decode cL_bonusAt 4 = .ok (.invokevirtual 44, 3) := by decide +kernel
theorem dL_bonusAt_7 : decode cL_bonusAt 7 = .ok (.i2l, 1) := by decide +kernel
theorem dL_bonusAt_8 : decode cL_bonusAt 8 = .ok (.lastore, 1) := by decide +kernel
theorem dL_bonusAt_9 : decode cL_bonusAt 9 = .ok (.goto 6, 3) := by decide +kernel
theorem dL_bonusAt_12 : decode cL_bonusAt 12 = .ok (.astore_n 3, 1) := by decide +kernel
theorem dL_bonusAt_13 : decode cL_bonusAt 13 = .ok (.iconst 1, 1) := by decide +kernel
theorem dL_bonusAt_14 : decode cL_bonusAt 14 = .ok (.ireturn, 1) := by decide +kernel
theorem dL_bonusAt_15 : decode cL_bonusAt 15 = .ok (.iconst 0, 1) := by decide +kernel
theorem dL_bonusAt_16 : decode cL_bonusAt 16 = .ok (.ireturn, 1) := by decide +kernel
theorem dL_bestDeal_0 : decode cL_bestDeal 0 = .ok (.aload_n 2, 1) := by decide +kernel
theorem dL_bestDeal_1 : decode cL_bestDeal 1 = .ok (.iconst 0, 1) := by decide +kernel
theorem dL_bestDeal_2 : decode cL_bestDeal 2 = .ok (.aload_n 0, 1) := by decide +kernel
theorem dL_bestDeal_3 : decode cL_bestDeal 3 = .ok (.iload_n 1, 1) := by decide +kernel
theorem dL_bestDeal_4 : decode cL_bestDeal 4 = .ok (.invokevirtual 47, 3) := by decide +kernel
theorem dL_bestDeal_7 : decode cL_bestDeal 7 = .ok (.i2l, 1) := by decide +kernel
theorem dL_bestDeal_8 : decode cL_bestDeal 8 = .ok (.lastore, 1) := by decide +kernel
theorem dL_bestDeal_9 : decode cL_bestDeal 9 = .ok (.goto 6, 3) := by decide +kernel
theorem dL_bestDeal_12 : decode cL_bestDeal 12 = .ok (.astore_n 3, 1) := by decide +kernel
theorem dL_bestDeal_13 : decode cL_bestDeal 13 = .ok (.iconst 1, 1) := by decide +kernel
theorem dL_bestDeal_14 : decode cL_bestDeal 14 = .ok (.ireturn, 1) := by decide +kernel
theorem dL_bestDeal_15 : decode cL_bestDeal 15 = .ok (.iconst 0, 1) := by decide +kernel
theorem dL_bestDeal_16 : decode cL_bestDeal 16 = .ok (.ireturn, 1) := by decide +kernel
theorem dL_rider_0 : decode cL_rider 0 = .ok (.aload_n 3, 1) := by decide +kernel
theorem dL_rider_1 : decode cL_rider 1 = .ok (.iconst 0, 1) := by decide +kernel
theorem dL_rider_2 : decode cL_rider 2 = .ok (.aload_n 0, 1) := by decide +kernel
theorem dL_rider_3 : decode cL_rider 3 = .ok (.iload_n 1, 1) := by decide +kernel
theorem dL_rider_4 : decode cL_rider 4 = .ok (.iload_n 2, 1) := by decide +kernel
theorem dL_rider_5 : decode cL_rider 5 = .ok (.invokevirtual 50, 3) := by decide +kernel
theorem dL_rider_8 : decode cL_rider 8 = .ok (.i2l, 1) := by decide +kernel
theorem dL_rider_9 : decode cL_rider 9 = .ok (.lastore, 1) := by decide +kernel
theorem dL_rider_10 : decode cL_rider 10 = .ok (.goto 11, 3) := by decide +kernel
theorem dL_rider_13 : decode cL_rider 13 = .ok (.astore 4, 2) := by decide +kernel
theorem dL_rider_15 : decode cL_rider 15 = .ok (.iconst 1, 1) := by decide +kernel
theorem dL_rider_16 : decode cL_rider 16 = .ok (.ireturn, 1) := by decide +kernel
theorem dL_rider_17 : decode cL_rider 17 = .ok (.astore 4, 2) := by decide +kernel
theorem dL_rider_19 : decode cL_rider 19 = .ok (.iconst 2, 1) := by decide +kernel
theorem dL_rider_20 : decode cL_rider 20 = .ok (.ireturn, 1) := by decide +kernel
theorem dL_rider_21 : decode cL_rider 21 = .ok (.iconst 0, 1) := by decide +kernel
theorem dL_rider_22 : decode cL_rider 22 = .ok (.ireturn, 1) := by decide +kernel
theorem dL_ridesBetween_0 : decode cL_ridesBetween 0 = .ok (.aload_n 3, 1) := by decide +kernel
theorem dL_ridesBetween_1 : decode cL_ridesBetween 1 = .ok (.iconst 0, 1) := by decide +kernel
theorem dL_ridesBetween_2 : decode cL_ridesBetween 2 = .ok (.aload_n 0, 1) := by decide +kernel
theorem dL_ridesBetween_3 : decode cL_ridesBetween 3 = .ok (.iload_n 1, 1) := by decide +kernel
theorem dL_ridesBetween_4 : decode cL_ridesBetween 4 = .ok (.iload_n 2, 1) := by decide +kernel
theorem dL_ridesBetween_5 : decode cL_ridesBetween 5 = .ok (.invokevirtual 53, 3) := by decide +kernel
theorem dL_ridesBetween_8 : decode cL_ridesBetween 8 = .ok (.i2l, 1) := by decide +kernel
theorem dL_ridesBetween_9 : decode cL_ridesBetween 9 = .ok (.lastore, 1) := by decide +kernel
theorem dL_ridesBetween_10 : decode cL_ridesBetween 10 = .ok (.goto 7, 3) := by decide +kernel
theorem dL_ridesBetween_13 : decode cL_ridesBetween 13 = .ok (.astore 4, 2) := by decide +kernel
theorem dL_ridesBetween_15 : decode cL_ridesBetween 15 = .ok (.iconst 1, 1) := by decide +kernel
theorem dL_ridesBetween_16 : decode cL_ridesBetween 16 = .ok (.ireturn, 1) := by decide +kernel
theorem dL_ridesBetween_17 : decode cL_ridesBetween 17 = .ok (.iconst 0, 1) := by decide +kernel
theorem dL_ridesBetween_18 : decode cL_ridesBetween 18 = .ok (.ireturn, 1) := by decide +kernel
theorem dL_truck_0 : decode cL_truck 0 = .ok (.aload_n 3, 1) := by decide +kernel
theorem dL_truck_1 : decode cL_truck 1 = .ok (.iconst 0, 1) := by decide +kernel
theorem dL_truck_2 : decode cL_truck 2 = .ok (.aload_n 0, 1) := by decide +kernel
theorem dL_truck_3 : decode cL_truck 3 = .ok (.iload_n 1, 1) := by decide +kernel
theorem dL_truck_4 : decode cL_truck 4 = .ok (.iload_n 2, 1) := by decide +kernel
theorem dL_truck_5 : decode cL_truck 5 = .ok (.invokevirtual 56, 3) := by decide +kernel
theorem dL_truck_8 : decode cL_truck 8 = .ok (.i2l, 1) := by decide +kernel
theorem dL_truck_9 : decode cL_truck 9 = .ok (.lastore, 1) := by decide +kernel
theorem dL_truck_10 : decode cL_truck 10 = .ok (.goto 11, 3) := by decide +kernel
theorem dL_truck_13 : decode cL_truck 13 = .ok (.astore 4, 2) := by decide +kernel
theorem dL_truck_15 : decode cL_truck 15 = .ok (.iconst 1, 1) := by decide +kernel
theorem dL_truck_16 : decode cL_truck 16 = .ok (.ireturn, 1) := by decide +kernel
theorem dL_truck_17 : decode cL_truck 17 = .ok (.astore 4, 2) := by decide +kernel
theorem dL_truck_19 : decode cL_truck 19 = .ok (.iconst 2, 1) := by decide +kernel
theorem dL_truck_20 : decode cL_truck 20 = .ok (.ireturn, 1) := by decide +kernel
theorem dL_truck_21 : decode cL_truck 21 = .ok (.iconst 0, 1) := by decide +kernel
theorem dL_truck_22 : decode cL_truck 22 = .ok (.ireturn, 1) := by decide +kernel
theorem dL_tourMinutes_0 : decode cL_tourMinutes 0 = .ok (.aload_n 2, 1) := by decide +kernel
theorem dL_tourMinutes_1 : decode cL_tourMinutes 1 = .ok (.iconst 0, 1) := by decide +kernel
theorem dL_tourMinutes_2 : decode cL_tourMinutes 2 = .ok (.aload_n 0, 1) := by decide +kernel
theorem dL_tourMinutes_3 : decode cL_tourMinutes 3 = .ok (.iload_n 1, 1) := by decide +kernel
theorem dL_tourMinutes_4 : decode cL_tourMinutes 4 = .ok (.invokevirtual 59, 3) := by decide +kernel
theorem dL_tourMinutes_7 : decode cL_tourMinutes 7 = .ok (.i2l, 1) := by decide +kernel
theorem dL_tourMinutes_8 : decode cL_tourMinutes 8 = .ok (.lastore, 1) := by decide +kernel
theorem dL_tourMinutes_9 : decode cL_tourMinutes 9 = .ok (.goto 9, 3) := by decide +kernel
theorem dL_tourMinutes_12 : decode cL_tourMinutes 12 = .ok (.astore_n 3, 1) := by decide +kernel
theorem dL_tourMinutes_13 : decode cL_tourMinutes 13 = .ok (.iconst 1, 1) := by decide +kernel
theorem dL_tourMinutes_14 : decode cL_tourMinutes 14 = .ok (.ireturn, 1) := by decide +kernel
theorem dL_tourMinutes_15 : decode cL_tourMinutes 15 = .ok (.astore_n 3, 1) := by decide +kernel
theorem dL_tourMinutes_16 : decode cL_tourMinutes 16 = .ok (.iconst 2, 1) := by decide +kernel
theorem dL_tourMinutes_17 : decode cL_tourMinutes 17 = .ok (.ireturn, 1) := by decide +kernel
theorem dL_tourMinutes_18 : decode cL_tourMinutes 18 = .ok (.iconst 0, 1) := by decide +kernel
theorem dL_tourMinutes_19 : decode cL_tourMinutes 19 = .ok (.ireturn, 1) := by decide +kernel
theorem dL_tourStop_0 : decode cL_tourStop 0 = .ok (.aload_n 3, 1) := by decide +kernel
theorem dL_tourStop_1 : decode cL_tourStop 1 = .ok (.iconst 0, 1) := by decide +kernel
theorem dL_tourStop_2 : decode cL_tourStop 2 = .ok (.aload_n 0, 1) := by decide +kernel
theorem dL_tourStop_3 : decode cL_tourStop 3 = .ok (.iload_n 1, 1) := by decide +kernel
theorem dL_tourStop_4 : decode cL_tourStop 4 = .ok (.iload_n 2, 1) := by decide +kernel
theorem dL_tourStop_5 : decode cL_tourStop 5 = .ok (.invokevirtual 64, 3) := by decide +kernel
theorem dL_tourStop_8 : decode cL_tourStop 8 = .ok (.i2l, 1) := by decide +kernel
theorem dL_tourStop_9 : decode cL_tourStop 9 = .ok (.lastore, 1) := by decide +kernel
theorem dL_tourStop_10 : decode cL_tourStop 10 = .ok (.goto 11, 3) := by decide +kernel
theorem dL_tourStop_13 : decode cL_tourStop 13 = .ok (.astore 4, 2) := by decide +kernel
theorem dL_tourStop_15 : decode cL_tourStop 15 = .ok (.iconst 1, 1) := by decide +kernel
theorem dL_tourStop_16 : decode cL_tourStop 16 = .ok (.ireturn, 1) := by decide +kernel
theorem dL_tourStop_17 : decode cL_tourStop 17 = .ok (.astore 4, 2) := by decide +kernel
theorem dL_tourStop_19 : decode cL_tourStop 19 = .ok (.iconst 2, 1) := by decide +kernel
theorem dL_tourStop_20 : decode cL_tourStop 20 = .ok (.ireturn, 1) := by decide +kernel
theorem dL_tourStop_21 : decode cL_tourStop 21 = .ok (.iconst 0, 1) := by decide +kernel
theorem dL_tourStop_22 : decode cL_tourStop 22 = .ok (.ireturn, 1) := by decide +kernel
theorem dL_total_0 : decode cL_total 0 = .ok (.aload_n 2, 1) := by decide +kernel
theorem dL_total_1 : decode cL_total 1 = .ok (.iconst 0, 1) := by decide +kernel
theorem dL_total_2 : decode cL_total 2 = .ok (.aload_n 0, 1) := by decide +kernel
theorem dL_total_3 : decode cL_total 3 = .ok (.iload_n 1, 1) := by decide +kernel
theorem dL_total_4 : decode cL_total 4 = .ok (.invokevirtual 67, 3) := by decide +kernel
theorem dL_total_7 : decode cL_total 7 = .ok (.i2l, 1) := by decide +kernel
theorem dL_total_8 : decode cL_total 8 = .ok (.lastore, 1) := by decide +kernel
theorem dL_total_9 : decode cL_total 9 = .ok (.goto 6, 3) := by decide +kernel
theorem dL_total_12 : decode cL_total 12 = .ok (.astore_n 3, 1) := by decide +kernel
theorem dL_total_13 : decode cL_total 13 = .ok (.iconst 1, 1) := by decide +kernel
theorem dL_total_14 : decode cL_total 14 = .ok (.ireturn, 1) := by decide +kernel
theorem dL_total_15 : decode cL_total 15 = .ok (.iconst 0, 1) := by decide +kernel
theorem dL_total_16 : decode cL_total 16 = .ok (.ireturn, 1) := by decide +kernel
theorem dL_forecast_0 : decode cL_forecast 0 = .ok (.aload_n 3, 1) := by decide +kernel
theorem dL_forecast_1 : decode cL_forecast 1 = .ok (.iconst 0, 1) := by decide +kernel
theorem dL_forecast_2 : decode cL_forecast 2 = .ok (.aload_n 0, 1) := by decide +kernel
theorem dL_forecast_3 : decode cL_forecast 3 = .ok (.iload_n 1, 1) := by decide +kernel
theorem dL_forecast_4 : decode cL_forecast 4 = .ok (.iload_n 2, 1) := by decide +kernel
theorem dL_forecast_5 : decode cL_forecast 5 = .ok (.invokevirtual 70, 3) := by decide +kernel
theorem dL_forecast_8 : decode cL_forecast 8 = .ok (.i2l, 1) := by decide +kernel
theorem dL_forecast_9 : decode cL_forecast 9 = .ok (.lastore, 1) := by decide +kernel
theorem dL_forecast_10 : decode cL_forecast 10 = .ok (.goto 7, 3) := by decide +kernel
theorem dL_forecast_13 : decode cL_forecast 13 = .ok (.astore 4, 2) := by decide +kernel
theorem dL_forecast_15 : decode cL_forecast 15 = .ok (.iconst 1, 1) := by decide +kernel
theorem dL_forecast_16 : decode cL_forecast 16 = .ok (.ireturn, 1) := by decide +kernel
theorem dL_forecast_17 : decode cL_forecast 17 = .ok (.iconst 0, 1) := by decide +kernel
theorem dL_forecast_18 : decode cL_forecast 18 = .ok (.ireturn, 1) := by decide +kernel
theorem dL_runsOut_0 : decode cL_runsOut 0 = .ok (.aload_n 3, 1) := by decide +kernel
theorem dL_runsOut_1 : decode cL_runsOut 1 = .ok (.iconst 0, 1) := by decide +kernel
theorem dL_runsOut_2 : decode cL_runsOut 2 = .ok (.aload_n 0, 1) := by decide +kernel
theorem dL_runsOut_3 : decode cL_runsOut 3 = .ok (.iload_n 1, 1) := by decide +kernel
theorem dL_runsOut_4 : decode cL_runsOut 4 = .ok (.iload_n 2, 1) := by decide +kernel
theorem dL_runsOut_5 : decode cL_runsOut 5 = .ok (.invokevirtual 73, 3) := by decide +kernel
theorem dL_runsOut_8 : decode cL_runsOut 8 = .ok (.i2l, 1) := by decide +kernel
theorem dL_runsOut_9 : decode cL_runsOut 9 = .ok (.lastore, 1) := by decide +kernel
theorem dL_runsOut_10 : decode cL_runsOut 10 = .ok (.goto 7, 3) := by decide +kernel
theorem dL_runsOut_13 : decode cL_runsOut 13 = .ok (.astore 4, 2) := by decide +kernel
theorem dL_runsOut_15 : decode cL_runsOut 15 = .ok (.iconst 1, 1) := by decide +kernel
theorem dL_runsOut_16 : decode cL_runsOut 16 = .ok (.ireturn, 1) := by decide +kernel
theorem dL_runsOut_17 : decode cL_runsOut 17 = .ok (.iconst 0, 1) := by decide +kernel
theorem dL_runsOut_18 : decode cL_runsOut 18 = .ok (.ireturn, 1) := by decide +kernel
theorem dL_pass_0 : decode cL_pass 0 = .ok (.aload_n 2, 1) := by decide +kernel
theorem dL_pass_1 : decode cL_pass 1 = .ok (.iconst 0, 1) := by decide +kernel
theorem dL_pass_2 : decode cL_pass 2 = .ok (.aload_n 0, 1) := by decide +kernel
theorem dL_pass_3 : decode cL_pass 3 = .ok (.iload_n 1, 1) := by decide +kernel
theorem dL_pass_4 : decode cL_pass 4 = .ok (.invokevirtual 76, 3) := by decide +kernel
theorem dL_pass_7 : decode cL_pass 7 = .ok (.i2l, 1) := by decide +kernel
theorem dL_pass_8 : decode cL_pass 8 = .ok (.lastore, 1) := by decide +kernel
theorem dL_pass_9 : decode cL_pass 9 = .ok (.goto 9, 3) := by decide +kernel
theorem dL_pass_12 : decode cL_pass 12 = .ok (.astore_n 3, 1) := by decide +kernel
theorem dL_pass_13 : decode cL_pass 13 = .ok (.iconst 1, 1) := by decide +kernel
theorem dL_pass_14 : decode cL_pass 14 = .ok (.ireturn, 1) := by decide +kernel
theorem dL_pass_15 : decode cL_pass 15 = .ok (.astore_n 3, 1) := by decide +kernel
theorem dL_pass_16 : decode cL_pass 16 = .ok (.iconst 2, 1) := by decide +kernel
theorem dL_pass_17 : decode cL_pass 17 = .ok (.ireturn, 1) := by decide +kernel
theorem dL_pass_18 : decode cL_pass 18 = .ok (.iconst 0, 1) := by decide +kernel
theorem dL_pass_19 : decode cL_pass 19 = .ok (.ireturn, 1) := by decide +kernel
theorem dL_rent_0 : decode cL_rent 0 = .ok (.aload_n 3, 1) := by decide +kernel
theorem dL_rent_1 : decode cL_rent 1 = .ok (.iconst 0, 1) := by decide +kernel
theorem dL_rent_2 : decode cL_rent 2 = .ok (.aload_n 0, 1) := by decide +kernel
theorem dL_rent_3 : decode cL_rent 3 = .ok (.iload_n 1, 1) := by decide +kernel
theorem dL_rent_4 : decode cL_rent 4 = .ok (.iload_n 2, 1) := by decide +kernel
theorem dL_rent_5 : decode cL_rent 5 = .ok (.invokevirtual 79, 3) := by decide +kernel
theorem dL_rent_8 : decode cL_rent 8 = .ok (.i2l, 1) := by decide +kernel
theorem dL_rent_9 : decode cL_rent 9 = .ok (.lastore, 1) := by decide +kernel
theorem dL_rent_10 : decode cL_rent 10 = .ok (.goto 11, 3) := by decide +kernel
theorem dL_rent_13 : decode cL_rent 13 = .ok (.astore 4, 2) := by decide +kernel
theorem dL_rent_15 : decode cL_rent 15 = .ok (.iconst 1, 1) := by decide +kernel
theorem dL_rent_16 : decode cL_rent 16 = .ok (.ireturn, 1) := by decide +kernel
theorem dL_rent_17 : decode cL_rent 17 = .ok (.astore 4, 2) := by decide +kernel
theorem dL_rent_19 : decode cL_rent 19 = .ok (.iconst 2, 1) := by decide +kernel
theorem dL_rent_20 : decode cL_rent 20 = .ok (.ireturn, 1) := by decide +kernel
theorem dL_rent_21 : decode cL_rent 21 = .ok (.iconst 0, 1) := by decide +kernel
theorem dL_rent_22 : decode cL_rent 22 = .ok (.ireturn, 1) := by decide +kernel
theorem dL_dispatch_0 : decode cL_dispatch 0 = .ok (.aload 4, 2) := by decide +kernel
theorem dL_dispatch_2 : decode cL_dispatch 2 = .ok (.iconst 0, 1) := by decide +kernel
theorem dL_dispatch_3 : decode cL_dispatch 3 = .ok (.aload_n 0, 1) := by decide +kernel
theorem dL_dispatch_4 : decode cL_dispatch 4 = .ok (.iload_n 1, 1) := by decide +kernel
theorem dL_dispatch_5 : decode cL_dispatch 5 = .ok (.iload_n 2, 1) := by decide +kernel
theorem dL_dispatch_6 : decode cL_dispatch 6 = .ok (.iload_n 3, 1) := by decide +kernel
theorem dL_dispatch_7 : decode cL_dispatch 7 = .ok (.invokevirtual 82, 3) := by decide +kernel
theorem dL_dispatch_10 : decode cL_dispatch 10 = .ok (.i2l, 1) := by decide +kernel
theorem dL_dispatch_11 : decode cL_dispatch 11 = .ok (.lastore, 1) := by decide +kernel
theorem dL_dispatch_12 : decode cL_dispatch 12 = .ok (.goto 15, 3) := by decide +kernel
theorem dL_dispatch_15 : decode cL_dispatch 15 = .ok (.astore 5, 2) := by decide +kernel
theorem dL_dispatch_17 : decode cL_dispatch 17 = .ok (.iconst 1, 1) := by decide +kernel
theorem dL_dispatch_18 : decode cL_dispatch 18 = .ok (.ireturn, 1) := by decide +kernel
theorem dL_dispatch_19 : decode cL_dispatch 19 = .ok (.astore 5, 2) := by decide +kernel
theorem dL_dispatch_21 : decode cL_dispatch 21 = .ok (.iconst 2, 1) := by decide +kernel
theorem dL_dispatch_22 : decode cL_dispatch 22 = .ok (.ireturn, 1) := by decide +kernel
theorem dL_dispatch_23 : decode cL_dispatch 23 = .ok (.astore 5, 2) := by decide +kernel
theorem dL_dispatch_25 : decode cL_dispatch 25 = .ok (.iconst 3, 1) := by decide +kernel
theorem dL_dispatch_26 : decode cL_dispatch 26 = .ok (.ireturn, 1) := by decide +kernel
theorem dL_dispatch_27 : decode cL_dispatch 27 = .ok (.iconst 0, 1) := by decide +kernel
theorem dL_dispatch_28 : decode cL_dispatch 28 = .ok (.ireturn, 1) := by decide +kernel
theorem dL_cancel_0 : decode cL_cancel 0 = .ok (.aload_n 2, 1) := by decide +kernel
theorem dL_cancel_1 : decode cL_cancel 1 = .ok (.iconst 0, 1) := by decide +kernel
theorem dL_cancel_2 : decode cL_cancel 2 = .ok (.aload_n 0, 1) := by decide +kernel
theorem dL_cancel_3 : decode cL_cancel 3 = .ok (.iload_n 1, 1) := by decide +kernel
theorem dL_cancel_4 : decode cL_cancel 4 = .ok (.invokevirtual 86, 3) := by decide +kernel
theorem dL_cancel_7 : decode cL_cancel 7 = .ok (.i2l, 1) := by decide +kernel
theorem dL_cancel_8 : decode cL_cancel 8 = .ok (.lastore, 1) := by decide +kernel
theorem dL_cancel_9 : decode cL_cancel 9 = .ok (.goto 6, 3) := by decide +kernel
theorem dL_cancel_12 : decode cL_cancel 12 = .ok (.astore_n 3, 1) := by decide +kernel
theorem dL_cancel_13 : decode cL_cancel 13 = .ok (.iconst 1, 1) := by decide +kernel
theorem dL_cancel_14 : decode cL_cancel 14 = .ok (.ireturn, 1) := by decide +kernel
theorem dL_cancel_15 : decode cL_cancel 15 = .ok (.iconst 0, 1) := by decide +kernel
theorem dL_cancel_16 : decode cL_cancel 16 = .ok (.ireturn, 1) := by decide +kernel
theorem dL_breakDock_0 : decode cL_breakDock 0 = .ok (.aload_n 2, 1) := by decide +kernel
theorem dL_breakDock_1 : decode cL_breakDock 1 = .ok (.iconst 0, 1) := by decide +kernel
theorem dL_breakDock_2 : decode cL_breakDock 2 = .ok (.aload_n 0, 1) := by decide +kernel
theorem dL_breakDock_3 : decode cL_breakDock 3 = .ok (.iload_n 1, 1) := by decide +kernel
theorem dL_breakDock_4 : decode cL_breakDock 4 = .ok (.invokevirtual 89, 3) := by decide +kernel
theorem dL_breakDock_7 : decode cL_breakDock 7 = .ok (.i2l, 1) := by decide +kernel
theorem dL_breakDock_8 : decode cL_breakDock 8 = .ok (.lastore, 1) := by decide +kernel
theorem dL_breakDock_9 : decode cL_breakDock 9 = .ok (.goto 9, 3) := by decide +kernel
theorem dL_breakDock_12 : decode cL_breakDock 12 = .ok (.astore_n 3, 1) := by decide +kernel
theorem dL_breakDock_13 : decode cL_breakDock 13 = .ok (.iconst 1, 1) := by decide +kernel
theorem dL_breakDock_14 : decode cL_breakDock 14 = .ok (.ireturn, 1) := by decide +kernel
theorem dL_breakDock_15 : decode cL_breakDock 15 = .ok (.astore_n 3, 1) := by decide +kernel
theorem dL_breakDock_16 : decode cL_breakDock 16 = .ok (.iconst 2, 1) := by decide +kernel
theorem dL_breakDock_17 : decode cL_breakDock 17 = .ok (.ireturn, 1) := by decide +kernel
theorem dL_breakDock_18 : decode cL_breakDock 18 = .ok (.iconst 0, 1) := by decide +kernel
theorem dL_breakDock_19 : decode cL_breakDock 19 = .ok (.ireturn, 1) := by decide +kernel
theorem dL_repairDock_0 : decode cL_repairDock 0 = .ok (.aload_n 2, 1) := by decide +kernel
theorem dL_repairDock_1 : decode cL_repairDock 1 = .ok (.iconst 0, 1) := by decide +kernel
theorem dL_repairDock_2 : decode cL_repairDock 2 = .ok (.aload_n 0, 1) := by decide +kernel
theorem dL_repairDock_3 : decode cL_repairDock 3 = .ok (.iload_n 1, 1) := by decide +kernel
theorem dL_repairDock_4 : decode cL_repairDock 4 = .ok (.invokevirtual 92, 3) := by decide +kernel
theorem dL_repairDock_7 : decode cL_repairDock 7 = .ok (.i2l, 1) := by decide +kernel
theorem dL_repairDock_8 : decode cL_repairDock 8 = .ok (.lastore, 1) := by decide +kernel
theorem dL_repairDock_9 : decode cL_repairDock 9 = .ok (.goto 9, 3) := by decide +kernel
theorem dL_repairDock_12 : decode cL_repairDock 12 = .ok (.astore_n 3, 1) := by decide +kernel
theorem dL_repairDock_13 : decode cL_repairDock 13 = .ok (.iconst 1, 1) := by decide +kernel
theorem dL_repairDock_14 : decode cL_repairDock 14 = .ok (.ireturn, 1) := by decide +kernel
theorem dL_repairDock_15 : decode cL_repairDock 15 = .ok (.astore_n 3, 1) := by decide +kernel
theorem dL_repairDock_16 : decode cL_repairDock 16 = .ok (.iconst 2, 1) := by decide +kernel
theorem dL_repairDock_17 : decode cL_repairDock 17 = .ok (.ireturn, 1) := by decide +kernel
theorem dL_repairDock_18 : decode cL_repairDock 18 = .ok (.iconst 0, 1) := by decide +kernel
theorem dL_repairDock_19 : decode cL_repairDock 19 = .ok (.ireturn, 1) := by decide +kernel
theorem dL_addBikes_0 : decode cL_addBikes 0 = .ok (.aload_n 3, 1) := by decide +kernel
theorem dL_addBikes_1 : decode cL_addBikes 1 = .ok (.iconst 0, 1) := by decide +kernel
theorem dL_addBikes_2 : decode cL_addBikes 2 = .ok (.aload_n 0, 1) := by decide +kernel
theorem dL_addBikes_3 : decode cL_addBikes 3 = .ok (.iload_n 1, 1) := by decide +kernel
theorem dL_addBikes_4 : decode cL_addBikes 4 = .ok (.iload_n 2, 1) := by decide +kernel
theorem dL_addBikes_5 : decode cL_addBikes 5 = .ok (.invokevirtual 95, 3) := by decide +kernel
theorem dL_addBikes_8 : decode cL_addBikes 8 = .ok (.i2l, 1) := by decide +kernel
theorem dL_addBikes_9 : decode cL_addBikes 9 = .ok (.lastore, 1) := by decide +kernel
theorem dL_addBikes_10 : decode cL_addBikes 10 = .ok (.goto 15, 3) := by decide +kernel
theorem dL_addBikes_13 : decode cL_addBikes 13 = .ok (.astore 4, 2) := by decide +kernel
theorem dL_addBikes_15 : decode cL_addBikes 15 = .ok (.iconst 1, 1) := by decide +kernel
theorem dL_addBikes_16 : decode cL_addBikes 16 = .ok (.ireturn, 1) := by decide +kernel
theorem dL_addBikes_17 : decode cL_addBikes 17 = .ok (.astore 4, 2) := by decide +kernel
theorem dL_addBikes_19 : decode cL_addBikes 19 = .ok (.iconst 2, 1) := by decide +kernel
theorem dL_addBikes_20 : decode cL_addBikes 20 = .ok (.ireturn, 1) := by decide +kernel
theorem dL_addBikes_21 : decode cL_addBikes 21 = .ok (.astore 4, 2) := by decide +kernel
theorem dL_addBikes_23 : decode cL_addBikes 23 = .ok (.iconst 3, 1) := by decide +kernel
theorem dL_addBikes_24 : decode cL_addBikes 24 = .ok (.ireturn, 1) := by decide +kernel
theorem dL_addBikes_25 : decode cL_addBikes 25 = .ok (.iconst 0, 1) := by decide +kernel
theorem dL_addBikes_26 : decode cL_addBikes 26 = .ok (.ireturn, 1) := by decide +kernel
theorem dL_removeBikes_0 : decode cL_removeBikes 0 = .ok (.aload_n 3, 1) := by decide +kernel
theorem dL_removeBikes_1 : decode cL_removeBikes 1 = .ok (.iconst 0, 1) := by decide +kernel
theorem dL_removeBikes_2 : decode cL_removeBikes 2 = .ok (.aload_n 0, 1) := by decide +kernel
theorem dL_removeBikes_3 : decode cL_removeBikes 3 = .ok (.iload_n 1, 1) := by decide +kernel
theorem dL_removeBikes_4 : decode cL_removeBikes 4 = .ok (.iload_n 2, 1) := by decide +kernel
theorem dL_removeBikes_5 : decode cL_removeBikes 5 = .ok (.invokevirtual 98, 3) := by decide +kernel
theorem dL_removeBikes_8 : decode cL_removeBikes 8 = .ok (.i2l, 1) := by decide +kernel
theorem dL_removeBikes_9 : decode cL_removeBikes 9 = .ok (.lastore, 1) := by decide +kernel
theorem dL_removeBikes_10 : decode cL_removeBikes 10 = .ok (.goto 15, 3) := by decide +kernel
theorem dL_removeBikes_13 : decode cL_removeBikes 13 = .ok (.astore 4, 2) := by decide +kernel
theorem dL_removeBikes_15 : decode cL_removeBikes 15 = .ok (.iconst 1, 1) := by decide +kernel
theorem dL_removeBikes_16 : decode cL_removeBikes 16 = .ok (.ireturn, 1) := by decide +kernel
theorem dL_removeBikes_17 : decode cL_removeBikes 17 = .ok (.astore 4, 2) := by decide +kernel
theorem dL_removeBikes_19 : decode cL_removeBikes 19 = .ok (.iconst 2, 1) := by decide +kernel
theorem dL_removeBikes_20 : decode cL_removeBikes 20 = .ok (.ireturn, 1) := by decide +kernel
theorem dL_removeBikes_21 : decode cL_removeBikes 21 = .ok (.astore 4, 2) := by decide +kernel
theorem dL_removeBikes_23 : decode cL_removeBikes 23 = .ok (.iconst 3, 1) := by decide +kernel
theorem dL_removeBikes_24 : decode cL_removeBikes 24 = .ok (.ireturn, 1) := by decide +kernel
theorem dL_removeBikes_25 : decode cL_removeBikes 25 = .ok (.iconst 0, 1) := by decide +kernel
theorem dL_removeBikes_26 : decode cL_removeBikes 26 = .ok (.ireturn, 1) := by decide +kernel
theorem dL_law_0 : decode cL_law 0 = .ok (.new 8, 3) := by decide +kernel
theorem dL_law_3 : decode cL_law 3 = .ok (.dup, 1) := by decide +kernel
theorem dL_law_4 : decode cL_law 4 = .ok (.invokespecial 101, 3) := by decide +kernel
theorem dL_law_7 : decode cL_law 7 = .ok (.astore_n 1, 1) := by decide +kernel
theorem dL_law_8 : decode cL_law 8 = .ok (.new 102, 3) := by decide +kernel
theorem dL_law_11 : decode cL_law 11 = .ok (.dup, 1) := by decide +kernel
theorem dL_law_12 : decode cL_law 12 = .ok (.invokespecial 104, 3) := by decide +kernel
theorem dL_law_15 : decode cL_law 15 = .ok (.astore_n 2, 1) := by decide +kernel
theorem dL_law_16 : decode cL_law 16 = .ok (.iconst 1, 1) := by decide +kernel
theorem dL_law_17 : decode cL_law 17 = .ok (.newarray .long, 2) := by decide +kernel
theorem dL_law_19 : decode cL_law 19 = .ok (.astore_n 3, 1) := by decide +kernel
theorem dL_law_20 : decode cL_law 20 = .ok (.iconst 0, 1) := by decide +kernel
theorem dL_law_21 : decode cL_law 21 = .ok (.istore 4, 2) := by decide +kernel
theorem dL_law_23 : decode cL_law 23 = .ok (.iload 4, 2) := by decide +kernel
theorem dL_law_25 : decode cL_law 25 = .ok (.aload_n 0, 1) := by decide +kernel
theorem dL_law_26 : decode cL_law 26 = .ok (.arraylength, 1) := by decide +kernel
theorem dL_law_27 : decode cL_law 27 = .ok (.bipush 6, 2) := by decide +kernel
theorem dL_law_29 : decode cL_law 29 = .ok (.isub, 1) := by decide +kernel
theorem dL_law_30 : decode cL_law 30 = .ok (.if_icmp .gt 2096, 3) := by decide +kernel
theorem dL_law_33 : decode cL_law 33 = .ok (.aload_n 0, 1) := by decide +kernel
theorem dL_law_34 : decode cL_law 34 = .ok (.iload 4, 2) := by decide +kernel
theorem dL_law_36 : decode cL_law 36 = .ok (.iaload, 1) := by decide +kernel
theorem dL_law_37 : decode cL_law 37 = .ok (.bipush 63, 2) := by decide +kernel
theorem dL_law_39 : decode cL_law 39 = .ok (.iand, 1) := by decide +kernel
theorem dL_law_40 : decode cL_law 40 = .ok (.tableswitch 2080 0 35 #[160, 233, 289, 345, 358, 371, 427, 483, 539, 602, 615, 699, 767, 835, 891, 947, 960, 1028, 1096, 1109, 1177, 1233, 1301, 1357, 1425, 1509, 1565, 1633, 1713, 1769, 1825, 1881, 1949, 2017, 2030, 2055], 160) := by decide +kernel
theorem dL_law_200 : decode cL_law 200 = .ok (.aload_n 1, 1) := by decide +kernel
theorem dL_law_201 : decode cL_law 201 = .ok (.aload_n 0, 1) := by decide +kernel
theorem dL_law_202 : decode cL_law 202 = .ok (.iload 4, 2) := by decide +kernel
theorem dL_law_204 : decode cL_law 204 = .ok (.iconst 1, 1) := by decide +kernel
theorem dL_law_205 : decode cL_law 205 = .ok (.iadd, 1) := by decide +kernel
theorem dL_law_206 : decode cL_law 206 = .ok (.iaload, 1) := by decide +kernel
theorem dL_law_207 : decode cL_law 207 = .ok (.aload_n 0, 1) := by decide +kernel
theorem dL_law_208 : decode cL_law 208 = .ok (.iload 4, 2) := by decide +kernel
theorem dL_law_210 : decode cL_law 210 = .ok (.iconst 2, 1) := by decide +kernel
theorem dL_law_211 : decode cL_law 211 = .ok (.iadd, 1) := by decide +kernel
theorem dL_law_212 : decode cL_law 212 = .ok (.iaload, 1) := by decide +kernel
theorem dL_law_213 : decode cL_law 213 = .ok (.aload_n 0, 1) := by decide +kernel
theorem dL_law_214 : decode cL_law 214 = .ok (.iload 4, 2) := by decide +kernel
theorem dL_law_216 : decode cL_law 216 = .ok (.iconst 3, 1) := by decide +kernel
theorem dL_law_217 : decode cL_law 217 = .ok (.iadd, 1) := by decide +kernel
theorem dL_law_218 : decode cL_law 218 = .ok (.iaload, 1) := by decide +kernel
theorem dL_law_219 : decode cL_law 219 = .ok (.aload_n 0, 1) := by decide +kernel
theorem dL_law_220 : decode cL_law 220 = .ok (.iload 4, 2) := by decide +kernel
theorem dL_law_222 : decode cL_law 222 = .ok (.iconst 4, 1) := by decide +kernel
theorem dL_law_223 : decode cL_law 223 = .ok (.iadd, 1) := by decide +kernel
theorem dL_law_224 : decode cL_law 224 = .ok (.iaload, 1) := by decide +kernel
theorem dL_law_225 : decode cL_law 225 = .ok (.aload_n 0, 1) := by decide +kernel
theorem dL_law_226 : decode cL_law 226 = .ok (.iload 4, 2) := by decide +kernel
theorem dL_law_228 : decode cL_law 228 = .ok (.iconst 5, 1) := by decide +kernel
theorem dL_law_229 : decode cL_law 229 = .ok (.iadd, 1) := by decide +kernel
theorem dL_law_230 : decode cL_law 230 = .ok (.iaload, 1) := by decide +kernel
theorem dL_law_231 : decode cL_law 231 = .ok (.invokevirtual 105, 3) := by decide +kernel
theorem dL_law_234 : decode cL_law 234 = .ok (.aload_n 2, 1) := by decide +kernel
theorem dL_law_235 : decode cL_law 235 = .ok (.aload_n 0, 1) := by decide +kernel
theorem dL_law_236 : decode cL_law 236 = .ok (.iload 4, 2) := by decide +kernel
theorem dL_law_238 : decode cL_law 238 = .ok (.iconst 1, 1) := by decide +kernel
theorem dL_law_239 : decode cL_law 239 = .ok (.iadd, 1) := by decide +kernel
theorem dL_law_240 : decode cL_law 240 = .ok (.iaload, 1) := by decide +kernel
theorem dL_law_241 : decode cL_law 241 = .ok (.aload_n 0, 1) := by decide +kernel
theorem dL_law_242 : decode cL_law 242 = .ok (.iload 4, 2) := by decide +kernel
theorem dL_law_244 : decode cL_law 244 = .ok (.iconst 2, 1) := by decide +kernel
theorem dL_law_245 : decode cL_law 245 = .ok (.iadd, 1) := by decide +kernel
theorem dL_law_246 : decode cL_law 246 = .ok (.iaload, 1) := by decide +kernel
theorem dL_law_247 : decode cL_law 247 = .ok (.aload_n 0, 1) := by decide +kernel
theorem dL_law_248 : decode cL_law 248 = .ok (.iload 4, 2) := by decide +kernel
theorem dL_law_250 : decode cL_law 250 = .ok (.iconst 3, 1) := by decide +kernel
theorem dL_law_251 : decode cL_law 251 = .ok (.iadd, 1) := by decide +kernel
theorem dL_law_252 : decode cL_law 252 = .ok (.iaload, 1) := by decide +kernel
theorem dL_law_253 : decode cL_law 253 = .ok (.aload_n 0, 1) := by decide +kernel
theorem dL_law_254 : decode cL_law 254 = .ok (.iload 4, 2) := by decide +kernel
theorem dL_law_256 : decode cL_law 256 = .ok (.iconst 4, 1) := by decide +kernel
theorem dL_law_257 : decode cL_law 257 = .ok (.iadd, 1) := by decide +kernel
theorem dL_law_258 : decode cL_law 258 = .ok (.iaload, 1) := by decide +kernel
theorem dL_law_259 : decode cL_law 259 = .ok (.aload_n 0, 1) := by decide +kernel
theorem dL_law_260 : decode cL_law 260 = .ok (.iload 4, 2) := by decide +kernel
theorem dL_law_262 : decode cL_law 262 = .ok (.iconst 5, 1) := by decide +kernel
theorem dL_law_263 : decode cL_law 263 = .ok (.iadd, 1) := by decide +kernel
theorem dL_law_264 : decode cL_law 264 = .ok (.iaload, 1) := by decide +kernel
theorem dL_law_265 : decode cL_law 265 = .ok (.invokevirtual 109, 3) := by decide +kernel
theorem dL_law_268 : decode cL_law 268 = .ok (.if_icmp .eq 1852, 3) := by decide +kernel
theorem dL_law_271 : decode cL_law 271 = .ok (.iconst 0, 1) := by decide +kernel
theorem dL_law_272 : decode cL_law 272 = .ok (.ireturn, 1) := by decide +kernel
theorem dL_law_273 : decode cL_law 273 = .ok (.aload_n 1, 1) := by decide +kernel
theorem dL_law_274 : decode cL_law 274 = .ok (.aload_n 0, 1) := by decide +kernel
theorem dL_law_275 : decode cL_law 275 = .ok (.iload 4, 2) := by decide +kernel
theorem dL_law_277 : decode cL_law 277 = .ok (.iconst 1, 1) := by decide +kernel
theorem dL_law_278 : decode cL_law 278 = .ok (.iadd, 1) := by decide +kernel
theorem dL_law_279 : decode cL_law 279 = .ok (.iaload, 1) := by decide +kernel
theorem dL_law_280 : decode cL_law 280 = .ok (.aload_n 3, 1) := by decide +kernel
theorem dL_law_281 : decode cL_law 281 = .ok (.invokestatic 110, 3) := by decide +kernel
theorem dL_law_284 : decode cL_law 284 = .ok (.istore 5, 2) := by decide +kernel
theorem dL_law_286 : decode cL_law 286 = .ok (.aload_n 2, 1) := by decide +kernel
theorem dL_law_287 : decode cL_law 287 = .ok (.aload_n 0, 1) := by decide +kernel
theorem dL_law_288 : decode cL_law 288 = .ok (.iload 4, 2) := by decide +kernel
theorem dL_law_290 : decode cL_law 290 = .ok (.iconst 1, 1) := by decide +kernel
theorem dL_law_291 : decode cL_law 291 = .ok (.iadd, 1) := by decide +kernel
theorem dL_law_292 : decode cL_law 292 = .ok (.iaload, 1) := by decide +kernel
theorem dL_law_293 : decode cL_law 293 = .ok (.invokevirtual 115, 3) := by decide +kernel
theorem dL_law_296 : decode cL_law 296 = .ok (.istore 6, 2) := by decide +kernel
theorem dL_law_298 : decode cL_law 298 = .ok (.aload_n 2, 1) := by decide +kernel
theorem dL_law_299 : decode cL_law 299 = .ok (.invokevirtual 116, 3) := by decide +kernel
theorem dL_law_302 : decode cL_law 302 = .ok (.iload 5, 2) := by decide +kernel
theorem dL_law_304 : decode cL_law 304 = .ok (.if_icmp .eq 5, 3) := by decide +kernel
theorem dL_law_307 : decode cL_law 307 = .ok (.iconst 0, 1) := by decide +kernel
theorem dL_law_308 : decode cL_law 308 = .ok (.ireturn, 1) := by decide +kernel
theorem dL_law_309 : decode cL_law 309 = .ok (.iload 5, 2) := by decide +kernel
theorem dL_law_311 : decode cL_law 311 = .ok (.ifCond .ne 15, 3) := by decide +kernel
theorem dL_law_314 : decode cL_law 314 = .ok (.aload_n 3, 1) := by decide +kernel
theorem dL_law_315 : decode cL_law 315 = .ok (.iconst 0, 1) := by decide +kernel
theorem dL_law_316 : decode cL_law 316 = .ok (.laload, 1) := by decide +kernel
theorem dL_law_317 : decode cL_law 317 = .ok (.iload 6, 2) := by decide +kernel
theorem dL_law_319 : decode cL_law 319 = .ok (.i2l, 1) := by decide +kernel
theorem dL_law_320 : decode cL_law 320 = .ok (.lcmp, 1) := by decide +kernel
theorem dL_law_321 : decode cL_law 321 = .ok (.ifCond .eq 5, 3) := by decide +kernel
theorem dL_law_324 : decode cL_law 324 = .ok (.iconst 0, 1) := by decide +kernel
theorem dL_law_325 : decode cL_law 325 = .ok (.ireturn, 1) := by decide +kernel
theorem dL_law_326 : decode cL_law 326 = .ok (.goto 1794, 3) := by decide +kernel
theorem dL_law_329 : decode cL_law 329 = .ok (.aload_n 1, 1) := by decide +kernel
theorem dL_law_330 : decode cL_law 330 = .ok (.aload_n 0, 1) := by decide +kernel
theorem dL_law_331 : decode cL_law 331 = .ok (.iload 4, 2) := by decide +kernel
theorem dL_law_333 : decode cL_law 333 = .ok (.iconst 1, 1) := by decide +kernel
theorem dL_law_334 : decode cL_law 334 = .ok (.iadd, 1) := by decide +kernel
theorem dL_law_335 : decode cL_law 335 = .ok (.iaload, 1) := by decide +kernel
theorem dL_law_336 : decode cL_law 336 = .ok (.aload_n 3, 1) := by decide +kernel
theorem dL_law_337 : decode cL_law 337 = .ok (.invokestatic 120, 3) := by decide +kernel
theorem dL_law_340 : decode cL_law 340 = .ok (.istore 5, 2) := by decide +kernel
theorem dL_law_342 : decode cL_law 342 = .ok (.aload_n 2, 1) := by decide +kernel
theorem dL_law_343 : decode cL_law 343 = .ok (.aload_n 0, 1) := by decide +kernel
theorem dL_law_344 : decode cL_law 344 = .ok (.iload 4, 2) := by decide +kernel
theorem dL_law_346 : decode cL_law 346 = .ok (.iconst 1, 1) := by decide +kernel
theorem dL_law_347 : decode cL_law 347 = .ok (.iadd, 1) := by decide +kernel
theorem dL_law_348 : decode cL_law 348 = .ok (.iaload, 1) := by decide +kernel
theorem dL_law_349 : decode cL_law 349 = .ok (.invokevirtual 122, 3) := by decide +kernel
theorem dL_law_352 : decode cL_law 352 = .ok (.istore 6, 2) := by decide +kernel
theorem dL_law_354 : decode cL_law 354 = .ok (.aload_n 2, 1) := by decide +kernel
theorem dL_law_355 : decode cL_law 355 = .ok (.invokevirtual 116, 3) := by decide +kernel
theorem dL_law_358 : decode cL_law 358 = .ok (.iload 5, 2) := by decide +kernel
theorem dL_law_360 : decode cL_law 360 = .ok (.if_icmp .eq 5, 3) := by decide +kernel
theorem dL_law_363 : decode cL_law 363 = .ok (.iconst 0, 1) := by decide +kernel
theorem dL_law_364 : decode cL_law 364 = .ok (.ireturn, 1) := by decide +kernel
theorem dL_law_365 : decode cL_law 365 = .ok (.iload 5, 2) := by decide +kernel
theorem dL_law_367 : decode cL_law 367 = .ok (.ifCond .ne 15, 3) := by decide +kernel
theorem dL_law_370 : decode cL_law 370 = .ok (.aload_n 3, 1) := by decide +kernel
theorem dL_law_371 : decode cL_law 371 = .ok (.iconst 0, 1) := by decide +kernel
theorem dL_law_372 : decode cL_law 372 = .ok (.laload, 1) := by decide +kernel
theorem dL_law_373 : decode cL_law 373 = .ok (.iload 6, 2) := by decide +kernel
theorem dL_law_375 : decode cL_law 375 = .ok (.i2l, 1) := by decide +kernel
theorem dL_law_376 : decode cL_law 376 = .ok (.lcmp, 1) := by decide +kernel
theorem dL_law_377 : decode cL_law 377 = .ok (.ifCond .eq 5, 3) := by decide +kernel
theorem dL_law_380 : decode cL_law 380 = .ok (.iconst 0, 1) := by decide +kernel
theorem dL_law_381 : decode cL_law 381 = .ok (.ireturn, 1) := by decide +kernel
theorem dL_law_382 : decode cL_law 382 = .ok (.goto 1738, 3) := by decide +kernel
theorem dL_law_385 : decode cL_law 385 = .ok (.aload_n 1, 1) := by decide +kernel
theorem dL_law_386 : decode cL_law 386 = .ok (.invokevirtual 123, 3) := by decide +kernel
theorem dL_law_389 : decode cL_law 389 = .ok (.aload_n 2, 1) := by decide +kernel
theorem dL_law_390 : decode cL_law 390 = .ok (.invokevirtual 126, 3) := by decide +kernel
theorem dL_law_393 : decode cL_law 393 = .ok (.if_icmp .eq 1727, 3) := by decide +kernel
theorem dL_law_396 : decode cL_law 396 = .ok (.iconst 0, 1) := by decide +kernel
theorem dL_law_397 : decode cL_law 397 = .ok (.ireturn, 1) := by decide +kernel
theorem dL_law_398 : decode cL_law 398 = .ok (.aload_n 1, 1) := by decide +kernel
theorem dL_law_399 : decode cL_law 399 = .ok (.invokevirtual 127, 3) := by decide +kernel
theorem dL_law_402 : decode cL_law 402 = .ok (.aload_n 2, 1) := by decide +kernel
theorem dL_law_403 : decode cL_law 403 = .ok (.invokevirtual 130, 3) := by decide +kernel
theorem dL_law_406 : decode cL_law 406 = .ok (.if_icmp .eq 1714, 3) := by decide +kernel
theorem dL_law_409 : decode cL_law 409 = .ok (.iconst 0, 1) := by decide +kernel
theorem dL_law_410 : decode cL_law 410 = .ok (.ireturn, 1) := by decide +kernel
theorem dL_law_411 : decode cL_law 411 = .ok (.aload_n 1, 1) := by decide +kernel
theorem dL_law_412 : decode cL_law 412 = .ok (.aload_n 0, 1) := by decide +kernel
theorem dL_law_413 : decode cL_law 413 = .ok (.iload 4, 2) := by decide +kernel
theorem dL_law_415 : decode cL_law 415 = .ok (.iconst 1, 1) := by decide +kernel
theorem dL_law_416 : decode cL_law 416 = .ok (.iadd, 1) := by decide +kernel
theorem dL_law_417 : decode cL_law 417 = .ok (.iaload, 1) := by decide +kernel
theorem dL_law_418 : decode cL_law 418 = .ok (.aload_n 3, 1) := by decide +kernel
theorem dL_law_419 : decode cL_law 419 = .ok (.invokestatic 131, 3) := by decide +kernel
theorem dL_law_422 : decode cL_law 422 = .ok (.istore 5, 2) := by decide +kernel
theorem dL_law_424 : decode cL_law 424 = .ok (.aload_n 2, 1) := by decide +kernel
theorem dL_law_425 : decode cL_law 425 = .ok (.aload_n 0, 1) := by decide +kernel
theorem dL_law_426 : decode cL_law 426 = .ok (.iload 4, 2) := by decide +kernel
theorem dL_law_428 : decode cL_law 428 = .ok (.iconst 1, 1) := by decide +kernel
theorem dL_law_429 : decode cL_law 429 = .ok (.iadd, 1) := by decide +kernel
theorem dL_law_430 : decode cL_law 430 = .ok (.iaload, 1) := by decide +kernel
theorem dL_law_431 : decode cL_law 431 = .ok (.invokevirtual 133, 3) := by decide +kernel
theorem dL_law_434 : decode cL_law 434 = .ok (.istore 6, 2) := by decide +kernel
theorem dL_law_436 : decode cL_law 436 = .ok (.aload_n 2, 1) := by decide +kernel
theorem dL_law_437 : decode cL_law 437 = .ok (.invokevirtual 116, 3) := by decide +kernel
theorem dL_law_440 : decode cL_law 440 = .ok (.iload 5, 2) := by decide +kernel
theorem dL_law_442 : decode cL_law 442 = .ok (.if_icmp .eq 5, 3) := by decide +kernel
theorem dL_law_445 : decode cL_law 445 = .ok (.iconst 0, 1) := by decide +kernel
theorem dL_law_446 : decode cL_law 446 = .ok (.ireturn, 1) := by decide +kernel
theorem dL_law_447 : decode cL_law 447 = .ok (.iload 5, 2) := by decide +kernel
theorem dL_law_449 : decode cL_law 449 = .ok (.ifCond .ne 15, 3) := by decide +kernel
theorem dL_law_452 : decode cL_law 452 = .ok (.aload_n 3, 1) := by decide +kernel
theorem dL_law_453 : decode cL_law 453 = .ok (.iconst 0, 1) := by decide +kernel
theorem dL_law_454 : decode cL_law 454 = .ok (.laload, 1) := by decide +kernel
theorem dL_law_455 : decode cL_law 455 = .ok (.iload 6, 2) := by decide +kernel
theorem dL_law_457 : decode cL_law 457 = .ok (.i2l, 1) := by decide +kernel
theorem dL_law_458 : decode cL_law 458 = .ok (.lcmp, 1) := by decide +kernel
theorem dL_law_459 : decode cL_law 459 = .ok (.ifCond .eq 5, 3) := by decide +kernel
theorem dL_law_462 : decode cL_law 462 = .ok (.iconst 0, 1) := by decide +kernel
theorem dL_law_463 : decode cL_law 463 = .ok (.ireturn, 1) := by decide +kernel
theorem dL_law_464 : decode cL_law 464 = .ok (.goto 1656, 3) := by decide +kernel
theorem dL_law_467 : decode cL_law 467 = .ok (.aload_n 1, 1) := by decide +kernel
theorem dL_law_468 : decode cL_law 468 = .ok (.aload_n 0, 1) := by decide +kernel
theorem dL_law_469 : decode cL_law 469 = .ok (.iload 4, 2) := by decide +kernel
theorem dL_law_471 : decode cL_law 471 = .ok (.iconst 1, 1) := by decide +kernel
theorem dL_law_472 : decode cL_law 472 = .ok (.iadd, 1) := by decide +kernel
theorem dL_law_473 : decode cL_law 473 = .ok (.iaload, 1) := by decide +kernel
theorem dL_law_474 : decode cL_law 474 = .ok (.aload_n 3, 1) := by decide +kernel
theorem dL_law_475 : decode cL_law 475 = .ok (.invokestatic 134, 3) := by decide +kernel
theorem dL_law_478 : decode cL_law 478 = .ok (.istore 5, 2) := by decide +kernel
theorem dL_law_480 : decode cL_law 480 = .ok (.aload_n 2, 1) := by decide +kernel
theorem dL_law_481 : decode cL_law 481 = .ok (.aload_n 0, 1) := by decide +kernel
theorem dL_law_482 : decode cL_law 482 = .ok (.iload 4, 2) := by decide +kernel
theorem dL_law_484 : decode cL_law 484 = .ok (.iconst 1, 1) := by decide +kernel
theorem dL_law_485 : decode cL_law 485 = .ok (.iadd, 1) := by decide +kernel
theorem dL_law_486 : decode cL_law 486 = .ok (.iaload, 1) := by decide +kernel
theorem dL_law_487 : decode cL_law 487 = .ok (.invokevirtual 136, 3) := by decide +kernel
theorem dL_law_490 : decode cL_law 490 = .ok (.istore 6, 2) := by decide +kernel
theorem dL_law_492 : decode cL_law 492 = .ok (.aload_n 2, 1) := by decide +kernel
theorem dL_law_493 : decode cL_law 493 = .ok (.invokevirtual 116, 3) := by decide +kernel
theorem dL_law_496 : decode cL_law 496 = .ok (.iload 5, 2) := by decide +kernel
theorem dL_law_498 : decode cL_law 498 = .ok (.if_icmp .eq 5, 3) := by decide +kernel
theorem dL_law_501 : decode cL_law 501 = .ok (.iconst 0, 1) := by decide +kernel
theorem dL_law_502 : decode cL_law 502 = .ok (.ireturn, 1) := by decide +kernel
theorem dL_law_503 : decode cL_law 503 = .ok (.iload 5, 2) := by decide +kernel
theorem dL_law_505 : decode cL_law 505 = .ok (.ifCond .ne 15, 3) := by decide +kernel
theorem dL_law_508 : decode cL_law 508 = .ok (.aload_n 3, 1) := by decide +kernel
theorem dL_law_509 : decode cL_law 509 = .ok (.iconst 0, 1) := by decide +kernel
theorem dL_law_510 : decode cL_law 510 = .ok (.laload, 1) := by decide +kernel
theorem dL_law_511 : decode cL_law 511 = .ok (.iload 6, 2) := by decide +kernel
theorem dL_law_513 : decode cL_law 513 = .ok (.i2l, 1) := by decide +kernel
theorem dL_law_514 : decode cL_law 514 = .ok (.lcmp, 1) := by decide +kernel
theorem dL_law_515 : decode cL_law 515 = .ok (.ifCond .eq 5, 3) := by decide +kernel
theorem dL_law_518 : decode cL_law 518 = .ok (.iconst 0, 1) := by decide +kernel
theorem dL_law_519 : decode cL_law 519 = .ok (.ireturn, 1) := by decide +kernel
theorem dL_law_520 : decode cL_law 520 = .ok (.goto 1600, 3) := by decide +kernel
theorem dL_law_523 : decode cL_law 523 = .ok (.aload_n 1, 1) := by decide +kernel
theorem dL_law_524 : decode cL_law 524 = .ok (.aload_n 0, 1) := by decide +kernel
theorem dL_law_525 : decode cL_law 525 = .ok (.iload 4, 2) := by decide +kernel
theorem dL_law_527 : decode cL_law 527 = .ok (.iconst 1, 1) := by decide +kernel
theorem dL_law_528 : decode cL_law 528 = .ok (.iadd, 1) := by decide +kernel
theorem dL_law_529 : decode cL_law 529 = .ok (.iaload, 1) := by decide +kernel
theorem dL_law_530 : decode cL_law 530 = .ok (.aload_n 3, 1) := by decide +kernel
theorem dL_law_531 : decode cL_law 531 = .ok (.invokestatic 137, 3) := by decide +kernel
theorem dL_law_534 : decode cL_law 534 = .ok (.istore 5, 2) := by decide +kernel
theorem dL_law_536 : decode cL_law 536 = .ok (.aload_n 2, 1) := by decide +kernel
theorem dL_law_537 : decode cL_law 537 = .ok (.aload_n 0, 1) := by decide +kernel
theorem dL_law_538 : decode cL_law 538 = .ok (.iload 4, 2) := by decide +kernel
theorem dL_law_540 : decode cL_law 540 = .ok (.iconst 1, 1) := by decide +kernel
theorem dL_law_541 : decode cL_law 541 = .ok (.iadd, 1) := by decide +kernel
theorem dL_law_542 : decode cL_law 542 = .ok (.iaload, 1) := by decide +kernel
theorem dL_law_543 : decode cL_law 543 = .ok (.invokevirtual 139, 3) := by decide +kernel
theorem dL_law_546 : decode cL_law 546 = .ok (.istore 6, 2) := by decide +kernel
theorem dL_law_548 : decode cL_law 548 = .ok (.aload_n 2, 1) := by decide +kernel
theorem dL_law_549 : decode cL_law 549 = .ok (.invokevirtual 116, 3) := by decide +kernel
theorem dL_law_552 : decode cL_law 552 = .ok (.iload 5, 2) := by decide +kernel
theorem dL_law_554 : decode cL_law 554 = .ok (.if_icmp .eq 5, 3) := by decide +kernel
theorem dL_law_557 : decode cL_law 557 = .ok (.iconst 0, 1) := by decide +kernel
theorem dL_law_558 : decode cL_law 558 = .ok (.ireturn, 1) := by decide +kernel
theorem dL_law_559 : decode cL_law 559 = .ok (.iload 5, 2) := by decide +kernel
theorem dL_law_561 : decode cL_law 561 = .ok (.ifCond .ne 15, 3) := by decide +kernel
theorem dL_law_564 : decode cL_law 564 = .ok (.aload_n 3, 1) := by decide +kernel
theorem dL_law_565 : decode cL_law 565 = .ok (.iconst 0, 1) := by decide +kernel
theorem dL_law_566 : decode cL_law 566 = .ok (.laload, 1) := by decide +kernel
theorem dL_law_567 : decode cL_law 567 = .ok (.iload 6, 2) := by decide +kernel
theorem dL_law_569 : decode cL_law 569 = .ok (.i2l, 1) := by decide +kernel
theorem dL_law_570 : decode cL_law 570 = .ok (.lcmp, 1) := by decide +kernel
theorem dL_law_571 : decode cL_law 571 = .ok (.ifCond .eq 5, 3) := by decide +kernel
theorem dL_law_574 : decode cL_law 574 = .ok (.iconst 0, 1) := by decide +kernel
theorem dL_law_575 : decode cL_law 575 = .ok (.ireturn, 1) := by decide +kernel
theorem dL_law_576 : decode cL_law 576 = .ok (.goto 1544, 3) := by decide +kernel
theorem dL_law_579 : decode cL_law 579 = .ok (.aload_n 1, 1) := by decide +kernel
theorem dL_law_580 : decode cL_law 580 = .ok (.aload_n 0, 1) := by decide +kernel
theorem dL_law_581 : decode cL_law 581 = .ok (.iload 4, 2) := by decide +kernel
theorem dL_law_583 : decode cL_law 583 = .ok (.iconst 1, 1) := by decide +kernel
theorem dL_law_584 : decode cL_law 584 = .ok (.iadd, 1) := by decide +kernel
theorem dL_law_585 : decode cL_law 585 = .ok (.iaload, 1) := by decide +kernel
theorem dL_law_586 : decode cL_law 586 = .ok (.aload_n 3, 1) := by decide +kernel
theorem dL_law_587 : decode cL_law 587 = .ok (.invokestatic 140, 3) := by decide +kernel
theorem dL_law_590 : decode cL_law 590 = .ok (.istore 5, 2) := by decide +kernel
theorem dL_law_592 : decode cL_law 592 = .ok (.aload_n 2, 1) := by decide +kernel
theorem dL_law_593 : decode cL_law 593 = .ok (.aload_n 0, 1) := by decide +kernel
theorem dL_law_594 : decode cL_law 594 = .ok (.iload 4, 2) := by decide +kernel
theorem dL_law_596 : decode cL_law 596 = .ok (.iconst 1, 1) := by decide +kernel
theorem dL_law_597 : decode cL_law 597 = .ok (.iadd, 1) := by decide +kernel
theorem dL_law_598 : decode cL_law 598 = .ok (.iaload, 1) := by decide +kernel
theorem dL_law_599 : decode cL_law 599 = .ok (.invokevirtual 142, 3) := by decide +kernel
theorem dL_law_602 : decode cL_law 602 = .ok (.istore 6, 2) := by decide +kernel
theorem dL_law_604 : decode cL_law 604 = .ok (.aload_n 2, 1) := by decide +kernel
theorem dL_law_605 : decode cL_law 605 = .ok (.invokevirtual 116, 3) := by decide +kernel
theorem dL_law_608 : decode cL_law 608 = .ok (.iload 5, 2) := by decide +kernel
theorem dL_law_610 : decode cL_law 610 = .ok (.if_icmp .eq 5, 3) := by decide +kernel
theorem dL_law_613 : decode cL_law 613 = .ok (.iconst 0, 1) := by decide +kernel
theorem dL_law_614 : decode cL_law 614 = .ok (.ireturn, 1) := by decide +kernel
theorem dL_law_615 : decode cL_law 615 = .ok (.iload 5, 2) := by decide +kernel
theorem dL_law_617 : decode cL_law 617 = .ok (.ifCond .ne 22, 3) := by decide +kernel
theorem dL_law_620 : decode cL_law 620 = .ok (.aload_n 3, 1) := by decide +kernel
theorem dL_law_621 : decode cL_law 621 = .ok (.iconst 0, 1) := by decide +kernel
theorem dL_law_622 : decode cL_law 622 = .ok (.laload, 1) := by decide +kernel
theorem dL_law_623 : decode cL_law 623 = .ok (.iload 6, 2) := by decide +kernel
theorem dL_law_625 : decode cL_law 625 = .ok (.ifCond .eq 7, 3) := by decide +kernel
theorem dL_law_628 : decode cL_law 628 = .ok (.lconst 1, 1) := by decide +kernel
theorem dL_law_629 : decode cL_law 629 = .ok (.goto 4, 3) := by decide +kernel
theorem dL_law_632 : decode cL_law 632 = .ok (.lconst 0, 1) := by decide +kernel
theorem dL_law_633 : decode cL_law 633 = .ok (.lcmp, 1) := by decide +kernel
theorem dL_law_634 : decode cL_law 634 = .ok (.ifCond .eq 5, 3) := by decide +kernel
theorem dL_law_637 : decode cL_law 637 = .ok (.iconst 0, 1) := by decide +kernel
theorem dL_law_638 : decode cL_law 638 = .ok (.ireturn, 1) := by decide +kernel
theorem dL_law_639 : decode cL_law 639 = .ok (.goto 1481, 3) := by decide +kernel
theorem dL_law_642 : decode cL_law 642 = .ok (.aload_n 1, 1) := by decide +kernel
theorem dL_law_643 : decode cL_law 643 = .ok (.invokevirtual 143, 3) := by decide +kernel
theorem dL_law_646 : decode cL_law 646 = .ok (.aload_n 2, 1) := by decide +kernel
theorem dL_law_647 : decode cL_law 647 = .ok (.invokevirtual 146, 3) := by decide +kernel
theorem dL_law_650 : decode cL_law 650 = .ok (.if_icmp .eq 1470, 3) := by decide +kernel
theorem dL_law_653 : decode cL_law 653 = .ok (.iconst 0, 1) := by decide +kernel
theorem dL_law_654 : decode cL_law 654 = .ok (.ireturn, 1) := by decide +kernel
theorem dL_law_655 : decode cL_law 655 = .ok (.aload_n 1, 1) := by decide +kernel
theorem dL_law_656 : decode cL_law 656 = .ok (.aload_n 0, 1) := by decide +kernel
theorem dL_law_657 : decode cL_law 657 = .ok (.iload 4, 2) := by decide +kernel
theorem dL_law_659 : decode cL_law 659 = .ok (.iconst 1, 1) := by decide +kernel
theorem dL_law_660 : decode cL_law 660 = .ok (.iadd, 1) := by decide +kernel
theorem dL_law_661 : decode cL_law 661 = .ok (.iaload, 1) := by decide +kernel
theorem dL_law_662 : decode cL_law 662 = .ok (.aload_n 0, 1) := by decide +kernel
theorem dL_law_663 : decode cL_law 663 = .ok (.iload 4, 2) := by decide +kernel
theorem dL_law_665 : decode cL_law 665 = .ok (.iconst 2, 1) := by decide +kernel
theorem dL_law_666 : decode cL_law 666 = .ok (.iadd, 1) := by decide +kernel
theorem dL_law_667 : decode cL_law 667 = .ok (.iaload, 1) := by decide +kernel
theorem dL_law_668 : decode cL_law 668 = .ok (.ifCond .eq 7, 3) := by decide +kernel
theorem dL_law_671 : decode cL_law 671 = .ok (.iconst 1, 1) := by decide +kernel
theorem dL_law_672 : decode cL_law 672 = .ok (.goto 4, 3) := by decide +kernel
theorem dL_law_675 : decode cL_law 675 = .ok (.iconst 0, 1) := by decide +kernel
theorem dL_law_676 : decode cL_law 676 = .ok (.aload_n 3, 1) := by decide +kernel
theorem dL_law_677 : decode cL_law 677 = .ok (.invokestatic 147, 3) := by decide +kernel
theorem dL_law_680 : decode cL_law 680 = .ok (.istore 5, 2) := by decide +kernel
theorem dL_law_682 : decode cL_law 682 = .ok (.aload_n 2, 1) := by decide +kernel
theorem dL_law_683 : decode cL_law 683 = .ok (.aload_n 0, 1) := by decide +kernel
theorem dL_law_684 : decode cL_law 684 = .ok (.iload 4, 2) := by decide +kernel
theorem dL_law_686 : decode cL_law 686 = .ok (.iconst 1, 1) := by decide +kernel
theorem dL_law_687 : decode cL_law 687 = .ok (.iadd, 1) := by decide +kernel
theorem dL_law_688 : decode cL_law 688 = .ok (.iaload, 1) := by decide +kernel
theorem dL_law_689 : decode cL_law 689 = .ok (.aload_n 0, 1) := by decide +kernel
theorem dL_law_690 : decode cL_law 690 = .ok (.iload 4, 2) := by decide +kernel
theorem dL_law_692 : decode cL_law 692 = .ok (.iconst 2, 1) := by decide +kernel
theorem dL_law_693 : decode cL_law 693 = .ok (.iadd, 1) := by decide +kernel
theorem dL_law_694 : decode cL_law 694 = .ok (.iaload, 1) := by decide +kernel
theorem dL_law_695 : decode cL_law 695 = .ok (.ifCond .eq 7, 3) := by decide +kernel
theorem dL_law_698 : decode cL_law 698 = .ok (.iconst 1, 1) := by decide +kernel
theorem dL_law_699 : decode cL_law 699 = .ok (.goto 4, 3) := by decide +kernel
theorem dL_law_702 : decode cL_law 702 = .ok (.iconst 0, 1) := by decide +kernel
theorem dL_law_703 : decode cL_law 703 = .ok (.invokevirtual 150, 3) := by decide +kernel
theorem dL_law_706 : decode cL_law 706 = .ok (.istore 6, 2) := by decide +kernel
theorem dL_law_708 : decode cL_law 708 = .ok (.aload_n 2, 1) := by decide +kernel
theorem dL_law_709 : decode cL_law 709 = .ok (.invokevirtual 116, 3) := by decide +kernel
theorem dL_law_712 : decode cL_law 712 = .ok (.iload 5, 2) := by decide +kernel
theorem dL_law_714 : decode cL_law 714 = .ok (.if_icmp .eq 5, 3) := by decide +kernel
theorem dL_law_717 : decode cL_law 717 = .ok (.iconst 0, 1) := by decide +kernel
theorem dL_law_718 : decode cL_law 718 = .ok (.ireturn, 1) := by decide +kernel
theorem dL_law_719 : decode cL_law 719 = .ok (.iload 5, 2) := by decide +kernel
theorem dL_law_721 : decode cL_law 721 = .ok (.ifCond .ne 15, 3) := by decide +kernel
theorem dL_law_724 : decode cL_law 724 = .ok (.aload_n 3, 1) := by decide +kernel
theorem dL_law_725 : decode cL_law 725 = .ok (.iconst 0, 1) := by decide +kernel
theorem dL_law_726 : decode cL_law 726 = .ok (.laload, 1) := by decide +kernel
theorem dL_law_727 : decode cL_law 727 = .ok (.iload 6, 2) := by decide +kernel
theorem dL_law_729 : decode cL_law 729 = .ok (.i2l, 1) := by decide +kernel
theorem dL_law_730 : decode cL_law 730 = .ok (.lcmp, 1) := by decide +kernel
theorem dL_law_731 : decode cL_law 731 = .ok (.ifCond .eq 5, 3) := by decide +kernel
theorem dL_law_734 : decode cL_law 734 = .ok (.iconst 0, 1) := by decide +kernel
theorem dL_law_735 : decode cL_law 735 = .ok (.ireturn, 1) := by decide +kernel
theorem dL_law_736 : decode cL_law 736 = .ok (.goto 1384, 3) := by decide +kernel
theorem dL_law_739 : decode cL_law 739 = .ok (.aload_n 1, 1) := by decide +kernel
theorem dL_law_740 : decode cL_law 740 = .ok (.aload_n 0, 1) := by decide +kernel
theorem dL_law_741 : decode cL_law 741 = .ok (.iload 4, 2) := by decide +kernel
theorem dL_law_743 : decode cL_law 743 = .ok (.iconst 1, 1) := by decide +kernel
theorem dL_law_744 : decode cL_law 744 = .ok (.iadd, 1) := by decide +kernel
theorem dL_law_745 : decode cL_law 745 = .ok (.iaload, 1) := by decide +kernel
theorem dL_law_746 : decode cL_law 746 = .ok (.aload_n 0, 1) := by decide +kernel
theorem dL_law_747 : decode cL_law 747 = .ok (.iload 4, 2) := by decide +kernel
theorem dL_law_749 : decode cL_law 749 = .ok (.iconst 2, 1) := by decide +kernel
theorem dL_law_750 : decode cL_law 750 = .ok (.iadd, 1) := by decide +kernel
theorem dL_law_751 : decode cL_law 751 = .ok (.iaload, 1) := by decide +kernel
theorem dL_law_752 : decode cL_law 752 = .ok (.aload_n 3, 1) := by decide +kernel
theorem dL_law_753 : decode cL_law 753 = .ok (.invokestatic 151, 3) := by decide +kernel
theorem dL_law_756 : decode cL_law 756 = .ok (.istore 5, 2) := by decide +kernel
theorem dL_law_758 : decode cL_law 758 = .ok (.aload_n 2, 1) := by decide +kernel
theorem dL_law_759 : decode cL_law 759 = .ok (.aload_n 0, 1) := by decide +kernel
theorem dL_law_760 : decode cL_law 760 = .ok (.iload 4, 2) := by decide +kernel
theorem dL_law_762 : decode cL_law 762 = .ok (.iconst 1, 1) := by decide +kernel
theorem dL_law_763 : decode cL_law 763 = .ok (.iadd, 1) := by decide +kernel
theorem dL_law_764 : decode cL_law 764 = .ok (.iaload, 1) := by decide +kernel
theorem dL_law_765 : decode cL_law 765 = .ok (.aload_n 0, 1) := by decide +kernel
theorem dL_law_766 : decode cL_law 766 = .ok (.iload 4, 2) := by decide +kernel
theorem dL_law_768 : decode cL_law 768 = .ok (.iconst 2, 1) := by decide +kernel
theorem dL_law_769 : decode cL_law 769 = .ok (.iadd, 1) := by decide +kernel
theorem dL_law_770 : decode cL_law 770 = .ok (.iaload, 1) := by decide +kernel
theorem dL_law_771 : decode cL_law 771 = .ok (.invokevirtual 154, 3) := by decide +kernel
theorem dL_law_774 : decode cL_law 774 = .ok (.istore 6, 2) := by decide +kernel
theorem dL_law_776 : decode cL_law 776 = .ok (.aload_n 2, 1) := by decide +kernel
theorem dL_law_777 : decode cL_law 777 = .ok (.invokevirtual 116, 3) := by decide +kernel
theorem dL_law_780 : decode cL_law 780 = .ok (.iload 5, 2) := by decide +kernel
theorem dL_law_782 : decode cL_law 782 = .ok (.if_icmp .eq 5, 3) := by decide +kernel
theorem dL_law_785 : decode cL_law 785 = .ok (.iconst 0, 1) := by decide +kernel
theorem dL_law_786 : decode cL_law 786 = .ok (.ireturn, 1) := by decide +kernel
theorem dL_law_787 : decode cL_law 787 = .ok (.iload 5, 2) := by decide +kernel
theorem dL_law_789 : decode cL_law 789 = .ok (.ifCond .ne 15, 3) := by decide +kernel
theorem dL_law_792 : decode cL_law 792 = .ok (.aload_n 3, 1) := by decide +kernel
theorem dL_law_793 : decode cL_law 793 = .ok (.iconst 0, 1) := by decide +kernel
theorem dL_law_794 : decode cL_law 794 = .ok (.laload, 1) := by decide +kernel
theorem dL_law_795 : decode cL_law 795 = .ok (.iload 6, 2) := by decide +kernel
theorem dL_law_797 : decode cL_law 797 = .ok (.i2l, 1) := by decide +kernel
theorem dL_law_798 : decode cL_law 798 = .ok (.lcmp, 1) := by decide +kernel
theorem dL_law_799 : decode cL_law 799 = .ok (.ifCond .eq 5, 3) := by decide +kernel
theorem dL_law_802 : decode cL_law 802 = .ok (.iconst 0, 1) := by decide +kernel
theorem dL_law_803 : decode cL_law 803 = .ok (.ireturn, 1) := by decide +kernel
theorem dL_law_804 : decode cL_law 804 = .ok (.goto 1316, 3) := by decide +kernel
theorem dL_law_807 : decode cL_law 807 = .ok (.aload_n 1, 1) := by decide +kernel
theorem dL_law_808 : decode cL_law 808 = .ok (.aload_n 0, 1) := by decide +kernel
theorem dL_law_809 : decode cL_law 809 = .ok (.iload 4, 2) := by decide +kernel
theorem dL_law_811 : decode cL_law 811 = .ok (.iconst 1, 1) := by decide +kernel
theorem dL_law_812 : decode cL_law 812 = .ok (.iadd, 1) := by decide +kernel
theorem dL_law_813 : decode cL_law 813 = .ok (.iaload, 1) := by decide +kernel
theorem dL_law_814 : decode cL_law 814 = .ok (.aload_n 0, 1) := by decide +kernel
theorem dL_law_815 : decode cL_law 815 = .ok (.iload 4, 2) := by decide +kernel
theorem dL_law_817 : decode cL_law 817 = .ok (.iconst 2, 1) := by decide +kernel
theorem dL_law_818 : decode cL_law 818 = .ok (.iadd, 1) := by decide +kernel
theorem dL_law_819 : decode cL_law 819 = .ok (.iaload, 1) := by decide +kernel
theorem dL_law_820 : decode cL_law 820 = .ok (.aload_n 3, 1) := by decide +kernel
theorem dL_law_821 : decode cL_law 821 = .ok (.invokestatic 155, 3) := by decide +kernel
theorem dL_law_824 : decode cL_law 824 = .ok (.istore 5, 2) := by decide +kernel
theorem dL_law_826 : decode cL_law 826 = .ok (.aload_n 2, 1) := by decide +kernel
theorem dL_law_827 : decode cL_law 827 = .ok (.aload_n 0, 1) := by decide +kernel
theorem dL_law_828 : decode cL_law 828 = .ok (.iload 4, 2) := by decide +kernel
theorem dL_law_830 : decode cL_law 830 = .ok (.iconst 1, 1) := by decide +kernel
theorem dL_law_831 : decode cL_law 831 = .ok (.iadd, 1) := by decide +kernel
theorem dL_law_832 : decode cL_law 832 = .ok (.iaload, 1) := by decide +kernel
theorem dL_law_833 : decode cL_law 833 = .ok (.aload_n 0, 1) := by decide +kernel
theorem dL_law_834 : decode cL_law 834 = .ok (.iload 4, 2) := by decide +kernel
theorem dL_law_836 : decode cL_law 836 = .ok (.iconst 2, 1) := by decide +kernel
theorem dL_law_837 : decode cL_law 837 = .ok (.iadd, 1) := by decide +kernel
theorem dL_law_838 : decode cL_law 838 = .ok (.iaload, 1) := by decide +kernel
theorem dL_law_839 : decode cL_law 839 = .ok (.invokevirtual 157, 3) := by decide +kernel
theorem dL_law_842 : decode cL_law 842 = .ok (.istore 6, 2) := by decide +kernel
theorem dL_law_844 : decode cL_law 844 = .ok (.aload_n 2, 1) := by decide +kernel
theorem dL_law_845 : decode cL_law 845 = .ok (.invokevirtual 116, 3) := by decide +kernel
theorem dL_law_848 : decode cL_law 848 = .ok (.iload 5, 2) := by decide +kernel
theorem dL_law_850 : decode cL_law 850 = .ok (.if_icmp .eq 5, 3) := by decide +kernel
theorem dL_law_853 : decode cL_law 853 = .ok (.iconst 0, 1) := by decide +kernel
theorem dL_law_854 : decode cL_law 854 = .ok (.ireturn, 1) := by decide +kernel
theorem dL_law_855 : decode cL_law 855 = .ok (.iload 5, 2) := by decide +kernel
theorem dL_law_857 : decode cL_law 857 = .ok (.ifCond .ne 15, 3) := by decide +kernel
theorem dL_law_860 : decode cL_law 860 = .ok (.aload_n 3, 1) := by decide +kernel
theorem dL_law_861 : decode cL_law 861 = .ok (.iconst 0, 1) := by decide +kernel
theorem dL_law_862 : decode cL_law 862 = .ok (.laload, 1) := by decide +kernel
theorem dL_law_863 : decode cL_law 863 = .ok (.iload 6, 2) := by decide +kernel
theorem dL_law_865 : decode cL_law 865 = .ok (.i2l, 1) := by decide +kernel
theorem dL_law_866 : decode cL_law 866 = .ok (.lcmp, 1) := by decide +kernel
theorem dL_law_867 : decode cL_law 867 = .ok (.ifCond .eq 5, 3) := by decide +kernel
theorem dL_law_870 : decode cL_law 870 = .ok (.iconst 0, 1) := by decide +kernel
theorem dL_law_871 : decode cL_law 871 = .ok (.ireturn, 1) := by decide +kernel
theorem dL_law_872 : decode cL_law 872 = .ok (.goto 1248, 3) := by decide +kernel
theorem dL_law_875 : decode cL_law 875 = .ok (.aload_n 1, 1) := by decide +kernel
theorem dL_law_876 : decode cL_law 876 = .ok (.aload_n 0, 1) := by decide +kernel
theorem dL_law_877 : decode cL_law 877 = .ok (.iload 4, 2) := by decide +kernel
theorem dL_law_879 : decode cL_law 879 = .ok (.iconst 1, 1) := by decide +kernel
theorem dL_law_880 : decode cL_law 880 = .ok (.iadd, 1) := by decide +kernel
theorem dL_law_881 : decode cL_law 881 = .ok (.iaload, 1) := by decide +kernel
theorem dL_law_882 : decode cL_law 882 = .ok (.aload_n 3, 1) := by decide +kernel
theorem dL_law_883 : decode cL_law 883 = .ok (.invokestatic 158, 3) := by decide +kernel
theorem dL_law_886 : decode cL_law 886 = .ok (.istore 5, 2) := by decide +kernel
theorem dL_law_888 : decode cL_law 888 = .ok (.aload_n 2, 1) := by decide +kernel
theorem dL_law_889 : decode cL_law 889 = .ok (.aload_n 0, 1) := by decide +kernel
theorem dL_law_890 : decode cL_law 890 = .ok (.iload 4, 2) := by decide +kernel
theorem dL_law_892 : decode cL_law 892 = .ok (.iconst 1, 1) := by decide +kernel
theorem dL_law_893 : decode cL_law 893 = .ok (.iadd, 1) := by decide +kernel
theorem dL_law_894 : decode cL_law 894 = .ok (.iaload, 1) := by decide +kernel
theorem dL_law_895 : decode cL_law 895 = .ok (.invokevirtual 160, 3) := by decide +kernel
theorem dL_law_898 : decode cL_law 898 = .ok (.istore 6, 2) := by decide +kernel
theorem dL_law_900 : decode cL_law 900 = .ok (.aload_n 2, 1) := by decide +kernel
theorem dL_law_901 : decode cL_law 901 = .ok (.invokevirtual 116, 3) := by decide +kernel
theorem dL_law_904 : decode cL_law 904 = .ok (.iload 5, 2) := by decide +kernel
theorem dL_law_906 : decode cL_law 906 = .ok (.if_icmp .eq 5, 3) := by decide +kernel
theorem dL_law_909 : decode cL_law 909 = .ok (.iconst 0, 1) := by decide +kernel
theorem dL_law_910 : decode cL_law 910 = .ok (.ireturn, 1) := by decide +kernel
theorem dL_law_911 : decode cL_law 911 = .ok (.iload 5, 2) := by decide +kernel
theorem dL_law_913 : decode cL_law 913 = .ok (.ifCond .ne 15, 3) := by decide +kernel
theorem dL_law_916 : decode cL_law 916 = .ok (.aload_n 3, 1) := by decide +kernel
theorem dL_law_917 : decode cL_law 917 = .ok (.iconst 0, 1) := by decide +kernel
theorem dL_law_918 : decode cL_law 918 = .ok (.laload, 1) := by decide +kernel
theorem dL_law_919 : decode cL_law 919 = .ok (.iload 6, 2) := by decide +kernel
theorem dL_law_921 : decode cL_law 921 = .ok (.i2l, 1) := by decide +kernel
theorem dL_law_922 : decode cL_law 922 = .ok (.lcmp, 1) := by decide +kernel
theorem dL_law_923 : decode cL_law 923 = .ok (.ifCond .eq 5, 3) := by decide +kernel
theorem dL_law_926 : decode cL_law 926 = .ok (.iconst 0, 1) := by decide +kernel
theorem dL_law_927 : decode cL_law 927 = .ok (.ireturn, 1) := by decide +kernel
theorem dL_law_928 : decode cL_law 928 = .ok (.goto 1192, 3) := by decide +kernel
theorem dL_law_931 : decode cL_law 931 = .ok (.aload_n 1, 1) := by decide +kernel
theorem dL_law_932 : decode cL_law 932 = .ok (.aload_n 0, 1) := by decide +kernel
theorem dL_law_933 : decode cL_law 933 = .ok (.iload 4, 2) := by decide +kernel
theorem dL_law_935 : decode cL_law 935 = .ok (.iconst 1, 1) := by decide +kernel
theorem dL_law_936 : decode cL_law 936 = .ok (.iadd, 1) := by decide +kernel
theorem dL_law_937 : decode cL_law 937 = .ok (.iaload, 1) := by decide +kernel
theorem dL_law_938 : decode cL_law 938 = .ok (.aload_n 3, 1) := by decide +kernel
theorem dL_law_939 : decode cL_law 939 = .ok (.invokestatic 161, 3) := by decide +kernel
theorem dL_law_942 : decode cL_law 942 = .ok (.istore 5, 2) := by decide +kernel
theorem dL_law_944 : decode cL_law 944 = .ok (.aload_n 2, 1) := by decide +kernel
theorem dL_law_945 : decode cL_law 945 = .ok (.aload_n 0, 1) := by decide +kernel
theorem dL_law_946 : decode cL_law 946 = .ok (.iload 4, 2) := by decide +kernel
theorem dL_law_948 : decode cL_law 948 = .ok (.iconst 1, 1) := by decide +kernel
theorem dL_law_949 : decode cL_law 949 = .ok (.iadd, 1) := by decide +kernel
theorem dL_law_950 : decode cL_law 950 = .ok (.iaload, 1) := by decide +kernel
theorem dL_law_951 : decode cL_law 951 = .ok (.invokevirtual 163, 3) := by decide +kernel
theorem dL_law_954 : decode cL_law 954 = .ok (.istore 6, 2) := by decide +kernel
theorem dL_law_956 : decode cL_law 956 = .ok (.aload_n 2, 1) := by decide +kernel
theorem dL_law_957 : decode cL_law 957 = .ok (.invokevirtual 116, 3) := by decide +kernel
theorem dL_law_960 : decode cL_law 960 = .ok (.iload 5, 2) := by decide +kernel
theorem dL_law_962 : decode cL_law 962 = .ok (.if_icmp .eq 5, 3) := by decide +kernel
theorem dL_law_965 : decode cL_law 965 = .ok (.iconst 0, 1) := by decide +kernel
theorem dL_law_966 : decode cL_law 966 = .ok (.ireturn, 1) := by decide +kernel
theorem dL_law_967 : decode cL_law 967 = .ok (.iload 5, 2) := by decide +kernel
theorem dL_law_969 : decode cL_law 969 = .ok (.ifCond .ne 15, 3) := by decide +kernel
theorem dL_law_972 : decode cL_law 972 = .ok (.aload_n 3, 1) := by decide +kernel
theorem dL_law_973 : decode cL_law 973 = .ok (.iconst 0, 1) := by decide +kernel
theorem dL_law_974 : decode cL_law 974 = .ok (.laload, 1) := by decide +kernel
theorem dL_law_975 : decode cL_law 975 = .ok (.iload 6, 2) := by decide +kernel
theorem dL_law_977 : decode cL_law 977 = .ok (.i2l, 1) := by decide +kernel
theorem dL_law_978 : decode cL_law 978 = .ok (.lcmp, 1) := by decide +kernel
theorem dL_law_979 : decode cL_law 979 = .ok (.ifCond .eq 5, 3) := by decide +kernel
theorem dL_law_982 : decode cL_law 982 = .ok (.iconst 0, 1) := by decide +kernel
theorem dL_law_983 : decode cL_law 983 = .ok (.ireturn, 1) := by decide +kernel
theorem dL_law_984 : decode cL_law 984 = .ok (.goto 1136, 3) := by decide +kernel
theorem dL_law_987 : decode cL_law 987 = .ok (.aload_n 1, 1) := by decide +kernel
theorem dL_law_988 : decode cL_law 988 = .ok (.invokevirtual 164, 3) := by decide +kernel
theorem dL_law_991 : decode cL_law 991 = .ok (.aload_n 2, 1) := by decide +kernel
theorem dL_law_992 : decode cL_law 992 = .ok (.invokevirtual 167, 3) := by decide +kernel
theorem dL_law_995 : decode cL_law 995 = .ok (.if_icmp .eq 1125, 3) := by decide +kernel
theorem dL_law_998 : decode cL_law 998 = .ok (.iconst 0, 1) := by decide +kernel
theorem dL_law_999 : decode cL_law 999 = .ok (.ireturn, 1) := by decide +kernel
theorem dL_law_1000 : decode cL_law 1000 = .ok (.aload_n 1, 1) := by decide +kernel
theorem dL_law_1001 : decode cL_law 1001 = .ok (.aload_n 0, 1) := by decide +kernel
theorem dL_law_1002 : decode cL_law 1002 = .ok (.iload 4, 2) := by decide +kernel
theorem dL_law_1004 : decode cL_law 1004 = .ok (.iconst 1, 1) := by decide +kernel
theorem dL_law_1005 : decode cL_law 1005 = .ok (.iadd, 1) := by decide +kernel
theorem dL_law_1006 : decode cL_law 1006 = .ok (.iaload, 1) := by decide +kernel
theorem dL_law_1007 : decode cL_law 1007 = .ok (.aload_n 0, 1) := by decide +kernel
theorem dL_law_1008 : decode cL_law 1008 = .ok (.iload 4, 2) := by decide +kernel
theorem dL_law_1010 : decode cL_law 1010 = .ok (.iconst 2, 1) := by decide +kernel
theorem dL_law_1011 : decode cL_law 1011 = .ok (.iadd, 1) := by decide +kernel
theorem dL_law_1012 : decode cL_law 1012 = .ok (.iaload, 1) := by decide +kernel
theorem dL_law_1013 : decode cL_law 1013 = .ok (.aload_n 3, 1) := by decide +kernel
theorem dL_law_1014 : decode cL_law 1014 = .ok (.invokestatic 168, 3) := by decide +kernel
theorem dL_law_1017 : decode cL_law 1017 = .ok (.istore 5, 2) := by decide +kernel
theorem dL_law_1019 : decode cL_law 1019 = .ok (.aload_n 2, 1) := by decide +kernel
theorem dL_law_1020 : decode cL_law 1020 = .ok (.aload_n 0, 1) := by decide +kernel
theorem dL_law_1021 : decode cL_law 1021 = .ok (.iload 4, 2) := by decide +kernel
theorem dL_law_1023 : decode cL_law 1023 = .ok (.iconst 1, 1) := by decide +kernel
theorem dL_law_1024 : decode cL_law 1024 = .ok (.iadd, 1) := by decide +kernel
theorem dL_law_1025 : decode cL_law 1025 = .ok (.iaload, 1) := by decide +kernel
theorem dL_law_1026 : decode cL_law 1026 = .ok (.aload_n 0, 1) := by decide +kernel
theorem dL_law_1027 : decode cL_law 1027 = .ok (.iload 4, 2) := by decide +kernel
theorem dL_law_1029 : decode cL_law 1029 = .ok (.iconst 2, 1) := by decide +kernel
theorem dL_law_1030 : decode cL_law 1030 = .ok (.iadd, 1) := by decide +kernel
theorem dL_law_1031 : decode cL_law 1031 = .ok (.iaload, 1) := by decide +kernel
theorem dL_law_1032 : decode cL_law 1032 = .ok (.invokevirtual 170, 3) := by decide +kernel
theorem dL_law_1035 : decode cL_law 1035 = .ok (.istore 6, 2) := by decide +kernel
theorem dL_law_1037 : decode cL_law 1037 = .ok (.aload_n 2, 1) := by decide +kernel
theorem dL_law_1038 : decode cL_law 1038 = .ok (.invokevirtual 116, 3) := by decide +kernel
theorem dL_law_1041 : decode cL_law 1041 = .ok (.iload 5, 2) := by decide +kernel
theorem dL_law_1043 : decode cL_law 1043 = .ok (.if_icmp .eq 5, 3) := by decide +kernel
theorem dL_law_1046 : decode cL_law 1046 = .ok (.iconst 0, 1) := by decide +kernel
theorem dL_law_1047 : decode cL_law 1047 = .ok (.ireturn, 1) := by decide +kernel
theorem dL_law_1048 : decode cL_law 1048 = .ok (.iload 5, 2) := by decide +kernel
theorem dL_law_1050 : decode cL_law 1050 = .ok (.ifCond .ne 15, 3) := by decide +kernel
theorem dL_law_1053 : decode cL_law 1053 = .ok (.aload_n 3, 1) := by decide +kernel
theorem dL_law_1054 : decode cL_law 1054 = .ok (.iconst 0, 1) := by decide +kernel
theorem dL_law_1055 : decode cL_law 1055 = .ok (.laload, 1) := by decide +kernel
theorem dL_law_1056 : decode cL_law 1056 = .ok (.iload 6, 2) := by decide +kernel
theorem dL_law_1058 : decode cL_law 1058 = .ok (.i2l, 1) := by decide +kernel
theorem dL_law_1059 : decode cL_law 1059 = .ok (.lcmp, 1) := by decide +kernel
theorem dL_law_1060 : decode cL_law 1060 = .ok (.ifCond .eq 5, 3) := by decide +kernel
theorem dL_law_1063 : decode cL_law 1063 = .ok (.iconst 0, 1) := by decide +kernel
theorem dL_law_1064 : decode cL_law 1064 = .ok (.ireturn, 1) := by decide +kernel
theorem dL_law_1065 : decode cL_law 1065 = .ok (.goto 1055, 3) := by decide +kernel
theorem dL_law_1068 : decode cL_law 1068 = .ok (.aload_n 1, 1) := by decide +kernel
theorem dL_law_1069 : decode cL_law 1069 = .ok (.aload_n 0, 1) := by decide +kernel
theorem dL_law_1070 : decode cL_law 1070 = .ok (.iload 4, 2) := by decide +kernel
theorem dL_law_1072 : decode cL_law 1072 = .ok (.iconst 1, 1) := by decide +kernel
theorem dL_law_1073 : decode cL_law 1073 = .ok (.iadd, 1) := by decide +kernel
theorem dL_law_1074 : decode cL_law 1074 = .ok (.iaload, 1) := by decide +kernel
theorem dL_law_1075 : decode cL_law 1075 = .ok (.aload_n 0, 1) := by decide +kernel
theorem dL_law_1076 : decode cL_law 1076 = .ok (.iload 4, 2) := by decide +kernel
theorem dL_law_1078 : decode cL_law 1078 = .ok (.iconst 2, 1) := by decide +kernel
theorem dL_law_1079 : decode cL_law 1079 = .ok (.iadd, 1) := by decide +kernel
theorem dL_law_1080 : decode cL_law 1080 = .ok (.iaload, 1) := by decide +kernel
theorem dL_law_1081 : decode cL_law 1081 = .ok (.aload_n 3, 1) := by decide +kernel
theorem dL_law_1082 : decode cL_law 1082 = .ok (.invokestatic 171, 3) := by decide +kernel
theorem dL_law_1085 : decode cL_law 1085 = .ok (.istore 5, 2) := by decide +kernel
theorem dL_law_1087 : decode cL_law 1087 = .ok (.aload_n 2, 1) := by decide +kernel
theorem dL_law_1088 : decode cL_law 1088 = .ok (.aload_n 0, 1) := by decide +kernel
theorem dL_law_1089 : decode cL_law 1089 = .ok (.iload 4, 2) := by decide +kernel
theorem dL_law_1091 : decode cL_law 1091 = .ok (.iconst 1, 1) := by decide +kernel
theorem dL_law_1092 : decode cL_law 1092 = .ok (.iadd, 1) := by decide +kernel
theorem dL_law_1093 : decode cL_law 1093 = .ok (.iaload, 1) := by decide +kernel
theorem dL_law_1094 : decode cL_law 1094 = .ok (.aload_n 0, 1) := by decide +kernel
theorem dL_law_1095 : decode cL_law 1095 = .ok (.iload 4, 2) := by decide +kernel
theorem dL_law_1097 : decode cL_law 1097 = .ok (.iconst 2, 1) := by decide +kernel
theorem dL_law_1098 : decode cL_law 1098 = .ok (.iadd, 1) := by decide +kernel
theorem dL_law_1099 : decode cL_law 1099 = .ok (.iaload, 1) := by decide +kernel
theorem dL_law_1100 : decode cL_law 1100 = .ok (.invokevirtual 173, 3) := by decide +kernel
theorem dL_law_1103 : decode cL_law 1103 = .ok (.istore 6, 2) := by decide +kernel
theorem dL_law_1105 : decode cL_law 1105 = .ok (.aload_n 2, 1) := by decide +kernel
theorem dL_law_1106 : decode cL_law 1106 = .ok (.invokevirtual 116, 3) := by decide +kernel
theorem dL_law_1109 : decode cL_law 1109 = .ok (.iload 5, 2) := by decide +kernel
theorem dL_law_1111 : decode cL_law 1111 = .ok (.if_icmp .eq 5, 3) := by decide +kernel
theorem dL_law_1114 : decode cL_law 1114 = .ok (.iconst 0, 1) := by decide +kernel
theorem dL_law_1115 : decode cL_law 1115 = .ok (.ireturn, 1) := by decide +kernel
theorem dL_law_1116 : decode cL_law 1116 = .ok (.iload 5, 2) := by decide +kernel
theorem dL_law_1118 : decode cL_law 1118 = .ok (.ifCond .ne 15, 3) := by decide +kernel
theorem dL_law_1121 : decode cL_law 1121 = .ok (.aload_n 3, 1) := by decide +kernel
theorem dL_law_1122 : decode cL_law 1122 = .ok (.iconst 0, 1) := by decide +kernel
theorem dL_law_1123 : decode cL_law 1123 = .ok (.laload, 1) := by decide +kernel
theorem dL_law_1124 : decode cL_law 1124 = .ok (.iload 6, 2) := by decide +kernel
theorem dL_law_1126 : decode cL_law 1126 = .ok (.i2l, 1) := by decide +kernel
theorem dL_law_1127 : decode cL_law 1127 = .ok (.lcmp, 1) := by decide +kernel
theorem dL_law_1128 : decode cL_law 1128 = .ok (.ifCond .eq 5, 3) := by decide +kernel
theorem dL_law_1131 : decode cL_law 1131 = .ok (.iconst 0, 1) := by decide +kernel
theorem dL_law_1132 : decode cL_law 1132 = .ok (.ireturn, 1) := by decide +kernel
theorem dL_law_1133 : decode cL_law 1133 = .ok (.goto 987, 3) := by decide +kernel
theorem dL_law_1136 : decode cL_law 1136 = .ok (.aload_n 1, 1) := by decide +kernel
theorem dL_law_1137 : decode cL_law 1137 = .ok (.invokevirtual 174, 3) := by decide +kernel
theorem dL_law_1140 : decode cL_law 1140 = .ok (.aload_n 2, 1) := by decide +kernel
theorem dL_law_1141 : decode cL_law 1141 = .ok (.invokevirtual 177, 3) := by decide +kernel
theorem dL_law_1144 : decode cL_law 1144 = .ok (.if_icmp .eq 976, 3) := by decide +kernel
theorem dL_law_1147 : decode cL_law 1147 = .ok (.iconst 0, 1) := by decide +kernel
theorem dL_law_1148 : decode cL_law 1148 = .ok (.ireturn, 1) := by decide +kernel
theorem dL_law_1149 : decode cL_law 1149 = .ok (.aload_n 1, 1) := by decide +kernel
theorem dL_law_1150 : decode cL_law 1150 = .ok (.aload_n 0, 1) := by decide +kernel
theorem dL_law_1151 : decode cL_law 1151 = .ok (.iload 4, 2) := by decide +kernel
theorem dL_law_1153 : decode cL_law 1153 = .ok (.iconst 1, 1) := by decide +kernel
theorem dL_law_1154 : decode cL_law 1154 = .ok (.iadd, 1) := by decide +kernel
theorem dL_law_1155 : decode cL_law 1155 = .ok (.iaload, 1) := by decide +kernel
theorem dL_law_1156 : decode cL_law 1156 = .ok (.aload_n 0, 1) := by decide +kernel
theorem dL_law_1157 : decode cL_law 1157 = .ok (.iload 4, 2) := by decide +kernel
theorem dL_law_1159 : decode cL_law 1159 = .ok (.iconst 2, 1) := by decide +kernel
theorem dL_law_1160 : decode cL_law 1160 = .ok (.iadd, 1) := by decide +kernel
theorem dL_law_1161 : decode cL_law 1161 = .ok (.iaload, 1) := by decide +kernel
theorem dL_law_1162 : decode cL_law 1162 = .ok (.aload_n 3, 1) := by decide +kernel
theorem dL_law_1163 : decode cL_law 1163 = .ok (.invokestatic 178, 3) := by decide +kernel
theorem dL_law_1166 : decode cL_law 1166 = .ok (.istore 5, 2) := by decide +kernel
theorem dL_law_1168 : decode cL_law 1168 = .ok (.aload_n 2, 1) := by decide +kernel
theorem dL_law_1169 : decode cL_law 1169 = .ok (.aload_n 0, 1) := by decide +kernel
theorem dL_law_1170 : decode cL_law 1170 = .ok (.iload 4, 2) := by decide +kernel
theorem dL_law_1172 : decode cL_law 1172 = .ok (.iconst 1, 1) := by decide +kernel
theorem dL_law_1173 : decode cL_law 1173 = .ok (.iadd, 1) := by decide +kernel
theorem dL_law_1174 : decode cL_law 1174 = .ok (.iaload, 1) := by decide +kernel
theorem dL_law_1175 : decode cL_law 1175 = .ok (.aload_n 0, 1) := by decide +kernel
theorem dL_law_1176 : decode cL_law 1176 = .ok (.iload 4, 2) := by decide +kernel
theorem dL_law_1178 : decode cL_law 1178 = .ok (.iconst 2, 1) := by decide +kernel
theorem dL_law_1179 : decode cL_law 1179 = .ok (.iadd, 1) := by decide +kernel
theorem dL_law_1180 : decode cL_law 1180 = .ok (.iaload, 1) := by decide +kernel
theorem dL_law_1181 : decode cL_law 1181 = .ok (.invokevirtual 180, 3) := by decide +kernel
theorem dL_law_1184 : decode cL_law 1184 = .ok (.istore 6, 2) := by decide +kernel
theorem dL_law_1186 : decode cL_law 1186 = .ok (.aload_n 2, 1) := by decide +kernel
theorem dL_law_1187 : decode cL_law 1187 = .ok (.invokevirtual 116, 3) := by decide +kernel
theorem dL_law_1190 : decode cL_law 1190 = .ok (.iload 5, 2) := by decide +kernel
theorem dL_law_1192 : decode cL_law 1192 = .ok (.if_icmp .eq 5, 3) := by decide +kernel
theorem dL_law_1195 : decode cL_law 1195 = .ok (.iconst 0, 1) := by decide +kernel
theorem dL_law_1196 : decode cL_law 1196 = .ok (.ireturn, 1) := by decide +kernel
theorem dL_law_1197 : decode cL_law 1197 = .ok (.iload 5, 2) := by decide +kernel
theorem dL_law_1199 : decode cL_law 1199 = .ok (.ifCond .ne 15, 3) := by decide +kernel
theorem dL_law_1202 : decode cL_law 1202 = .ok (.aload_n 3, 1) := by decide +kernel
theorem dL_law_1203 : decode cL_law 1203 = .ok (.iconst 0, 1) := by decide +kernel
theorem dL_law_1204 : decode cL_law 1204 = .ok (.laload, 1) := by decide +kernel
theorem dL_law_1205 : decode cL_law 1205 = .ok (.iload 6, 2) := by decide +kernel
theorem dL_law_1207 : decode cL_law 1207 = .ok (.i2l, 1) := by decide +kernel
theorem dL_law_1208 : decode cL_law 1208 = .ok (.lcmp, 1) := by decide +kernel
theorem dL_law_1209 : decode cL_law 1209 = .ok (.ifCond .eq 5, 3) := by decide +kernel
theorem dL_law_1212 : decode cL_law 1212 = .ok (.iconst 0, 1) := by decide +kernel
theorem dL_law_1213 : decode cL_law 1213 = .ok (.ireturn, 1) := by decide +kernel
theorem dL_law_1214 : decode cL_law 1214 = .ok (.goto 906, 3) := by decide +kernel
theorem dL_law_1217 : decode cL_law 1217 = .ok (.aload_n 1, 1) := by decide +kernel
theorem dL_law_1218 : decode cL_law 1218 = .ok (.aload_n 0, 1) := by decide +kernel
theorem dL_law_1219 : decode cL_law 1219 = .ok (.iload 4, 2) := by decide +kernel
theorem dL_law_1221 : decode cL_law 1221 = .ok (.iconst 1, 1) := by decide +kernel
theorem dL_law_1222 : decode cL_law 1222 = .ok (.iadd, 1) := by decide +kernel
theorem dL_law_1223 : decode cL_law 1223 = .ok (.iaload, 1) := by decide +kernel
theorem dL_law_1224 : decode cL_law 1224 = .ok (.aload_n 3, 1) := by decide +kernel
theorem dL_law_1225 : decode cL_law 1225 = .ok (.invokestatic 181, 3) := by decide +kernel
theorem dL_law_1228 : decode cL_law 1228 = .ok (.istore 5, 2) := by decide +kernel
theorem dL_law_1230 : decode cL_law 1230 = .ok (.aload_n 2, 1) := by decide +kernel
theorem dL_law_1231 : decode cL_law 1231 = .ok (.aload_n 0, 1) := by decide +kernel
theorem dL_law_1232 : decode cL_law 1232 = .ok (.iload 4, 2) := by decide +kernel
theorem dL_law_1234 : decode cL_law 1234 = .ok (.iconst 1, 1) := by decide +kernel
theorem dL_law_1235 : decode cL_law 1235 = .ok (.iadd, 1) := by decide +kernel
theorem dL_law_1236 : decode cL_law 1236 = .ok (.iaload, 1) := by decide +kernel
theorem dL_law_1237 : decode cL_law 1237 = .ok (.invokevirtual 183, 3) := by decide +kernel
theorem dL_law_1240 : decode cL_law 1240 = .ok (.istore 6, 2) := by decide +kernel
theorem dL_law_1242 : decode cL_law 1242 = .ok (.aload_n 2, 1) := by decide +kernel
theorem dL_law_1243 : decode cL_law 1243 = .ok (.invokevirtual 116, 3) := by decide +kernel
theorem dL_law_1246 : decode cL_law 1246 = .ok (.iload 5, 2) := by decide +kernel
theorem dL_law_1248 : decode cL_law 1248 = .ok (.if_icmp .eq 5, 3) := by decide +kernel
theorem dL_law_1251 : decode cL_law 1251 = .ok (.iconst 0, 1) := by decide +kernel
theorem dL_law_1252 : decode cL_law 1252 = .ok (.ireturn, 1) := by decide +kernel
theorem dL_law_1253 : decode cL_law 1253 = .ok (.iload 5, 2) := by decide +kernel
theorem dL_law_1255 : decode cL_law 1255 = .ok (.ifCond .ne 15, 3) := by decide +kernel
theorem dL_law_1258 : decode cL_law 1258 = .ok (.aload_n 3, 1) := by decide +kernel
theorem dL_law_1259 : decode cL_law 1259 = .ok (.iconst 0, 1) := by decide +kernel
theorem dL_law_1260 : decode cL_law 1260 = .ok (.laload, 1) := by decide +kernel
theorem dL_law_1261 : decode cL_law 1261 = .ok (.iload 6, 2) := by decide +kernel
theorem dL_law_1263 : decode cL_law 1263 = .ok (.i2l, 1) := by decide +kernel
theorem dL_law_1264 : decode cL_law 1264 = .ok (.lcmp, 1) := by decide +kernel
theorem dL_law_1265 : decode cL_law 1265 = .ok (.ifCond .eq 5, 3) := by decide +kernel
theorem dL_law_1268 : decode cL_law 1268 = .ok (.iconst 0, 1) := by decide +kernel
theorem dL_law_1269 : decode cL_law 1269 = .ok (.ireturn, 1) := by decide +kernel
theorem dL_law_1270 : decode cL_law 1270 = .ok (.goto 850, 3) := by decide +kernel
theorem dL_law_1273 : decode cL_law 1273 = .ok (.aload_n 1, 1) := by decide +kernel
theorem dL_law_1274 : decode cL_law 1274 = .ok (.aload_n 0, 1) := by decide +kernel
theorem dL_law_1275 : decode cL_law 1275 = .ok (.iload 4, 2) := by decide +kernel
theorem dL_law_1277 : decode cL_law 1277 = .ok (.iconst 1, 1) := by decide +kernel
theorem dL_law_1278 : decode cL_law 1278 = .ok (.iadd, 1) := by decide +kernel
theorem dL_law_1279 : decode cL_law 1279 = .ok (.iaload, 1) := by decide +kernel
theorem dL_law_1280 : decode cL_law 1280 = .ok (.aload_n 0, 1) := by decide +kernel
theorem dL_law_1281 : decode cL_law 1281 = .ok (.iload 4, 2) := by decide +kernel
theorem dL_law_1283 : decode cL_law 1283 = .ok (.iconst 2, 1) := by decide +kernel
theorem dL_law_1284 : decode cL_law 1284 = .ok (.iadd, 1) := by decide +kernel
theorem dL_law_1285 : decode cL_law 1285 = .ok (.iaload, 1) := by decide +kernel
theorem dL_law_1286 : decode cL_law 1286 = .ok (.aload_n 3, 1) := by decide +kernel
theorem dL_law_1287 : decode cL_law 1287 = .ok (.invokestatic 184, 3) := by decide +kernel
theorem dL_law_1290 : decode cL_law 1290 = .ok (.istore 5, 2) := by decide +kernel
theorem dL_law_1292 : decode cL_law 1292 = .ok (.aload_n 2, 1) := by decide +kernel
theorem dL_law_1293 : decode cL_law 1293 = .ok (.aload_n 0, 1) := by decide +kernel
theorem dL_law_1294 : decode cL_law 1294 = .ok (.iload 4, 2) := by decide +kernel
theorem dL_law_1296 : decode cL_law 1296 = .ok (.iconst 1, 1) := by decide +kernel
theorem dL_law_1297 : decode cL_law 1297 = .ok (.iadd, 1) := by decide +kernel
theorem dL_law_1298 : decode cL_law 1298 = .ok (.iaload, 1) := by decide +kernel
theorem dL_law_1299 : decode cL_law 1299 = .ok (.aload_n 0, 1) := by decide +kernel
theorem dL_law_1300 : decode cL_law 1300 = .ok (.iload 4, 2) := by decide +kernel
theorem dL_law_1302 : decode cL_law 1302 = .ok (.iconst 2, 1) := by decide +kernel
theorem dL_law_1303 : decode cL_law 1303 = .ok (.iadd, 1) := by decide +kernel
theorem dL_law_1304 : decode cL_law 1304 = .ok (.iaload, 1) := by decide +kernel
theorem dL_law_1305 : decode cL_law 1305 = .ok (.invokevirtual 186, 3) := by decide +kernel
theorem dL_law_1308 : decode cL_law 1308 = .ok (.istore 6, 2) := by decide +kernel
theorem dL_law_1310 : decode cL_law 1310 = .ok (.aload_n 2, 1) := by decide +kernel
theorem dL_law_1311 : decode cL_law 1311 = .ok (.invokevirtual 116, 3) := by decide +kernel
theorem dL_law_1314 : decode cL_law 1314 = .ok (.iload 5, 2) := by decide +kernel
theorem dL_law_1316 : decode cL_law 1316 = .ok (.if_icmp .eq 5, 3) := by decide +kernel
theorem dL_law_1319 : decode cL_law 1319 = .ok (.iconst 0, 1) := by decide +kernel
theorem dL_law_1320 : decode cL_law 1320 = .ok (.ireturn, 1) := by decide +kernel
theorem dL_law_1321 : decode cL_law 1321 = .ok (.iload 5, 2) := by decide +kernel
theorem dL_law_1323 : decode cL_law 1323 = .ok (.ifCond .ne 15, 3) := by decide +kernel
theorem dL_law_1326 : decode cL_law 1326 = .ok (.aload_n 3, 1) := by decide +kernel
theorem dL_law_1327 : decode cL_law 1327 = .ok (.iconst 0, 1) := by decide +kernel
theorem dL_law_1328 : decode cL_law 1328 = .ok (.laload, 1) := by decide +kernel
theorem dL_law_1329 : decode cL_law 1329 = .ok (.iload 6, 2) := by decide +kernel
theorem dL_law_1331 : decode cL_law 1331 = .ok (.i2l, 1) := by decide +kernel
theorem dL_law_1332 : decode cL_law 1332 = .ok (.lcmp, 1) := by decide +kernel
theorem dL_law_1333 : decode cL_law 1333 = .ok (.ifCond .eq 5, 3) := by decide +kernel
theorem dL_law_1336 : decode cL_law 1336 = .ok (.iconst 0, 1) := by decide +kernel
theorem dL_law_1337 : decode cL_law 1337 = .ok (.ireturn, 1) := by decide +kernel
theorem dL_law_1338 : decode cL_law 1338 = .ok (.goto 782, 3) := by decide +kernel
theorem dL_law_1341 : decode cL_law 1341 = .ok (.aload_n 1, 1) := by decide +kernel
theorem dL_law_1342 : decode cL_law 1342 = .ok (.aload_n 0, 1) := by decide +kernel
theorem dL_law_1343 : decode cL_law 1343 = .ok (.iload 4, 2) := by decide +kernel
theorem dL_law_1345 : decode cL_law 1345 = .ok (.iconst 1, 1) := by decide +kernel
theorem dL_law_1346 : decode cL_law 1346 = .ok (.iadd, 1) := by decide +kernel
theorem dL_law_1347 : decode cL_law 1347 = .ok (.iaload, 1) := by decide +kernel
theorem dL_law_1348 : decode cL_law 1348 = .ok (.aload_n 3, 1) := by decide +kernel
theorem dL_law_1349 : decode cL_law 1349 = .ok (.invokestatic 187, 3) := by decide +kernel
theorem dL_law_1352 : decode cL_law 1352 = .ok (.istore 5, 2) := by decide +kernel
theorem dL_law_1354 : decode cL_law 1354 = .ok (.aload_n 2, 1) := by decide +kernel
theorem dL_law_1355 : decode cL_law 1355 = .ok (.aload_n 0, 1) := by decide +kernel
theorem dL_law_1356 : decode cL_law 1356 = .ok (.iload 4, 2) := by decide +kernel
theorem dL_law_1358 : decode cL_law 1358 = .ok (.iconst 1, 1) := by decide +kernel
theorem dL_law_1359 : decode cL_law 1359 = .ok (.iadd, 1) := by decide +kernel
theorem dL_law_1360 : decode cL_law 1360 = .ok (.iaload, 1) := by decide +kernel
theorem dL_law_1361 : decode cL_law 1361 = .ok (.invokevirtual 189, 3) := by decide +kernel
theorem dL_law_1364 : decode cL_law 1364 = .ok (.istore 6, 2) := by decide +kernel
theorem dL_law_1366 : decode cL_law 1366 = .ok (.aload_n 2, 1) := by decide +kernel
theorem dL_law_1367 : decode cL_law 1367 = .ok (.invokevirtual 116, 3) := by decide +kernel
theorem dL_law_1370 : decode cL_law 1370 = .ok (.iload 5, 2) := by decide +kernel
theorem dL_law_1372 : decode cL_law 1372 = .ok (.if_icmp .eq 5, 3) := by decide +kernel
theorem dL_law_1375 : decode cL_law 1375 = .ok (.iconst 0, 1) := by decide +kernel
theorem dL_law_1376 : decode cL_law 1376 = .ok (.ireturn, 1) := by decide +kernel
theorem dL_law_1377 : decode cL_law 1377 = .ok (.iload 5, 2) := by decide +kernel
theorem dL_law_1379 : decode cL_law 1379 = .ok (.ifCond .ne 15, 3) := by decide +kernel
theorem dL_law_1382 : decode cL_law 1382 = .ok (.aload_n 3, 1) := by decide +kernel
theorem dL_law_1383 : decode cL_law 1383 = .ok (.iconst 0, 1) := by decide +kernel
theorem dL_law_1384 : decode cL_law 1384 = .ok (.laload, 1) := by decide +kernel
theorem dL_law_1385 : decode cL_law 1385 = .ok (.iload 6, 2) := by decide +kernel
theorem dL_law_1387 : decode cL_law 1387 = .ok (.i2l, 1) := by decide +kernel
theorem dL_law_1388 : decode cL_law 1388 = .ok (.lcmp, 1) := by decide +kernel
theorem dL_law_1389 : decode cL_law 1389 = .ok (.ifCond .eq 5, 3) := by decide +kernel
theorem dL_law_1392 : decode cL_law 1392 = .ok (.iconst 0, 1) := by decide +kernel
theorem dL_law_1393 : decode cL_law 1393 = .ok (.ireturn, 1) := by decide +kernel
theorem dL_law_1394 : decode cL_law 1394 = .ok (.goto 726, 3) := by decide +kernel
theorem dL_law_1397 : decode cL_law 1397 = .ok (.aload_n 1, 1) := by decide +kernel
theorem dL_law_1398 : decode cL_law 1398 = .ok (.aload_n 0, 1) := by decide +kernel
theorem dL_law_1399 : decode cL_law 1399 = .ok (.iload 4, 2) := by decide +kernel
theorem dL_law_1401 : decode cL_law 1401 = .ok (.iconst 1, 1) := by decide +kernel
theorem dL_law_1402 : decode cL_law 1402 = .ok (.iadd, 1) := by decide +kernel
theorem dL_law_1403 : decode cL_law 1403 = .ok (.iaload, 1) := by decide +kernel
theorem dL_law_1404 : decode cL_law 1404 = .ok (.aload_n 0, 1) := by decide +kernel
theorem dL_law_1405 : decode cL_law 1405 = .ok (.iload 4, 2) := by decide +kernel
theorem dL_law_1407 : decode cL_law 1407 = .ok (.iconst 2, 1) := by decide +kernel
theorem dL_law_1408 : decode cL_law 1408 = .ok (.iadd, 1) := by decide +kernel
theorem dL_law_1409 : decode cL_law 1409 = .ok (.iaload, 1) := by decide +kernel
theorem dL_law_1410 : decode cL_law 1410 = .ok (.aload_n 3, 1) := by decide +kernel
theorem dL_law_1411 : decode cL_law 1411 = .ok (.invokestatic 190, 3) := by decide +kernel
theorem dL_law_1414 : decode cL_law 1414 = .ok (.istore 5, 2) := by decide +kernel
theorem dL_law_1416 : decode cL_law 1416 = .ok (.aload_n 2, 1) := by decide +kernel
theorem dL_law_1417 : decode cL_law 1417 = .ok (.aload_n 0, 1) := by decide +kernel
theorem dL_law_1418 : decode cL_law 1418 = .ok (.iload 4, 2) := by decide +kernel
theorem dL_law_1420 : decode cL_law 1420 = .ok (.iconst 1, 1) := by decide +kernel
theorem dL_law_1421 : decode cL_law 1421 = .ok (.iadd, 1) := by decide +kernel
theorem dL_law_1422 : decode cL_law 1422 = .ok (.iaload, 1) := by decide +kernel
theorem dL_law_1423 : decode cL_law 1423 = .ok (.aload_n 0, 1) := by decide +kernel
theorem dL_law_1424 : decode cL_law 1424 = .ok (.iload 4, 2) := by decide +kernel
theorem dL_law_1426 : decode cL_law 1426 = .ok (.iconst 2, 1) := by decide +kernel
theorem dL_law_1427 : decode cL_law 1427 = .ok (.iadd, 1) := by decide +kernel
theorem dL_law_1428 : decode cL_law 1428 = .ok (.iaload, 1) := by decide +kernel
theorem dL_law_1429 : decode cL_law 1429 = .ok (.invokevirtual 192, 3) := by decide +kernel
theorem dL_law_1432 : decode cL_law 1432 = .ok (.istore 6, 2) := by decide +kernel
theorem dL_law_1434 : decode cL_law 1434 = .ok (.aload_n 2, 1) := by decide +kernel
theorem dL_law_1435 : decode cL_law 1435 = .ok (.invokevirtual 116, 3) := by decide +kernel
theorem dL_law_1438 : decode cL_law 1438 = .ok (.iload 5, 2) := by decide +kernel
theorem dL_law_1440 : decode cL_law 1440 = .ok (.if_icmp .eq 5, 3) := by decide +kernel
theorem dL_law_1443 : decode cL_law 1443 = .ok (.iconst 0, 1) := by decide +kernel
theorem dL_law_1444 : decode cL_law 1444 = .ok (.ireturn, 1) := by decide +kernel
theorem dL_law_1445 : decode cL_law 1445 = .ok (.iload 5, 2) := by decide +kernel
theorem dL_law_1447 : decode cL_law 1447 = .ok (.ifCond .ne 15, 3) := by decide +kernel
theorem dL_law_1450 : decode cL_law 1450 = .ok (.aload_n 3, 1) := by decide +kernel
theorem dL_law_1451 : decode cL_law 1451 = .ok (.iconst 0, 1) := by decide +kernel
theorem dL_law_1452 : decode cL_law 1452 = .ok (.laload, 1) := by decide +kernel
theorem dL_law_1453 : decode cL_law 1453 = .ok (.iload 6, 2) := by decide +kernel
theorem dL_law_1455 : decode cL_law 1455 = .ok (.i2l, 1) := by decide +kernel
theorem dL_law_1456 : decode cL_law 1456 = .ok (.lcmp, 1) := by decide +kernel
theorem dL_law_1457 : decode cL_law 1457 = .ok (.ifCond .eq 5, 3) := by decide +kernel
theorem dL_law_1460 : decode cL_law 1460 = .ok (.iconst 0, 1) := by decide +kernel
theorem dL_law_1461 : decode cL_law 1461 = .ok (.ireturn, 1) := by decide +kernel
theorem dL_law_1462 : decode cL_law 1462 = .ok (.goto 658, 3) := by decide +kernel
theorem dL_law_1465 : decode cL_law 1465 = .ok (.aload_n 1, 1) := by decide +kernel
theorem dL_law_1466 : decode cL_law 1466 = .ok (.aload_n 0, 1) := by decide +kernel
theorem dL_law_1467 : decode cL_law 1467 = .ok (.iload 4, 2) := by decide +kernel
theorem dL_law_1469 : decode cL_law 1469 = .ok (.iconst 1, 1) := by decide +kernel
theorem dL_law_1470 : decode cL_law 1470 = .ok (.iadd, 1) := by decide +kernel
theorem dL_law_1471 : decode cL_law 1471 = .ok (.iaload, 1) := by decide +kernel
theorem dL_law_1472 : decode cL_law 1472 = .ok (.aload_n 0, 1) := by decide +kernel
theorem dL_law_1473 : decode cL_law 1473 = .ok (.iload 4, 2) := by decide +kernel
theorem dL_law_1475 : decode cL_law 1475 = .ok (.iconst 2, 1) := by decide +kernel
theorem dL_law_1476 : decode cL_law 1476 = .ok (.iadd, 1) := by decide +kernel
theorem dL_law_1477 : decode cL_law 1477 = .ok (.iaload, 1) := by decide +kernel
theorem dL_law_1478 : decode cL_law 1478 = .ok (.ifCond .eq 7, 3) := by decide +kernel
theorem dL_law_1481 : decode cL_law 1481 = .ok (.iconst 1, 1) := by decide +kernel
theorem dL_law_1482 : decode cL_law 1482 = .ok (.goto 4, 3) := by decide +kernel
theorem dL_law_1485 : decode cL_law 1485 = .ok (.iconst 0, 1) := by decide +kernel
theorem dL_law_1486 : decode cL_law 1486 = .ok (.aload_n 3, 1) := by decide +kernel
theorem dL_law_1487 : decode cL_law 1487 = .ok (.invokestatic 193, 3) := by decide +kernel
theorem dL_law_1490 : decode cL_law 1490 = .ok (.istore 5, 2) := by decide +kernel
theorem dL_law_1492 : decode cL_law 1492 = .ok (.aload_n 2, 1) := by decide +kernel
theorem dL_law_1493 : decode cL_law 1493 = .ok (.aload_n 0, 1) := by decide +kernel
theorem dL_law_1494 : decode cL_law 1494 = .ok (.iload 4, 2) := by decide +kernel
theorem dL_law_1496 : decode cL_law 1496 = .ok (.iconst 1, 1) := by decide +kernel
theorem dL_law_1497 : decode cL_law 1497 = .ok (.iadd, 1) := by decide +kernel
theorem dL_law_1498 : decode cL_law 1498 = .ok (.iaload, 1) := by decide +kernel
theorem dL_law_1499 : decode cL_law 1499 = .ok (.aload_n 0, 1) := by decide +kernel
theorem dL_law_1500 : decode cL_law 1500 = .ok (.iload 4, 2) := by decide +kernel
theorem dL_law_1502 : decode cL_law 1502 = .ok (.iconst 2, 1) := by decide +kernel
theorem dL_law_1503 : decode cL_law 1503 = .ok (.iadd, 1) := by decide +kernel
theorem dL_law_1504 : decode cL_law 1504 = .ok (.iaload, 1) := by decide +kernel
theorem dL_law_1505 : decode cL_law 1505 = .ok (.ifCond .eq 7, 3) := by decide +kernel
theorem dL_law_1508 : decode cL_law 1508 = .ok (.iconst 1, 1) := by decide +kernel
theorem dL_law_1509 : decode cL_law 1509 = .ok (.goto 4, 3) := by decide +kernel
theorem dL_law_1512 : decode cL_law 1512 = .ok (.iconst 0, 1) := by decide +kernel
theorem dL_law_1513 : decode cL_law 1513 = .ok (.invokevirtual 195, 3) := by decide +kernel
theorem dL_law_1516 : decode cL_law 1516 = .ok (.istore 6, 2) := by decide +kernel
theorem dL_law_1518 : decode cL_law 1518 = .ok (.aload_n 2, 1) := by decide +kernel
theorem dL_law_1519 : decode cL_law 1519 = .ok (.invokevirtual 116, 3) := by decide +kernel
theorem dL_law_1522 : decode cL_law 1522 = .ok (.iload 5, 2) := by decide +kernel
theorem dL_law_1524 : decode cL_law 1524 = .ok (.if_icmp .eq 5, 3) := by decide +kernel
theorem dL_law_1527 : decode cL_law 1527 = .ok (.iconst 0, 1) := by decide +kernel
theorem dL_law_1528 : decode cL_law 1528 = .ok (.ireturn, 1) := by decide +kernel
theorem dL_law_1529 : decode cL_law 1529 = .ok (.iload 5, 2) := by decide +kernel
theorem dL_law_1531 : decode cL_law 1531 = .ok (.ifCond .ne 15, 3) := by decide +kernel
theorem dL_law_1534 : decode cL_law 1534 = .ok (.aload_n 3, 1) := by decide +kernel
theorem dL_law_1535 : decode cL_law 1535 = .ok (.iconst 0, 1) := by decide +kernel
theorem dL_law_1536 : decode cL_law 1536 = .ok (.laload, 1) := by decide +kernel
theorem dL_law_1537 : decode cL_law 1537 = .ok (.iload 6, 2) := by decide +kernel
theorem dL_law_1539 : decode cL_law 1539 = .ok (.i2l, 1) := by decide +kernel
theorem dL_law_1540 : decode cL_law 1540 = .ok (.lcmp, 1) := by decide +kernel
theorem dL_law_1541 : decode cL_law 1541 = .ok (.ifCond .eq 5, 3) := by decide +kernel
theorem dL_law_1544 : decode cL_law 1544 = .ok (.iconst 0, 1) := by decide +kernel
theorem dL_law_1545 : decode cL_law 1545 = .ok (.ireturn, 1) := by decide +kernel
theorem dL_law_1546 : decode cL_law 1546 = .ok (.goto 574, 3) := by decide +kernel
theorem dL_law_1549 : decode cL_law 1549 = .ok (.aload_n 1, 1) := by decide +kernel
theorem dL_law_1550 : decode cL_law 1550 = .ok (.aload_n 0, 1) := by decide +kernel
theorem dL_law_1551 : decode cL_law 1551 = .ok (.iload 4, 2) := by decide +kernel
theorem dL_law_1553 : decode cL_law 1553 = .ok (.iconst 1, 1) := by decide +kernel
theorem dL_law_1554 : decode cL_law 1554 = .ok (.iadd, 1) := by decide +kernel
theorem dL_law_1555 : decode cL_law 1555 = .ok (.iaload, 1) := by decide +kernel
theorem dL_law_1556 : decode cL_law 1556 = .ok (.aload_n 3, 1) := by decide +kernel
theorem dL_law_1557 : decode cL_law 1557 = .ok (.invokestatic 196, 3) := by decide +kernel
theorem dL_law_1560 : decode cL_law 1560 = .ok (.istore 5, 2) := by decide +kernel
theorem dL_law_1562 : decode cL_law 1562 = .ok (.aload_n 2, 1) := by decide +kernel
theorem dL_law_1563 : decode cL_law 1563 = .ok (.aload_n 0, 1) := by decide +kernel
theorem dL_law_1564 : decode cL_law 1564 = .ok (.iload 4, 2) := by decide +kernel
theorem dL_law_1566 : decode cL_law 1566 = .ok (.iconst 1, 1) := by decide +kernel
theorem dL_law_1567 : decode cL_law 1567 = .ok (.iadd, 1) := by decide +kernel
theorem dL_law_1568 : decode cL_law 1568 = .ok (.iaload, 1) := by decide +kernel
theorem dL_law_1569 : decode cL_law 1569 = .ok (.invokevirtual 198, 3) := by decide +kernel
theorem dL_law_1572 : decode cL_law 1572 = .ok (.istore 6, 2) := by decide +kernel
theorem dL_law_1574 : decode cL_law 1574 = .ok (.aload_n 2, 1) := by decide +kernel
theorem dL_law_1575 : decode cL_law 1575 = .ok (.invokevirtual 116, 3) := by decide +kernel
theorem dL_law_1578 : decode cL_law 1578 = .ok (.iload 5, 2) := by decide +kernel
theorem dL_law_1580 : decode cL_law 1580 = .ok (.if_icmp .eq 5, 3) := by decide +kernel
theorem dL_law_1583 : decode cL_law 1583 = .ok (.iconst 0, 1) := by decide +kernel
theorem dL_law_1584 : decode cL_law 1584 = .ok (.ireturn, 1) := by decide +kernel
theorem dL_law_1585 : decode cL_law 1585 = .ok (.iload 5, 2) := by decide +kernel
theorem dL_law_1587 : decode cL_law 1587 = .ok (.ifCond .ne 15, 3) := by decide +kernel
theorem dL_law_1590 : decode cL_law 1590 = .ok (.aload_n 3, 1) := by decide +kernel
theorem dL_law_1591 : decode cL_law 1591 = .ok (.iconst 0, 1) := by decide +kernel
theorem dL_law_1592 : decode cL_law 1592 = .ok (.laload, 1) := by decide +kernel
theorem dL_law_1593 : decode cL_law 1593 = .ok (.iload 6, 2) := by decide +kernel
theorem dL_law_1595 : decode cL_law 1595 = .ok (.i2l, 1) := by decide +kernel
theorem dL_law_1596 : decode cL_law 1596 = .ok (.lcmp, 1) := by decide +kernel
theorem dL_law_1597 : decode cL_law 1597 = .ok (.ifCond .eq 5, 3) := by decide +kernel
theorem dL_law_1600 : decode cL_law 1600 = .ok (.iconst 0, 1) := by decide +kernel
theorem dL_law_1601 : decode cL_law 1601 = .ok (.ireturn, 1) := by decide +kernel
theorem dL_law_1602 : decode cL_law 1602 = .ok (.goto 518, 3) := by decide +kernel
theorem dL_law_1605 : decode cL_law 1605 = .ok (.aload_n 1, 1) := by decide +kernel
theorem dL_law_1606 : decode cL_law 1606 = .ok (.aload_n 0, 1) := by decide +kernel
theorem dL_law_1607 : decode cL_law 1607 = .ok (.iload 4, 2) := by decide +kernel
theorem dL_law_1609 : decode cL_law 1609 = .ok (.iconst 1, 1) := by decide +kernel
theorem dL_law_1610 : decode cL_law 1610 = .ok (.iadd, 1) := by decide +kernel
theorem dL_law_1611 : decode cL_law 1611 = .ok (.iaload, 1) := by decide +kernel
theorem dL_law_1612 : decode cL_law 1612 = .ok (.aload_n 0, 1) := by decide +kernel
theorem dL_law_1613 : decode cL_law 1613 = .ok (.iload 4, 2) := by decide +kernel
theorem dL_law_1615 : decode cL_law 1615 = .ok (.iconst 2, 1) := by decide +kernel
theorem dL_law_1616 : decode cL_law 1616 = .ok (.iadd, 1) := by decide +kernel
theorem dL_law_1617 : decode cL_law 1617 = .ok (.iaload, 1) := by decide +kernel
theorem dL_law_1618 : decode cL_law 1618 = .ok (.aload_n 3, 1) := by decide +kernel
theorem dL_law_1619 : decode cL_law 1619 = .ok (.invokestatic 199, 3) := by decide +kernel
theorem dL_law_1622 : decode cL_law 1622 = .ok (.istore 5, 2) := by decide +kernel
theorem dL_law_1624 : decode cL_law 1624 = .ok (.aload_n 2, 1) := by decide +kernel
theorem dL_law_1625 : decode cL_law 1625 = .ok (.aload_n 0, 1) := by decide +kernel
theorem dL_law_1626 : decode cL_law 1626 = .ok (.iload 4, 2) := by decide +kernel
theorem dL_law_1628 : decode cL_law 1628 = .ok (.iconst 1, 1) := by decide +kernel
theorem dL_law_1629 : decode cL_law 1629 = .ok (.iadd, 1) := by decide +kernel
theorem dL_law_1630 : decode cL_law 1630 = .ok (.iaload, 1) := by decide +kernel
theorem dL_law_1631 : decode cL_law 1631 = .ok (.aload_n 0, 1) := by decide +kernel
theorem dL_law_1632 : decode cL_law 1632 = .ok (.iload 4, 2) := by decide +kernel
theorem dL_law_1634 : decode cL_law 1634 = .ok (.iconst 2, 1) := by decide +kernel
theorem dL_law_1635 : decode cL_law 1635 = .ok (.iadd, 1) := by decide +kernel
theorem dL_law_1636 : decode cL_law 1636 = .ok (.iaload, 1) := by decide +kernel
theorem dL_law_1637 : decode cL_law 1637 = .ok (.invokevirtual 201, 3) := by decide +kernel
theorem dL_law_1640 : decode cL_law 1640 = .ok (.istore 6, 2) := by decide +kernel
theorem dL_law_1642 : decode cL_law 1642 = .ok (.aload_n 2, 1) := by decide +kernel
theorem dL_law_1643 : decode cL_law 1643 = .ok (.invokevirtual 116, 3) := by decide +kernel
theorem dL_law_1646 : decode cL_law 1646 = .ok (.iload 5, 2) := by decide +kernel
theorem dL_law_1648 : decode cL_law 1648 = .ok (.if_icmp .eq 5, 3) := by decide +kernel
theorem dL_law_1651 : decode cL_law 1651 = .ok (.iconst 0, 1) := by decide +kernel
theorem dL_law_1652 : decode cL_law 1652 = .ok (.ireturn, 1) := by decide +kernel
theorem dL_law_1653 : decode cL_law 1653 = .ok (.iload 5, 2) := by decide +kernel
theorem dL_law_1655 : decode cL_law 1655 = .ok (.ifCond .ne 15, 3) := by decide +kernel
theorem dL_law_1658 : decode cL_law 1658 = .ok (.aload_n 3, 1) := by decide +kernel
theorem dL_law_1659 : decode cL_law 1659 = .ok (.iconst 0, 1) := by decide +kernel
theorem dL_law_1660 : decode cL_law 1660 = .ok (.laload, 1) := by decide +kernel
theorem dL_law_1661 : decode cL_law 1661 = .ok (.iload 6, 2) := by decide +kernel
theorem dL_law_1663 : decode cL_law 1663 = .ok (.i2l, 1) := by decide +kernel
theorem dL_law_1664 : decode cL_law 1664 = .ok (.lcmp, 1) := by decide +kernel
theorem dL_law_1665 : decode cL_law 1665 = .ok (.ifCond .eq 5, 3) := by decide +kernel
theorem dL_law_1668 : decode cL_law 1668 = .ok (.iconst 0, 1) := by decide +kernel
theorem dL_law_1669 : decode cL_law 1669 = .ok (.ireturn, 1) := by decide +kernel
theorem dL_law_1670 : decode cL_law 1670 = .ok (.goto 450, 3) := by decide +kernel
theorem dL_law_1673 : decode cL_law 1673 = .ok (.aload_n 1, 1) := by decide +kernel
theorem dL_law_1674 : decode cL_law 1674 = .ok (.aload_n 0, 1) := by decide +kernel
theorem dL_law_1675 : decode cL_law 1675 = .ok (.iload 4, 2) := by decide +kernel
theorem dL_law_1677 : decode cL_law 1677 = .ok (.iconst 1, 1) := by decide +kernel
theorem dL_law_1678 : decode cL_law 1678 = .ok (.iadd, 1) := by decide +kernel
theorem dL_law_1679 : decode cL_law 1679 = .ok (.iaload, 1) := by decide +kernel
theorem dL_law_1680 : decode cL_law 1680 = .ok (.aload_n 0, 1) := by decide +kernel
theorem dL_law_1681 : decode cL_law 1681 = .ok (.iload 4, 2) := by decide +kernel
theorem dL_law_1683 : decode cL_law 1683 = .ok (.iconst 2, 1) := by decide +kernel
theorem dL_law_1684 : decode cL_law 1684 = .ok (.iadd, 1) := by decide +kernel
theorem dL_law_1685 : decode cL_law 1685 = .ok (.iaload, 1) := by decide +kernel
theorem dL_law_1686 : decode cL_law 1686 = .ok (.aload_n 0, 1) := by decide +kernel
theorem dL_law_1687 : decode cL_law 1687 = .ok (.iload 4, 2) := by decide +kernel
theorem dL_law_1689 : decode cL_law 1689 = .ok (.iconst 3, 1) := by decide +kernel
theorem dL_law_1690 : decode cL_law 1690 = .ok (.iadd, 1) := by decide +kernel
theorem dL_law_1691 : decode cL_law 1691 = .ok (.iaload, 1) := by decide +kernel
theorem dL_law_1692 : decode cL_law 1692 = .ok (.aload_n 3, 1) := by decide +kernel
theorem dL_law_1693 : decode cL_law 1693 = .ok (.invokestatic 202, 3) := by decide +kernel
theorem dL_law_1696 : decode cL_law 1696 = .ok (.istore 5, 2) := by decide +kernel
theorem dL_law_1698 : decode cL_law 1698 = .ok (.aload_n 2, 1) := by decide +kernel
theorem dL_law_1699 : decode cL_law 1699 = .ok (.aload_n 0, 1) := by decide +kernel
theorem dL_law_1700 : decode cL_law 1700 = .ok (.iload 4, 2) := by decide +kernel
theorem dL_law_1702 : decode cL_law 1702 = .ok (.iconst 1, 1) := by decide +kernel
theorem dL_law_1703 : decode cL_law 1703 = .ok (.iadd, 1) := by decide +kernel
theorem dL_law_1704 : decode cL_law 1704 = .ok (.iaload, 1) := by decide +kernel
theorem dL_law_1705 : decode cL_law 1705 = .ok (.aload_n 0, 1) := by decide +kernel
theorem dL_law_1706 : decode cL_law 1706 = .ok (.iload 4, 2) := by decide +kernel
theorem dL_law_1708 : decode cL_law 1708 = .ok (.iconst 2, 1) := by decide +kernel
theorem dL_law_1709 : decode cL_law 1709 = .ok (.iadd, 1) := by decide +kernel
theorem dL_law_1710 : decode cL_law 1710 = .ok (.iaload, 1) := by decide +kernel
theorem dL_law_1711 : decode cL_law 1711 = .ok (.aload_n 0, 1) := by decide +kernel
theorem dL_law_1712 : decode cL_law 1712 = .ok (.iload 4, 2) := by decide +kernel
theorem dL_law_1714 : decode cL_law 1714 = .ok (.iconst 3, 1) := by decide +kernel
theorem dL_law_1715 : decode cL_law 1715 = .ok (.iadd, 1) := by decide +kernel
theorem dL_law_1716 : decode cL_law 1716 = .ok (.iaload, 1) := by decide +kernel
theorem dL_law_1717 : decode cL_law 1717 = .ok (.invokevirtual 205, 3) := by decide +kernel
theorem dL_law_1720 : decode cL_law 1720 = .ok (.istore 6, 2) := by decide +kernel
theorem dL_law_1722 : decode cL_law 1722 = .ok (.aload_n 2, 1) := by decide +kernel
theorem dL_law_1723 : decode cL_law 1723 = .ok (.invokevirtual 116, 3) := by decide +kernel
theorem dL_law_1726 : decode cL_law 1726 = .ok (.iload 5, 2) := by decide +kernel
theorem dL_law_1728 : decode cL_law 1728 = .ok (.if_icmp .eq 5, 3) := by decide +kernel
theorem dL_law_1731 : decode cL_law 1731 = .ok (.iconst 0, 1) := by decide +kernel
theorem dL_law_1732 : decode cL_law 1732 = .ok (.ireturn, 1) := by decide +kernel
theorem dL_law_1733 : decode cL_law 1733 = .ok (.iload 5, 2) := by decide +kernel
theorem dL_law_1735 : decode cL_law 1735 = .ok (.ifCond .ne 15, 3) := by decide +kernel
theorem dL_law_1738 : decode cL_law 1738 = .ok (.aload_n 3, 1) := by decide +kernel
theorem dL_law_1739 : decode cL_law 1739 = .ok (.iconst 0, 1) := by decide +kernel
theorem dL_law_1740 : decode cL_law 1740 = .ok (.laload, 1) := by decide +kernel
theorem dL_law_1741 : decode cL_law 1741 = .ok (.iload 6, 2) := by decide +kernel
theorem dL_law_1743 : decode cL_law 1743 = .ok (.i2l, 1) := by decide +kernel
theorem dL_law_1744 : decode cL_law 1744 = .ok (.lcmp, 1) := by decide +kernel
theorem dL_law_1745 : decode cL_law 1745 = .ok (.ifCond .eq 5, 3) := by decide +kernel
theorem dL_law_1748 : decode cL_law 1748 = .ok (.iconst 0, 1) := by decide +kernel
theorem dL_law_1749 : decode cL_law 1749 = .ok (.ireturn, 1) := by decide +kernel
theorem dL_law_1750 : decode cL_law 1750 = .ok (.goto 370, 3) := by decide +kernel
theorem dL_law_1753 : decode cL_law 1753 = .ok (.aload_n 1, 1) := by decide +kernel
theorem dL_law_1754 : decode cL_law 1754 = .ok (.aload_n 0, 1) := by decide +kernel
theorem dL_law_1755 : decode cL_law 1755 = .ok (.iload 4, 2) := by decide +kernel
theorem dL_law_1757 : decode cL_law 1757 = .ok (.iconst 1, 1) := by decide +kernel
theorem dL_law_1758 : decode cL_law 1758 = .ok (.iadd, 1) := by decide +kernel
theorem dL_law_1759 : decode cL_law 1759 = .ok (.iaload, 1) := by decide +kernel
theorem dL_law_1760 : decode cL_law 1760 = .ok (.aload_n 3, 1) := by decide +kernel
theorem dL_law_1761 : decode cL_law 1761 = .ok (.invokestatic 206, 3) := by decide +kernel
theorem dL_law_1764 : decode cL_law 1764 = .ok (.istore 5, 2) := by decide +kernel
theorem dL_law_1766 : decode cL_law 1766 = .ok (.aload_n 2, 1) := by decide +kernel
theorem dL_law_1767 : decode cL_law 1767 = .ok (.aload_n 0, 1) := by decide +kernel
theorem dL_law_1768 : decode cL_law 1768 = .ok (.iload 4, 2) := by decide +kernel
theorem dL_law_1770 : decode cL_law 1770 = .ok (.iconst 1, 1) := by decide +kernel
theorem dL_law_1771 : decode cL_law 1771 = .ok (.iadd, 1) := by decide +kernel
theorem dL_law_1772 : decode cL_law 1772 = .ok (.iaload, 1) := by decide +kernel
theorem dL_law_1773 : decode cL_law 1773 = .ok (.invokevirtual 208, 3) := by decide +kernel
theorem dL_law_1776 : decode cL_law 1776 = .ok (.istore 6, 2) := by decide +kernel
theorem dL_law_1778 : decode cL_law 1778 = .ok (.aload_n 2, 1) := by decide +kernel
theorem dL_law_1779 : decode cL_law 1779 = .ok (.invokevirtual 116, 3) := by decide +kernel
theorem dL_law_1782 : decode cL_law 1782 = .ok (.iload 5, 2) := by decide +kernel
theorem dL_law_1784 : decode cL_law 1784 = .ok (.if_icmp .eq 5, 3) := by decide +kernel
theorem dL_law_1787 : decode cL_law 1787 = .ok (.iconst 0, 1) := by decide +kernel
theorem dL_law_1788 : decode cL_law 1788 = .ok (.ireturn, 1) := by decide +kernel
theorem dL_law_1789 : decode cL_law 1789 = .ok (.iload 5, 2) := by decide +kernel
theorem dL_law_1791 : decode cL_law 1791 = .ok (.ifCond .ne 15, 3) := by decide +kernel
theorem dL_law_1794 : decode cL_law 1794 = .ok (.aload_n 3, 1) := by decide +kernel
theorem dL_law_1795 : decode cL_law 1795 = .ok (.iconst 0, 1) := by decide +kernel
theorem dL_law_1796 : decode cL_law 1796 = .ok (.laload, 1) := by decide +kernel
theorem dL_law_1797 : decode cL_law 1797 = .ok (.iload 6, 2) := by decide +kernel
theorem dL_law_1799 : decode cL_law 1799 = .ok (.i2l, 1) := by decide +kernel
theorem dL_law_1800 : decode cL_law 1800 = .ok (.lcmp, 1) := by decide +kernel
theorem dL_law_1801 : decode cL_law 1801 = .ok (.ifCond .eq 5, 3) := by decide +kernel
theorem dL_law_1804 : decode cL_law 1804 = .ok (.iconst 0, 1) := by decide +kernel
theorem dL_law_1805 : decode cL_law 1805 = .ok (.ireturn, 1) := by decide +kernel
theorem dL_law_1806 : decode cL_law 1806 = .ok (.goto 314, 3) := by decide +kernel
theorem dL_law_1809 : decode cL_law 1809 = .ok (.aload_n 1, 1) := by decide +kernel
theorem dL_law_1810 : decode cL_law 1810 = .ok (.aload_n 0, 1) := by decide +kernel
theorem dL_law_1811 : decode cL_law 1811 = .ok (.iload 4, 2) := by decide +kernel
theorem dL_law_1813 : decode cL_law 1813 = .ok (.iconst 1, 1) := by decide +kernel
theorem dL_law_1814 : decode cL_law 1814 = .ok (.iadd, 1) := by decide +kernel
theorem dL_law_1815 : decode cL_law 1815 = .ok (.iaload, 1) := by decide +kernel
theorem dL_law_1816 : decode cL_law 1816 = .ok (.aload_n 3, 1) := by decide +kernel
theorem dL_law_1817 : decode cL_law 1817 = .ok (.invokestatic 209, 3) := by decide +kernel
theorem dL_law_1820 : decode cL_law 1820 = .ok (.istore 5, 2) := by decide +kernel
theorem dL_law_1822 : decode cL_law 1822 = .ok (.aload_n 2, 1) := by decide +kernel
theorem dL_law_1823 : decode cL_law 1823 = .ok (.aload_n 0, 1) := by decide +kernel
theorem dL_law_1824 : decode cL_law 1824 = .ok (.iload 4, 2) := by decide +kernel
theorem dL_law_1826 : decode cL_law 1826 = .ok (.iconst 1, 1) := by decide +kernel
theorem dL_law_1827 : decode cL_law 1827 = .ok (.iadd, 1) := by decide +kernel
theorem dL_law_1828 : decode cL_law 1828 = .ok (.iaload, 1) := by decide +kernel
theorem dL_law_1829 : decode cL_law 1829 = .ok (.invokevirtual 211, 3) := by decide +kernel
theorem dL_law_1832 : decode cL_law 1832 = .ok (.istore 6, 2) := by decide +kernel
theorem dL_law_1834 : decode cL_law 1834 = .ok (.aload_n 2, 1) := by decide +kernel
theorem dL_law_1835 : decode cL_law 1835 = .ok (.invokevirtual 116, 3) := by decide +kernel
theorem dL_law_1838 : decode cL_law 1838 = .ok (.iload 5, 2) := by decide +kernel
theorem dL_law_1840 : decode cL_law 1840 = .ok (.if_icmp .eq 5, 3) := by decide +kernel
theorem dL_law_1843 : decode cL_law 1843 = .ok (.iconst 0, 1) := by decide +kernel
theorem dL_law_1844 : decode cL_law 1844 = .ok (.ireturn, 1) := by decide +kernel
theorem dL_law_1845 : decode cL_law 1845 = .ok (.iload 5, 2) := by decide +kernel
theorem dL_law_1847 : decode cL_law 1847 = .ok (.ifCond .ne 15, 3) := by decide +kernel
theorem dL_law_1850 : decode cL_law 1850 = .ok (.aload_n 3, 1) := by decide +kernel
theorem dL_law_1851 : decode cL_law 1851 = .ok (.iconst 0, 1) := by decide +kernel
theorem dL_law_1852 : decode cL_law 1852 = .ok (.laload, 1) := by decide +kernel
theorem dL_law_1853 : decode cL_law 1853 = .ok (.iload 6, 2) := by decide +kernel
theorem dL_law_1855 : decode cL_law 1855 = .ok (.i2l, 1) := by decide +kernel
theorem dL_law_1856 : decode cL_law 1856 = .ok (.lcmp, 1) := by decide +kernel
theorem dL_law_1857 : decode cL_law 1857 = .ok (.ifCond .eq 5, 3) := by decide +kernel
theorem dL_law_1860 : decode cL_law 1860 = .ok (.iconst 0, 1) := by decide +kernel
theorem dL_law_1861 : decode cL_law 1861 = .ok (.ireturn, 1) := by decide +kernel
theorem dL_law_1862 : decode cL_law 1862 = .ok (.goto 258, 3) := by decide +kernel
theorem dL_law_1865 : decode cL_law 1865 = .ok (.aload_n 1, 1) := by decide +kernel
theorem dL_law_1866 : decode cL_law 1866 = .ok (.aload_n 0, 1) := by decide +kernel
theorem dL_law_1867 : decode cL_law 1867 = .ok (.iload 4, 2) := by decide +kernel
theorem dL_law_1869 : decode cL_law 1869 = .ok (.iconst 1, 1) := by decide +kernel
theorem dL_law_1870 : decode cL_law 1870 = .ok (.iadd, 1) := by decide +kernel
theorem dL_law_1871 : decode cL_law 1871 = .ok (.iaload, 1) := by decide +kernel
theorem dL_law_1872 : decode cL_law 1872 = .ok (.aload_n 3, 1) := by decide +kernel
theorem dL_law_1873 : decode cL_law 1873 = .ok (.invokestatic 212, 3) := by decide +kernel
theorem dL_law_1876 : decode cL_law 1876 = .ok (.istore 5, 2) := by decide +kernel
theorem dL_law_1878 : decode cL_law 1878 = .ok (.aload_n 2, 1) := by decide +kernel
theorem dL_law_1879 : decode cL_law 1879 = .ok (.aload_n 0, 1) := by decide +kernel
theorem dL_law_1880 : decode cL_law 1880 = .ok (.iload 4, 2) := by decide +kernel
theorem dL_law_1882 : decode cL_law 1882 = .ok (.iconst 1, 1) := by decide +kernel
theorem dL_law_1883 : decode cL_law 1883 = .ok (.iadd, 1) := by decide +kernel
theorem dL_law_1884 : decode cL_law 1884 = .ok (.iaload, 1) := by decide +kernel
theorem dL_law_1885 : decode cL_law 1885 = .ok (.invokevirtual 214, 3) := by decide +kernel
theorem dL_law_1888 : decode cL_law 1888 = .ok (.istore 6, 2) := by decide +kernel
theorem dL_law_1890 : decode cL_law 1890 = .ok (.aload_n 2, 1) := by decide +kernel
theorem dL_law_1891 : decode cL_law 1891 = .ok (.invokevirtual 116, 3) := by decide +kernel
theorem dL_law_1894 : decode cL_law 1894 = .ok (.iload 5, 2) := by decide +kernel
theorem dL_law_1896 : decode cL_law 1896 = .ok (.if_icmp .eq 5, 3) := by decide +kernel
theorem dL_law_1899 : decode cL_law 1899 = .ok (.iconst 0, 1) := by decide +kernel
theorem dL_law_1900 : decode cL_law 1900 = .ok (.ireturn, 1) := by decide +kernel
theorem dL_law_1901 : decode cL_law 1901 = .ok (.iload 5, 2) := by decide +kernel
theorem dL_law_1903 : decode cL_law 1903 = .ok (.ifCond .ne 15, 3) := by decide +kernel
theorem dL_law_1906 : decode cL_law 1906 = .ok (.aload_n 3, 1) := by decide +kernel
theorem dL_law_1907 : decode cL_law 1907 = .ok (.iconst 0, 1) := by decide +kernel
theorem dL_law_1908 : decode cL_law 1908 = .ok (.laload, 1) := by decide +kernel
theorem dL_law_1909 : decode cL_law 1909 = .ok (.iload 6, 2) := by decide +kernel
theorem dL_law_1911 : decode cL_law 1911 = .ok (.i2l, 1) := by decide +kernel
theorem dL_law_1912 : decode cL_law 1912 = .ok (.lcmp, 1) := by decide +kernel
theorem dL_law_1913 : decode cL_law 1913 = .ok (.ifCond .eq 5, 3) := by decide +kernel
theorem dL_law_1916 : decode cL_law 1916 = .ok (.iconst 0, 1) := by decide +kernel
theorem dL_law_1917 : decode cL_law 1917 = .ok (.ireturn, 1) := by decide +kernel
theorem dL_law_1918 : decode cL_law 1918 = .ok (.goto 202, 3) := by decide +kernel
theorem dL_law_1921 : decode cL_law 1921 = .ok (.aload_n 1, 1) := by decide +kernel
theorem dL_law_1922 : decode cL_law 1922 = .ok (.aload_n 0, 1) := by decide +kernel
theorem dL_law_1923 : decode cL_law 1923 = .ok (.iload 4, 2) := by decide +kernel
theorem dL_law_1925 : decode cL_law 1925 = .ok (.iconst 1, 1) := by decide +kernel
theorem dL_law_1926 : decode cL_law 1926 = .ok (.iadd, 1) := by decide +kernel
theorem dL_law_1927 : decode cL_law 1927 = .ok (.iaload, 1) := by decide +kernel
theorem dL_law_1928 : decode cL_law 1928 = .ok (.aload_n 0, 1) := by decide +kernel
theorem dL_law_1929 : decode cL_law 1929 = .ok (.iload 4, 2) := by decide +kernel
theorem dL_law_1931 : decode cL_law 1931 = .ok (.iconst 2, 1) := by decide +kernel
theorem dL_law_1932 : decode cL_law 1932 = .ok (.iadd, 1) := by decide +kernel
theorem dL_law_1933 : decode cL_law 1933 = .ok (.iaload, 1) := by decide +kernel
theorem dL_law_1934 : decode cL_law 1934 = .ok (.aload_n 3, 1) := by decide +kernel
theorem dL_law_1935 : decode cL_law 1935 = .ok (.invokestatic 215, 3) := by decide +kernel
theorem dL_law_1938 : decode cL_law 1938 = .ok (.istore 5, 2) := by decide +kernel
theorem dL_law_1940 : decode cL_law 1940 = .ok (.aload_n 2, 1) := by decide +kernel
theorem dL_law_1941 : decode cL_law 1941 = .ok (.aload_n 0, 1) := by decide +kernel
theorem dL_law_1942 : decode cL_law 1942 = .ok (.iload 4, 2) := by decide +kernel
theorem dL_law_1944 : decode cL_law 1944 = .ok (.iconst 1, 1) := by decide +kernel
theorem dL_law_1945 : decode cL_law 1945 = .ok (.iadd, 1) := by decide +kernel
theorem dL_law_1946 : decode cL_law 1946 = .ok (.iaload, 1) := by decide +kernel
theorem dL_law_1947 : decode cL_law 1947 = .ok (.aload_n 0, 1) := by decide +kernel
theorem dL_law_1948 : decode cL_law 1948 = .ok (.iload 4, 2) := by decide +kernel
theorem dL_law_1950 : decode cL_law 1950 = .ok (.iconst 2, 1) := by decide +kernel
theorem dL_law_1951 : decode cL_law 1951 = .ok (.iadd, 1) := by decide +kernel
theorem dL_law_1952 : decode cL_law 1952 = .ok (.iaload, 1) := by decide +kernel
theorem dL_law_1953 : decode cL_law 1953 = .ok (.invokevirtual 217, 3) := by decide +kernel
theorem dL_law_1956 : decode cL_law 1956 = .ok (.istore 6, 2) := by decide +kernel
theorem dL_law_1958 : decode cL_law 1958 = .ok (.aload_n 2, 1) := by decide +kernel
theorem dL_law_1959 : decode cL_law 1959 = .ok (.invokevirtual 116, 3) := by decide +kernel
theorem dL_law_1962 : decode cL_law 1962 = .ok (.iload 5, 2) := by decide +kernel
theorem dL_law_1964 : decode cL_law 1964 = .ok (.if_icmp .eq 5, 3) := by decide +kernel
theorem dL_law_1967 : decode cL_law 1967 = .ok (.iconst 0, 1) := by decide +kernel
theorem dL_law_1968 : decode cL_law 1968 = .ok (.ireturn, 1) := by decide +kernel
theorem dL_law_1969 : decode cL_law 1969 = .ok (.iload 5, 2) := by decide +kernel
theorem dL_law_1971 : decode cL_law 1971 = .ok (.ifCond .ne 15, 3) := by decide +kernel
theorem dL_law_1974 : decode cL_law 1974 = .ok (.aload_n 3, 1) := by decide +kernel
theorem dL_law_1975 : decode cL_law 1975 = .ok (.iconst 0, 1) := by decide +kernel
theorem dL_law_1976 : decode cL_law 1976 = .ok (.laload, 1) := by decide +kernel
theorem dL_law_1977 : decode cL_law 1977 = .ok (.iload 6, 2) := by decide +kernel
theorem dL_law_1979 : decode cL_law 1979 = .ok (.i2l, 1) := by decide +kernel
theorem dL_law_1980 : decode cL_law 1980 = .ok (.lcmp, 1) := by decide +kernel
theorem dL_law_1981 : decode cL_law 1981 = .ok (.ifCond .eq 5, 3) := by decide +kernel
theorem dL_law_1984 : decode cL_law 1984 = .ok (.iconst 0, 1) := by decide +kernel
theorem dL_law_1985 : decode cL_law 1985 = .ok (.ireturn, 1) := by decide +kernel
theorem dL_law_1986 : decode cL_law 1986 = .ok (.goto 134, 3) := by decide +kernel
theorem dL_law_1989 : decode cL_law 1989 = .ok (.aload_n 1, 1) := by decide +kernel
theorem dL_law_1990 : decode cL_law 1990 = .ok (.aload_n 0, 1) := by decide +kernel
theorem dL_law_1991 : decode cL_law 1991 = .ok (.iload 4, 2) := by decide +kernel
theorem dL_law_1993 : decode cL_law 1993 = .ok (.iconst 1, 1) := by decide +kernel
theorem dL_law_1994 : decode cL_law 1994 = .ok (.iadd, 1) := by decide +kernel
theorem dL_law_1995 : decode cL_law 1995 = .ok (.iaload, 1) := by decide +kernel
theorem dL_law_1996 : decode cL_law 1996 = .ok (.aload_n 0, 1) := by decide +kernel
theorem dL_law_1997 : decode cL_law 1997 = .ok (.iload 4, 2) := by decide +kernel
theorem dL_law_1999 : decode cL_law 1999 = .ok (.iconst 2, 1) := by decide +kernel
theorem dL_law_2000 : decode cL_law 2000 = .ok (.iadd, 1) := by decide +kernel
theorem dL_law_2001 : decode cL_law 2001 = .ok (.iaload, 1) := by decide +kernel
theorem dL_law_2002 : decode cL_law 2002 = .ok (.aload_n 3, 1) := by decide +kernel
theorem dL_law_2003 : decode cL_law 2003 = .ok (.invokestatic 218, 3) := by decide +kernel
theorem dL_law_2006 : decode cL_law 2006 = .ok (.istore 5, 2) := by decide +kernel
theorem dL_law_2008 : decode cL_law 2008 = .ok (.aload_n 2, 1) := by decide +kernel
theorem dL_law_2009 : decode cL_law 2009 = .ok (.aload_n 0, 1) := by decide +kernel
theorem dL_law_2010 : decode cL_law 2010 = .ok (.iload 4, 2) := by decide +kernel
theorem dL_law_2012 : decode cL_law 2012 = .ok (.iconst 1, 1) := by decide +kernel
theorem dL_law_2013 : decode cL_law 2013 = .ok (.iadd, 1) := by decide +kernel
theorem dL_law_2014 : decode cL_law 2014 = .ok (.iaload, 1) := by decide +kernel
theorem dL_law_2015 : decode cL_law 2015 = .ok (.aload_n 0, 1) := by decide +kernel
theorem dL_law_2016 : decode cL_law 2016 = .ok (.iload 4, 2) := by decide +kernel
theorem dL_law_2018 : decode cL_law 2018 = .ok (.iconst 2, 1) := by decide +kernel
theorem dL_law_2019 : decode cL_law 2019 = .ok (.iadd, 1) := by decide +kernel
theorem dL_law_2020 : decode cL_law 2020 = .ok (.iaload, 1) := by decide +kernel
theorem dL_law_2021 : decode cL_law 2021 = .ok (.invokevirtual 220, 3) := by decide +kernel
theorem dL_law_2024 : decode cL_law 2024 = .ok (.istore 6, 2) := by decide +kernel
theorem dL_law_2026 : decode cL_law 2026 = .ok (.aload_n 2, 1) := by decide +kernel
theorem dL_law_2027 : decode cL_law 2027 = .ok (.invokevirtual 116, 3) := by decide +kernel
theorem dL_law_2030 : decode cL_law 2030 = .ok (.iload 5, 2) := by decide +kernel
theorem dL_law_2032 : decode cL_law 2032 = .ok (.if_icmp .eq 5, 3) := by decide +kernel
theorem dL_law_2035 : decode cL_law 2035 = .ok (.iconst 0, 1) := by decide +kernel
theorem dL_law_2036 : decode cL_law 2036 = .ok (.ireturn, 1) := by decide +kernel
theorem dL_law_2037 : decode cL_law 2037 = .ok (.iload 5, 2) := by decide +kernel
theorem dL_law_2039 : decode cL_law 2039 = .ok (.ifCond .ne 15, 3) := by decide +kernel
theorem dL_law_2042 : decode cL_law 2042 = .ok (.aload_n 3, 1) := by decide +kernel
theorem dL_law_2043 : decode cL_law 2043 = .ok (.iconst 0, 1) := by decide +kernel
theorem dL_law_2044 : decode cL_law 2044 = .ok (.laload, 1) := by decide +kernel
theorem dL_law_2045 : decode cL_law 2045 = .ok (.iload 6, 2) := by decide +kernel
theorem dL_law_2047 : decode cL_law 2047 = .ok (.i2l, 1) := by decide +kernel
theorem dL_law_2048 : decode cL_law 2048 = .ok (.lcmp, 1) := by decide +kernel
theorem dL_law_2049 : decode cL_law 2049 = .ok (.ifCond .eq 5, 3) := by decide +kernel
theorem dL_law_2052 : decode cL_law 2052 = .ok (.iconst 0, 1) := by decide +kernel
theorem dL_law_2053 : decode cL_law 2053 = .ok (.ireturn, 1) := by decide +kernel
theorem dL_law_2054 : decode cL_law 2054 = .ok (.goto 66, 3) := by decide +kernel
theorem dL_law_2057 : decode cL_law 2057 = .ok (.aload_n 1, 1) := by decide +kernel
theorem dL_law_2058 : decode cL_law 2058 = .ok (.invokevirtual 221, 3) := by decide +kernel
theorem dL_law_2061 : decode cL_law 2061 = .ok (.aload_n 2, 1) := by decide +kernel
theorem dL_law_2062 : decode cL_law 2062 = .ok (.invokevirtual 224, 3) := by decide +kernel
theorem dL_law_2065 : decode cL_law 2065 = .ok (.if_icmp .eq 55, 3) := by decide +kernel
theorem dL_law_2068 : decode cL_law 2068 = .ok (.iconst 0, 1) := by decide +kernel
theorem dL_law_2069 : decode cL_law 2069 = .ok (.ireturn, 1) := by decide +kernel
theorem dL_law_2070 : decode cL_law 2070 = .ok (.aload_n 1, 1) := by decide +kernel
theorem dL_law_2071 : decode cL_law 2071 = .ok (.aload_n 0, 1) := by decide +kernel
theorem dL_law_2072 : decode cL_law 2072 = .ok (.iload 4, 2) := by decide +kernel
theorem dL_law_2074 : decode cL_law 2074 = .ok (.iconst 1, 1) := by decide +kernel
theorem dL_law_2075 : decode cL_law 2075 = .ok (.iadd, 1) := by decide +kernel
theorem dL_law_2076 : decode cL_law 2076 = .ok (.iaload, 1) := by decide +kernel
theorem dL_law_2077 : decode cL_law 2077 = .ok (.invokevirtual 225, 3) := by decide +kernel
theorem dL_law_2080 : decode cL_law 2080 = .ok (.aload_n 2, 1) := by decide +kernel
theorem dL_law_2081 : decode cL_law 2081 = .ok (.aload_n 0, 1) := by decide +kernel
theorem dL_law_2082 : decode cL_law 2082 = .ok (.iload 4, 2) := by decide +kernel
theorem dL_law_2084 : decode cL_law 2084 = .ok (.iconst 1, 1) := by decide +kernel
theorem dL_law_2085 : decode cL_law 2085 = .ok (.iadd, 1) := by decide +kernel
theorem dL_law_2086 : decode cL_law 2086 = .ok (.iaload, 1) := by decide +kernel
theorem dL_law_2087 : decode cL_law 2087 = .ok (.invokevirtual 228, 3) := by decide +kernel
theorem dL_law_2090 : decode cL_law 2090 = .ok (.if_icmp .eq 30, 3) := by decide +kernel
theorem dL_law_2093 : decode cL_law 2093 = .ok (.iconst 0, 1) := by decide +kernel
theorem dL_law_2094 : decode cL_law 2094 = .ok (.ireturn, 1) := by decide +kernel
theorem dL_law_2095 : decode cL_law 2095 = .ok (.aload_n 1, 1) := by decide +kernel
theorem dL_law_2096 : decode cL_law 2096 = .ok (.aload_n 0, 1) := by decide +kernel
theorem dL_law_2097 : decode cL_law 2097 = .ok (.iload 4, 2) := by decide +kernel
theorem dL_law_2099 : decode cL_law 2099 = .ok (.iconst 1, 1) := by decide +kernel
theorem dL_law_2100 : decode cL_law 2100 = .ok (.iadd, 1) := by decide +kernel
theorem dL_law_2101 : decode cL_law 2101 = .ok (.iaload, 1) := by decide +kernel
theorem dL_law_2102 : decode cL_law 2102 = .ok (.invokevirtual 229, 3) := by decide +kernel
theorem dL_law_2105 : decode cL_law 2105 = .ok (.aload_n 2, 1) := by decide +kernel
theorem dL_law_2106 : decode cL_law 2106 = .ok (.aload_n 0, 1) := by decide +kernel
theorem dL_law_2107 : decode cL_law 2107 = .ok (.iload 4, 2) := by decide +kernel
theorem dL_law_2109 : decode cL_law 2109 = .ok (.iconst 1, 1) := by decide +kernel
theorem dL_law_2110 : decode cL_law 2110 = .ok (.iadd, 1) := by decide +kernel
theorem dL_law_2111 : decode cL_law 2111 = .ok (.iaload, 1) := by decide +kernel
theorem dL_law_2112 : decode cL_law 2112 = .ok (.invokevirtual 232, 3) := by decide +kernel
theorem dL_law_2115 : decode cL_law 2115 = .ok (.if_icmp .eq 5, 3) := by decide +kernel
theorem dL_law_2118 : decode cL_law 2118 = .ok (.iconst 0, 1) := by decide +kernel
theorem dL_law_2119 : decode cL_law 2119 = .ok (.ireturn, 1) := by decide +kernel
theorem dL_law_2120 : decode cL_law 2120 = .ok (.iinc 4 6, 3) := by decide +kernel
theorem dL_law_2123 : decode cL_law 2123 = .ok (.goto (-2100), 3) := by decide +kernel
theorem dL_law_2126 : decode cL_law 2126 = .ok (.iconst 1, 1) := by decide +kernel
theorem dL_law_2127 : decode cL_law 2127 = .ok (.ireturn, 1) := by decide +kernel
