theorem dX0_init_0 : decode cX0_init 0 = .ok (.aload_n 0, 1) := by decide +kernel
theorem dX0_init_1 : decode cX0_init 1 = .ok (.invokespecial 3, 3) := by decide +kernel
theorem dX0_init_4 : decode cX0_init 4 = .ok (.aload_n 0, 1) := by decide +kernel
theorem dX0_init_5 : decode cX0_init 5 = .ok (.bipush 8, 2) := by decide +kernel
theorem dX0_init_7 : decode cX0_init 7 = .ok (.newarray .int, 2) := by decide +kernel
theorem dX0_init_9 : decode cX0_init 9 = .ok (.putfield 9, 3) := by decide +kernel
theorem dX0_init_12 : decode cX0_init 12 = .ok (.aload_n 0, 1) := by decide +kernel
theorem dX0_init_13 : decode cX0_init 13 = .ok (.bipush 8, 2) := by decide +kernel
theorem dX0_init_15 : decode cX0_init 15 = .ok (.newarray .int, 2) := by decide +kernel
theorem dX0_init_17 : decode cX0_init 17 = .ok (.putfield 15, 3) := by decide +kernel
theorem dX0_init_20 : decode cX0_init 20 = .ok (.aload_n 0, 1) := by decide +kernel
theorem dX0_init_21 : decode cX0_init 21 = .ok (.bipush 8, 2) := by decide +kernel
theorem dX0_init_23 : decode cX0_init 23 = .ok (.newarray .int, 2) := by decide +kernel
theorem dX0_init_25 : decode cX0_init 25 = .ok (.putfield 18, 3) := by decide +kernel
theorem dX0_init_28 : decode cX0_init 28 = .ok (.aload_n 0, 1) := by decide +kernel
theorem dX0_init_29 : decode cX0_init 29 = .ok (.bipush 8, 2) := by decide +kernel
theorem dX0_init_31 : decode cX0_init 31 = .ok (.newarray .int, 2) := by decide +kernel
theorem dX0_init_33 : decode cX0_init 33 = .ok (.putfield 21, 3) := by decide +kernel
theorem dX0_init_36 : decode cX0_init 36 = .ok (.aload_n 0, 1) := by decide +kernel
theorem dX0_init_37 : decode cX0_init 37 = .ok (.iconst 3, 1) := by decide +kernel
theorem dX0_init_38 : decode cX0_init 38 = .ok (.newarray .int, 2) := by decide +kernel
theorem dX0_init_40 : decode cX0_init 40 = .ok (.putfield 24, 3) := by decide +kernel
theorem dX0_init_43 : decode cX0_init 43 = .ok (.aload_n 0, 1) := by decide +kernel
theorem dX0_init_44 : decode cX0_init 44 = .ok (.iconst 3, 1) := by decide +kernel
theorem dX0_init_45 : decode cX0_init 45 = .ok (.newarray .int, 2) := by decide +kernel
theorem dX0_init_47 : decode cX0_init 47 = .ok (.putfield 27, 3) := by decide +kernel
theorem dX0_init_50 : decode cX0_init 50 = .ok (.aload_n 0, 1) := by decide +kernel
theorem dX0_init_51 : decode cX0_init 51 = .ok (.bipush 30, 2) := by decide +kernel
theorem dX0_init_53 : decode cX0_init 53 = .ok (.newarray .int, 2) := by decide +kernel
theorem dX0_init_55 : decode cX0_init 55 = .ok (.putfield 30, 3) := by decide +kernel
theorem dX0_init_58 : decode cX0_init 58 = .ok (.aload_n 0, 1) := by decide +kernel
theorem dX0_init_59 : decode cX0_init 59 = .ok (.bipush 30, 2) := by decide +kernel
theorem dX0_init_61 : decode cX0_init 61 = .ok (.newarray .int, 2) := by decide +kernel
theorem dX0_init_63 : decode cX0_init 63 = .ok (.putfield 33, 3) := by decide +kernel
theorem dX0_init_66 : decode cX0_init 66 = .ok (.aload_n 0, 1) := by decide +kernel
theorem dX0_init_67 : decode cX0_init 67 = .ok (.bipush 30, 2) := by decide +kernel
theorem dX0_init_69 : decode cX0_init 69 = .ok (.newarray .int, 2) := by decide +kernel
theorem dX0_init_71 : decode cX0_init 71 = .ok (.putfield 36, 3) := by decide +kernel
theorem dX0_init_74 : decode cX0_init 74 = .ok (.aload_n 0, 1) := by decide +kernel
theorem dX0_init_75 : decode cX0_init 75 = .ok (.new 39, 3) := by decide +kernel
theorem dX0_init_78 : decode cX0_init 78 = .ok (.dup, 1) := by decide +kernel
theorem dX0_init_79 : decode cX0_init 79 = .ok (.invokespecial 41, 3) := by decide +kernel
theorem dX0_init_82 : decode cX0_init 82 = .ok (.putfield 42, 3) := by decide +kernel
theorem dX0_init_85 : decode cX0_init 85 = .ok (.aload_n 0, 1) := by decide +kernel
theorem dX0_init_86 : decode cX0_init 86 = .ok (.invokevirtual 46, 3) := by decide +kernel
theorem dX0_init_89 : decode cX0_init 89 = .ok (.return_, 1) := by decide +kernel
theorem dX0_clear_0 : decode cX0_clear 0 = .ok (.aload_n 0, 1) := by decide +kernel
theorem dX0_clear_1 : decode cX0_clear 1 = .ok (.iconst 0, 1) := by decide +kernel
theorem dX0_clear_2 : decode cX0_clear 2 = .ok (.putfield 49, 3) := by decide +kernel
theorem dX0_clear_5 : decode cX0_clear 5 = .ok (.aload_n 0, 1) := by decide +kernel
theorem dX0_clear_6 : decode cX0_clear 6 = .ok (.iconst 0, 1) := by decide +kernel
theorem dX0_clear_7 : decode cX0_clear 7 = .ok (.putfield 53, 3) := by decide +kernel
theorem dX0_clear_10 : decode cX0_clear 10 = .ok (.aload_n 0, 1) := by decide +kernel
theorem dX0_clear_11 : decode cX0_clear 11 = .ok (.iconst 0, 1) := by decide +kernel
theorem dX0_clear_12 : decode cX0_clear 12 = .ok (.putfield 56, 3) := by decide +kernel
theorem dX0_clear_15 : decode cX0_clear 15 = .ok (.aload_n 0, 1) := by decide +kernel
theorem dX0_clear_16 : decode cX0_clear 16 = .ok (.bipush 10, 2) := by decide +kernel
theorem dX0_clear_18 : decode cX0_clear 18 = .ok (.putfield 59, 3) := by decide +kernel
theorem dX0_clear_21 : decode cX0_clear 21 = .ok (.aload_n 0, 1) := by decide +kernel
theorem dX0_clear_22 : decode cX0_clear 22 = .ok (.iconst 5, 1) := by decide +kernel
theorem dX0_clear_23 : decode cX0_clear 23 = .ok (.putfield 62, 3) := by decide +kernel
theorem dX0_clear_26 : decode cX0_clear 26 = .ok (.aload_n 0, 1) := by decide +kernel
theorem dX0_clear_27 : decode cX0_clear 27 = .ok (.bipush 20, 2) := by decide +kernel
theorem dX0_clear_29 : decode cX0_clear 29 = .ok (.putfield 65, 3) := by decide +kernel
theorem dX0_clear_32 : decode cX0_clear 32 = .ok (.aload_n 0, 1) := by decide +kernel
theorem dX0_clear_33 : decode cX0_clear 33 = .ok (.iconst 0, 1) := by decide +kernel
theorem dX0_clear_34 : decode cX0_clear 34 = .ok (.putfield 68, 3) := by decide +kernel
theorem dX0_clear_37 : decode cX0_clear 37 = .ok (.aload_n 0, 1) := by decide +kernel
theorem dX0_clear_38 : decode cX0_clear 38 = .ok (.iconst 0, 1) := by decide +kernel
theorem dX0_clear_39 : decode cX0_clear 39 = .ok (.putfield 71, 3) := by decide +kernel
theorem dX0_clear_42 : decode cX0_clear 42 = .ok (.aload_n 0, 1) := by decide +kernel
theorem dX0_clear_43 : decode cX0_clear 43 = .ok (.getfield 42, 3) := by decide +kernel
theorem dX0_clear_46 : decode cX0_clear 46 = .ok (.invokevirtual 74, 3) := by decide +kernel
theorem dX0_clear_49 : decode cX0_clear 49 = .ok (.aload_n 0, 1) := by decide +kernel
theorem dX0_clear_50 : decode cX0_clear 50 = .ok (.getfield 42, 3) := by decide +kernel
theorem dX0_clear_53 : decode cX0_clear 53 = .ok (.bipush 100, 2) := by decide +kernel
theorem dX0_clear_55 : decode cX0_clear 55 = .ok (.invokevirtual 75, 3) := by decide +kernel
theorem dX0_clear_58 : decode cX0_clear 58 = .ok (.return_, 1) := by decide +kernel
theorem dX0_addStation_0 : decode cX0_addStation 0 = .ok (.aload_n 0, 1) := by decide +kernel
theorem dX0_addStation_1 : decode cX0_addStation 1 = .ok (.getfield 49, 3) := by decide +kernel
theorem dX0_addStation_4 : decode cX0_addStation 4 = .ok (.bipush 8, 2) := by decide +kernel
theorem dX0_addStation_6 : decode cX0_addStation 6 = .ok (.if_icmp .ge 54, 3) := by decide +kernel
theorem dX0_addStation_9 : decode cX0_addStation 9 = .ok (.aload_n 0, 1) := by decide +kernel
theorem dX0_addStation_10 : decode cX0_addStation 10 = .ok (.getfield 9, 3) := by decide +kernel
theorem dX0_addStation_13 : decode cX0_addStation 13 = .ok (.aload_n 0, 1) := by decide +kernel
theorem dX0_addStation_14 : decode cX0_addStation 14 = .ok (.getfield 49, 3) := by decide +kernel
theorem dX0_addStation_17 : decode cX0_addStation 17 = .ok (.iload_n 1, 1) := by decide +kernel
theorem dX0_addStation_18 : decode cX0_addStation 18 = .ok (.iastore, 1) := by decide +kernel
theorem dX0_addStation_19 : decode cX0_addStation 19 = .ok (.aload_n 0, 1) := by decide +kernel
theorem dX0_addStation_20 : decode cX0_addStation 20 = .ok (.getfield 15, 3) := by decide +kernel
theorem dX0_addStation_23 : decode cX0_addStation 23 = .ok (.aload_n 0, 1) := by decide +kernel
theorem dX0_addStation_24 : decode cX0_addStation 24 = .ok (.getfield 49, 3) := by decide +kernel
theorem dX0_addStation_27 : decode cX0_addStation 27 = .ok (.iload_n 2, 1) := by decide +kernel
theorem dX0_addStation_28 : decode cX0_addStation 28 = .ok (.iastore, 1) := by decide +kernel
theorem dX0_addStation_29 : decode cX0_addStation 29 = .ok (.aload_n 0, 1) := by decide +kernel
theorem dX0_addStation_30 : decode cX0_addStation 30 = .ok (.getfield 18, 3) := by decide +kernel
theorem dX0_addStation_33 : decode cX0_addStation 33 = .ok (.aload_n 0, 1) := by decide +kernel
theorem dX0_addStation_34 : decode cX0_addStation 34 = .ok (.getfield 49, 3) := by decide +kernel
theorem dX0_addStation_37 : decode cX0_addStation 37 = .ok (.iload_n 3, 1) := by decide +kernel
theorem dX0_addStation_38 : decode cX0_addStation 38 = .ok (.iastore, 1) := by decide +kernel
theorem dX0_addStation_39 : decode cX0_addStation 39 = .ok (.aload_n 0, 1) := by decide +kernel
theorem dX0_addStation_40 : decode cX0_addStation 40 = .ok (.getfield 21, 3) := by decide +kernel
theorem dX0_addStation_43 : decode cX0_addStation 43 = .ok (.aload_n 0, 1) := by decide +kernel
theorem dX0_addStation_44 : decode cX0_addStation 44 = .ok (.getfield 49, 3) := by decide +kernel
theorem dX0_addStation_47 : decode cX0_addStation 47 = .ok (.iload 4, 2) := by decide +kernel
theorem dX0_addStation_49 : decode cX0_addStation 49 = .ok (.iastore, 1) := by decide +kernel
theorem dX0_addStation_50 : decode cX0_addStation 50 = .ok (.aload_n 0, 1) := by decide +kernel
theorem dX0_addStation_51 : decode cX0_addStation 51 = .ok (.dup, 1) := by decide +kernel
theorem dX0_addStation_52 : decode cX0_addStation 52 = .ok (.getfield 49, 3) := by decide +kernel
theorem dX0_addStation_55 : decode cX0_addStation 55 = .ok (.iconst 1, 1) := by decide +kernel
theorem dX0_addStation_56 : decode cX0_addStation 56 = .ok (.iadd, 1) := by decide +kernel
theorem dX0_addStation_57 : decode cX0_addStation 57 = .ok (.putfield 49, 3) := by decide +kernel
theorem dX0_addStation_60 : decode cX0_addStation 60 = .ok (.return_, 1) := by decide +kernel
theorem dX0_addTruck_0 : decode cX0_addTruck 0 = .ok (.aload_n 0, 1) := by decide +kernel
theorem dX0_addTruck_1 : decode cX0_addTruck 1 = .ok (.getfield 53, 3) := by decide +kernel
theorem dX0_addTruck_4 : decode cX0_addTruck 4 = .ok (.iconst 3, 1) := by decide +kernel
theorem dX0_addTruck_5 : decode cX0_addTruck 5 = .ok (.if_icmp .ge 33, 3) := by decide +kernel
theorem dX0_addTruck_8 : decode cX0_addTruck 8 = .ok (.aload_n 0, 1) := by decide +kernel
theorem dX0_addTruck_9 : decode cX0_addTruck 9 = .ok (.getfield 24, 3) := by decide +kernel
theorem dX0_addTruck_12 : decode cX0_addTruck 12 = .ok (.aload_n 0, 1) := by decide +kernel
theorem dX0_addTruck_13 : decode cX0_addTruck 13 = .ok (.getfield 53, 3) := by decide +kernel
theorem dX0_addTruck_16 : decode cX0_addTruck 16 = .ok (.iload_n 1, 1) := by decide +kernel
theorem dX0_addTruck_17 : decode cX0_addTruck 17 = .ok (.iastore, 1) := by decide +kernel
theorem dX0_addTruck_18 : decode cX0_addTruck 18 = .ok (.aload_n 0, 1) := by decide +kernel
theorem dX0_addTruck_19 : decode cX0_addTruck 19 = .ok (.getfield 27, 3) := by decide +kernel
theorem dX0_addTruck_22 : decode cX0_addTruck 22 = .ok (.aload_n 0, 1) := by decide +kernel
theorem dX0_addTruck_23 : decode cX0_addTruck 23 = .ok (.getfield 53, 3) := by decide +kernel
theorem dX0_addTruck_26 : decode cX0_addTruck 26 = .ok (.iload_n 2, 1) := by decide +kernel
theorem dX0_addTruck_27 : decode cX0_addTruck 27 = .ok (.iastore, 1) := by decide +kernel
theorem dX0_addTruck_28 : decode cX0_addTruck 28 = .ok (.aload_n 0, 1) := by decide +kernel
theorem dX0_addTruck_29 : decode cX0_addTruck 29 = .ok (.dup, 1) := by decide +kernel
theorem dX0_addTruck_30 : decode cX0_addTruck 30 = .ok (.getfield 53, 3) := by decide +kernel
theorem dX0_addTruck_33 : decode cX0_addTruck 33 = .ok (.iconst 1, 1) := by decide +kernel
theorem dX0_addTruck_34 : decode cX0_addTruck 34 = .ok (.iadd, 1) := by decide +kernel
theorem dX0_addTruck_35 : decode cX0_addTruck 35 = .ok (.putfield 53, 3) := by decide +kernel
theorem dX0_addTruck_38 : decode cX0_addTruck 38 = .ok (.return_, 1) := by decide +kernel
theorem dX0_addTrip_0 : decode cX0_addTrip 0 = .ok (.aload_n 0, 1) := by decide +kernel
theorem dX0_addTrip_1 : decode cX0_addTrip 1 = .ok (.getfield 56, 3) := by decide +kernel
theorem dX0_addTrip_4 : decode cX0_addTrip 4 = .ok (.bipush 30, 2) := by decide +kernel
theorem dX0_addTrip_6 : decode cX0_addTrip 6 = .ok (.if_icmp .ge 43, 3) := by decide +kernel
theorem dX0_addTrip_9 : decode cX0_addTrip 9 = .ok (.aload_n 0, 1) := by decide +kernel
theorem dX0_addTrip_10 : decode cX0_addTrip 10 = .ok (.getfield 30, 3) := by decide +kernel
theorem dX0_addTrip_13 : decode cX0_addTrip 13 = .ok (.aload_n 0, 1) := by decide +kernel
theorem dX0_addTrip_14 : decode cX0_addTrip 14 = .ok (.getfield 56, 3) := by decide +kernel
theorem dX0_addTrip_17 : decode cX0_addTrip 17 = .ok (.iload_n 1, 1) := by decide +kernel
theorem dX0_addTrip_18 : decode cX0_addTrip 18 = .ok (.iastore, 1) := by decide +kernel
theorem dX0_addTrip_19 : decode cX0_addTrip 19 = .ok (.aload_n 0, 1) := by decide +kernel
theorem dX0_addTrip_20 : decode cX0_addTrip 20 = .ok (.getfield 33, 3) := by decide +kernel
theorem dX0_addTrip_23 : decode cX0_addTrip 23 = .ok (.aload_n 0, 1) := by decide +kernel
theorem dX0_addTrip_24 : decode cX0_addTrip 24 = .ok (.getfield 56, 3) := by decide +kernel
theorem dX0_addTrip_27 : decode cX0_addTrip 27 = .ok (.iload_n 2, 1) := by decide +kernel
theorem dX0_addTrip_28 : decode cX0_addTrip 28 = .ok (.iastore, 1) := by decide +kernel
theorem dX0_addTrip_29 : decode cX0_addTrip 29 = .ok (.aload_n 0, 1) := by decide +kernel
theorem dX0_addTrip_30 : decode cX0_addTrip 30 = .ok (.getfield 36, 3) := by decide +kernel
theorem dX0_addTrip_33 : decode cX0_addTrip 33 = .ok (.aload_n 0, 1) := by decide +kernel
theorem dX0_addTrip_34 : decode cX0_addTrip 34 = .ok (.getfield 56, 3) := by decide +kernel
theorem dX0_addTrip_37 : decode cX0_addTrip 37 = .ok (.iload_n 3, 1) := by decide +kernel
theorem dX0_addTrip_38 : decode cX0_addTrip 38 = .ok (.iastore, 1) := by decide +kernel
theorem dX0_addTrip_39 : decode cX0_addTrip 39 = .ok (.aload_n 0, 1) := by decide +kernel
theorem dX0_addTrip_40 : decode cX0_addTrip 40 = .ok (.dup, 1) := by decide +kernel
theorem dX0_addTrip_41 : decode cX0_addTrip 41 = .ok (.getfield 56, 3) := by decide +kernel
theorem dX0_addTrip_44 : decode cX0_addTrip 44 = .ok (.iconst 1, 1) := by decide +kernel
theorem dX0_addTrip_45 : decode cX0_addTrip 45 = .ok (.iadd, 1) := by decide +kernel
theorem dX0_addTrip_46 : decode cX0_addTrip 46 = .ok (.putfield 56, 3) := by decide +kernel
theorem dX0_addTrip_49 : decode cX0_addTrip 49 = .ok (.return_, 1) := by decide +kernel
theorem dX0_distance_0 : decode cX0_distance 0 = .ok (.aload_n 0, 1) := by decide +kernel
theorem dX0_distance_1 : decode cX0_distance 1 = .ok (.getfield 9, 3) := by decide +kernel
theorem dX0_distance_4 : decode cX0_distance 4 = .ok (.iload_n 1, 1) := by decide +kernel
theorem dX0_distance_5 : decode cX0_distance 5 = .ok (.iaload, 1) := by decide +kernel
theorem dX0_distance_6 : decode cX0_distance 6 = .ok (.aload_n 0, 1) := by decide +kernel
theorem dX0_distance_7 : decode cX0_distance 7 = .ok (.getfield 9, 3) := by decide +kernel
theorem dX0_distance_10 : decode cX0_distance 10 = .ok (.iload_n 2, 1) := by decide +kernel
theorem dX0_distance_11 : decode cX0_distance 11 = .ok (.iaload, 1) := by decide +kernel
theorem dX0_distance_12 : decode cX0_distance 12 = .ok (.isub, 1) := by decide +kernel
theorem dX0_distance_13 : decode cX0_distance 13 = .ok (.istore_n 3, 1) := by decide +kernel
theorem dX0_distance_14 : decode cX0_distance 14 = .ok (.aload_n 0, 1) := by decide +kernel
theorem dX0_distance_15 : decode cX0_distance 15 = .ok (.getfield 15, 3) := by decide +kernel
theorem dX0_distance_18 : decode cX0_distance 18 = .ok (.iload_n 1, 1) := by decide +kernel
theorem dX0_distance_19 : decode cX0_distance 19 = .ok (.iaload, 1) := by decide +kernel
theorem dX0_distance_20 : decode cX0_distance 20 = .ok (.aload_n 0, 1) := by decide +kernel
theorem dX0_distance_21 : decode cX0_distance 21 = .ok (.getfield 15, 3) := by decide +kernel
theorem dX0_distance_24 : decode cX0_distance 24 = .ok (.iload_n 2, 1) := by decide +kernel
theorem dX0_distance_25 : decode cX0_distance 25 = .ok (.iaload, 1) := by decide +kernel
theorem dX0_distance_26 : decode cX0_distance 26 = .ok (.isub, 1) := by decide +kernel
theorem dX0_distance_27 : decode cX0_distance 27 = .ok (.istore 4, 2) := by decide +kernel
theorem dX0_distance_29 : decode cX0_distance 29 = .ok (.iload_n 3, 1) := by decide +kernel
theorem dX0_distance_30 : decode cX0_distance 30 = .ok (.ifCond .ge 8, 3) := by decide +kernel
theorem dX0_distance_33 : decode cX0_distance 33 = .ok (.iload_n 3, 1) := by decide +kernel
theorem dX0_distance_34 : decode cX0_distance 34 = .ok (.ineg, 1) := by decide +kernel
theorem dX0_distance_35 : decode cX0_distance 35 = .ok (.goto 4, 3) := by decide +kernel
theorem dX0_distance_38 : decode cX0_distance 38 = .ok (.iload_n 3, 1) := by decide +kernel
theorem dX0_distance_39 : decode cX0_distance 39 = .ok (.iload 4, 2) := by decide +kernel
theorem dX0_distance_41 : decode cX0_distance 41 = .ok (.ifCond .ge 9, 3) := by decide +kernel
theorem dX0_distance_44 : decode cX0_distance 44 = .ok (.iload 4, 2) := by decide +kernel
theorem dX0_distance_46 : decode cX0_distance 46 = .ok (.ineg, 1) := by decide +kernel
theorem dX0_distance_47 : decode cX0_distance 47 = .ok (.goto 5, 3) := by decide +kernel
theorem dX0_distance_50 : decode cX0_distance 50 = .ok (.iload 4, 2) := by decide +kernel
theorem dX0_distance_52 : decode cX0_distance 52 = .ok (.iadd, 1) := by decide +kernel
theorem dX0_distance_53 : decode cX0_distance 53 = .ok (.ireturn, 1) := by decide +kernel
theorem dX0_riderMinutes_0 : decode cX0_riderMinutes 0 = .ok (.iconst 1, 1) := by decide +kernel
theorem dX0_riderMinutes_1 : decode cX0_riderMinutes 1 = .ok (.aload_n 0, 1) := by decide +kernel
theorem dX0_riderMinutes_2 : decode cX0_riderMinutes 2 = .ok (.iload_n 1, 1) := by decide +kernel
theorem dX0_riderMinutes_3 : decode cX0_riderMinutes 3 = .ok (.iload_n 2, 1) := by decide +kernel
theorem dX0_riderMinutes_4 : decode cX0_riderMinutes 4 = .ok (.invokevirtual 79, 3) := by decide +kernel
theorem dX0_riderMinutes_7 : decode cX0_riderMinutes 7 = .ok (.aload_n 0, 1) := by decide +kernel
theorem dX0_riderMinutes_8 : decode cX0_riderMinutes 8 = .ok (.getfield 59, 3) := by decide +kernel
theorem dX0_riderMinutes_11 : decode cX0_riderMinutes 11 = .ok (.imul, 1) := by decide +kernel
theorem dX0_riderMinutes_12 : decode cX0_riderMinutes 12 = .ok (.bipush 10, 2) := by decide +kernel
theorem dX0_riderMinutes_14 : decode cX0_riderMinutes 14 = .ok (.idiv, 1) := by decide +kernel
theorem dX0_riderMinutes_15 : decode cX0_riderMinutes 15 = .ok (.iadd, 1) := by decide +kernel
theorem dX0_riderMinutes_16 : decode cX0_riderMinutes 16 = .ok (.ireturn, 1) := by decide +kernel
theorem dX0_truckMinutes_0 : decode cX0_truckMinutes 0 = .ok (.iconst 1, 1) := by decide +kernel
theorem dX0_truckMinutes_1 : decode cX0_truckMinutes 1 = .ok (.aload_n 0, 1) := by decide +kernel
theorem dX0_truckMinutes_2 : decode cX0_truckMinutes 2 = .ok (.iload_n 1, 1) := by decide +kernel
theorem dX0_truckMinutes_3 : decode cX0_truckMinutes 3 = .ok (.iload_n 2, 1) := by decide +kernel
theorem dX0_truckMinutes_4 : decode cX0_truckMinutes 4 = .ok (.invokevirtual 79, 3) := by decide +kernel
theorem dX0_truckMinutes_7 : decode cX0_truckMinutes 7 = .ok (.aload_n 0, 1) := by decide +kernel
theorem dX0_truckMinutes_8 : decode cX0_truckMinutes 8 = .ok (.getfield 62, 3) := by decide +kernel
theorem dX0_truckMinutes_11 : decode cX0_truckMinutes 11 = .ok (.imul, 1) := by decide +kernel
theorem dX0_truckMinutes_12 : decode cX0_truckMinutes 12 = .ok (.bipush 10, 2) := by decide +kernel
theorem dX0_truckMinutes_14 : decode cX0_truckMinutes 14 = .ok (.idiv, 1) := by decide +kernel
theorem dX0_truckMinutes_15 : decode cX0_truckMinutes 15 = .ok (.iadd, 1) := by decide +kernel
theorem dX0_truckMinutes_16 : decode cX0_truckMinutes 16 = .ok (.ireturn, 1) := by decide +kernel
theorem dX1_init_0 : decode cX1_init 0 = .ok (.aload_n 0, 1) := by decide +kernel
theorem dX1_init_1 : decode cX1_init 1 = .ok (.invokespecial 3, 3) := by decide +kernel
theorem dX1_init_4 : decode cX1_init 4 = .ok (.aload_n 0, 1) := by decide +kernel
theorem dX1_init_5 : decode cX1_init 5 = .ok (.bipush 24, 2) := by decide +kernel
theorem dX1_init_7 : decode cX1_init 7 = .ok (.newarray .int, 2) := by decide +kernel
theorem dX1_init_9 : decode cX1_init 9 = .ok (.putfield 9, 3) := by decide +kernel
theorem dX1_init_12 : decode cX1_init 12 = .ok (.return_, 1) := by decide +kernel
theorem dX1_readCity_0 : decode cX1_readCity 0 = .ok (.aload_n 0, 1) := by decide +kernel
theorem dX1_readCity_1 : decode cX1_readCity 1 = .ok (.aload_n 1, 1) := by decide +kernel
theorem dX1_readCity_2 : decode cX1_readCity 2 = .ok (.putfield 15, 3) := by decide +kernel
theorem dX1_readCity_5 : decode cX1_readCity 5 = .ok (.aload_n 0, 1) := by decide +kernel
theorem dX1_readCity_6 : decode cX1_readCity 6 = .ok (.iload_n 2, 1) := by decide +kernel
theorem dX1_readCity_7 : decode cX1_readCity 7 = .ok (.aload_n 1, 1) := by decide +kernel
theorem dX1_readCity_8 : decode cX1_readCity 8 = .ok (.arraylength, 1) := by decide +kernel
theorem dX1_readCity_9 : decode cX1_readCity 9 = .ok (.invokestatic 19, 3) := by decide +kernel
theorem dX1_readCity_12 : decode cX1_readCity 12 = .ok (.putfield 25, 3) := by decide +kernel
theorem dX1_readCity_15 : decode cX1_readCity 15 = .ok (.aload_n 0, 1) := by decide +kernel
theorem dX1_readCity_16 : decode cX1_readCity 16 = .ok (.aload_n 3, 1) := by decide +kernel
theorem dX1_readCity_17 : decode cX1_readCity 17 = .ok (.putfield 29, 3) := by decide +kernel
theorem dX1_readCity_20 : decode cX1_readCity 20 = .ok (.aload_n 0, 1) := by decide +kernel
theorem dX1_readCity_21 : decode cX1_readCity 21 = .ok (.getfield 29, 3) := by decide +kernel
theorem dX1_readCity_24 : decode cX1_readCity 24 = .ok (.invokevirtual 33, 3) := by decide +kernel
theorem dX1_readCity_27 : decode cX1_readCity 27 = .ok (.aload_n 0, 1) := by decide +kernel
theorem dX1_readCity_28 : decode cX1_readCity 28 = .ok (.iconst 0, 1) := by decide +kernel
theorem dX1_readCity_29 : decode cX1_readCity 29 = .ok (.putfield 38, 3) := by decide +kernel
theorem dX1_readCity_32 : decode cX1_readCity 32 = .ok (.aload_n 0, 1) := by decide +kernel
theorem dX1_readCity_33 : decode cX1_readCity 33 = .ok (.iconst 0, 1) := by decide +kernel
theorem dX1_readCity_34 : decode cX1_readCity 34 = .ok (.putfield 41, 3) := by decide +kernel
theorem dX1_readCity_37 : decode cX1_readCity 37 = .ok (.aload_n 0, 1) := by decide +kernel
theorem dX1_readCity_38 : decode cX1_readCity 38 = .ok (.iconst 0, 1) := by decide +kernel
theorem dX1_readCity_39 : decode cX1_readCity 39 = .ok (.putfield 44, 3) := by decide +kernel
theorem dX1_readCity_42 : decode cX1_readCity 42 = .ok (.aload_n 0, 1) := by decide +kernel
theorem dX1_readCity_43 : decode cX1_readCity 43 = .ok (.iconst 0, 1) := by decide +kernel
theorem dX1_readCity_44 : decode cX1_readCity 44 = .ok (.putfield 48, 3) := by decide +kernel
theorem dX1_readCity_47 : decode cX1_readCity 47 = .ok (.aload_n 0, 1) := by decide +kernel
theorem dX1_readCity_48 : decode cX1_readCity 48 = .ok (.iconst 0, 1) := by decide +kernel
theorem dX1_readCity_49 : decode cX1_readCity 49 = .ok (.putfield 51, 3) := by decide +kernel
theorem dX1_readCity_52 : decode cX1_readCity 52 = .ok (.aload_n 0, 1) := by decide +kernel
theorem dX1_readCity_53 : decode cX1_readCity 53 = .ok (.iconst 0, 1) := by decide +kernel
theorem dX1_readCity_54 : decode cX1_readCity 54 = .ok (.putfield 54, 3) := by decide +kernel
theorem dX1_readCity_57 : decode cX1_readCity 57 = .ok (.aload_n 0, 1) := by decide +kernel
theorem dX1_readCity_58 : decode cX1_readCity 58 = .ok (.invokevirtual 57, 3) := by decide +kernel
theorem dX1_readCity_61 : decode cX1_readCity 61 = .ok (.aload_n 0, 1) := by decide +kernel
theorem dX1_readCity_62 : decode cX1_readCity 62 = .ok (.getfield 25, 3) := by decide +kernel
theorem dX1_readCity_65 : decode cX1_readCity 65 = .ok (.istore 4, 2) := by decide +kernel
theorem dX1_readCity_67 : decode cX1_readCity 67 = .ok (.iload 4, 2) := by decide +kernel
theorem dX1_readCity_69 : decode cX1_readCity 69 = .ok (.ifCond .le 33, 3) := by decide +kernel
theorem dX1_readCity_72 : decode cX1_readCity 72 = .ok (.aload_n 0, 1) := by decide +kernel
theorem dX1_readCity_73 : decode cX1_readCity 73 = .ok (.getfield 60, 3) := by decide +kernel
theorem dX1_readCity_76 : decode cX1_readCity 76 = .ok (.ifCond .eq 26, 3) := by decide +kernel
theorem dX1_readCity_79 : decode cX1_readCity 79 = .ok (.aload_n 0, 1) := by decide +kernel
theorem dX1_readCity_80 : decode cX1_readCity 80 = .ok (.getfield 41, 3) := by decide +kernel
theorem dX1_readCity_83 : decode cX1_readCity 83 = .ok (.ifCond .ne 19, 3) := by decide +kernel
theorem dX1_readCity_86 : decode cX1_readCity 86 = .ok (.aload_n 0, 1) := by decide +kernel
theorem dX1_readCity_87 : decode cX1_readCity 87 = .ok (.invokevirtual 63, 3) := by decide +kernel
theorem dX1_readCity_90 : decode cX1_readCity 90 = .ok (.aload_n 0, 1) := by decide +kernel
theorem dX1_readCity_91 : decode cX1_readCity 91 = .ok (.bipush 59, 2) := by decide +kernel
theorem dX1_readCity_93 : decode cX1_readCity 93 = .ok (.invokevirtual 66, 3) := by decide +kernel
theorem dX1_readCity_96 : decode cX1_readCity 96 = .ok (.iinc 4 (-1), 3) := by decide +kernel
theorem dX1_readCity_99 : decode cX1_readCity 99 = .ok (.goto (-32), 3) := by decide +kernel
theorem dX1_readCity_102 : decode cX1_readCity 102 = .ok (.aload_n 0, 1) := by decide +kernel
theorem dX1_readCity_103 : decode cX1_readCity 103 = .ok (.getfield 41, 3) := by decide +kernel
theorem dX1_readCity_106 : decode cX1_readCity 106 = .ok (.ireturn, 1) := by decide +kernel
theorem dX1_readStatement_0 : decode cX1_readStatement 0 = .ok (.aload_n 0, 1) := by decide +kernel
theorem dX1_readStatement_1 : decode cX1_readStatement 1 = .ok (.ldc 70, 2) := by decide +kernel
theorem dX1_readStatement_3 : decode cX1_readStatement 3 = .ok (.invokevirtual 72, 3) := by decide +kernel
theorem dX1_readStatement_6 : decode cX1_readStatement 6 = .ok (.ifCond .eq 10, 3) := by decide +kernel
theorem dX1_readStatement_9 : decode cX1_readStatement 9 = .ok (.aload_n 0, 1) := by decide +kernel
theorem dX1_readStatement_10 : decode cX1_readStatement 10 = .ok (.invokevirtual 76, 3) := by decide +kernel
theorem dX1_readStatement_13 : decode cX1_readStatement 13 = .ok (.goto 104, 3) := by decide +kernel
theorem dX1_readStatement_16 : decode cX1_readStatement 16 = .ok (.aload_n 0, 1) := by decide +kernel
theorem dX1_readStatement_17 : decode cX1_readStatement 17 = .ok (.ldc 79, 2) := by decide +kernel
theorem dX1_readStatement_19 : decode cX1_readStatement 19 = .ok (.invokevirtual 72, 3) := by decide +kernel
theorem dX1_readStatement_22 : decode cX1_readStatement 22 = .ok (.ifCond .eq 10, 3) := by decide +kernel
theorem dX1_readStatement_25 : decode cX1_readStatement 25 = .ok (.aload_n 0, 1) := by decide +kernel
theorem dX1_readStatement_26 : decode cX1_readStatement 26 = .ok (.invokevirtual 81, 3) := by decide +kernel
theorem dX1_readStatement_29 : decode cX1_readStatement 29 = .ok (.goto 88, 3) := by decide +kernel
theorem dX1_readStatement_32 : decode cX1_readStatement 32 = .ok (.aload_n 0, 1) := by decide +kernel
theorem dX1_readStatement_33 : decode cX1_readStatement 33 = .ok (.ldc 84, 2) := by decide +kernel
theorem dX1_readStatement_35 : decode cX1_readStatement 35 = .ok (.invokevirtual 72, 3) := by decide +kernel
theorem dX1_readStatement_38 : decode cX1_readStatement 38 = .ok (.ifCond .eq 10, 3) := by decide +kernel
theorem dX1_readStatement_41 : decode cX1_readStatement 41 = .ok (.aload_n 0, 1) := by decide +kernel
theorem dX1_readStatement_42 : decode cX1_readStatement 42 = .ok (.invokevirtual 86, 3) := by decide +kernel
theorem dX1_readStatement_45 : decode cX1_readStatement 45 = .ok (.goto 72, 3) := by decide +kernel
theorem dX1_readStatement_48 : decode cX1_readStatement 48 = .ok (.aload_n 0, 1) := by decide +kernel
theorem dX1_readStatement_49 : decode cX1_readStatement 49 = .ok (.ldc 89, 2) := by decide +kernel
theorem dX1_readStatement_51 : decode cX1_readStatement 51 = .ok (.invokevirtual 72, 3) := by decide +kernel
theorem dX1_readStatement_54 : decode cX1_readStatement 54 = .ok (.ifCond .eq 10, 3) := by decide +kernel
theorem dX1_readStatement_57 : decode cX1_readStatement 57 = .ok (.aload_n 0, 1) := by decide +kernel
theorem dX1_readStatement_58 : decode cX1_readStatement 58 = .ok (.invokevirtual 91, 3) := by decide +kernel
theorem dX1_readStatement_61 : decode cX1_readStatement 61 = .ok (.goto 56, 3) := by decide +kernel
theorem dX1_readStatement_64 : decode cX1_readStatement 64 = .ok (.aload_n 0, 1) := by decide +kernel
theorem dX1_readStatement_65 : decode cX1_readStatement 65 = .ok (.ldc 94, 2) := by decide +kernel
theorem dX1_readStatement_67 : decode cX1_readStatement 67 = .ok (.invokevirtual 72, 3) := by decide +kernel
theorem dX1_readStatement_70 : decode cX1_readStatement 70 = .ok (.ifCond .eq 10, 3) := by decide +kernel
theorem dX1_readStatement_73 : decode cX1_readStatement 73 = .ok (.aload_n 0, 1) := by decide +kernel
theorem dX1_readStatement_74 : decode cX1_readStatement 74 = .ok (.invokevirtual 96, 3) := by decide +kernel
theorem dX1_readStatement_77 : decode cX1_readStatement 77 = .ok (.goto 40, 3) := by decide +kernel
theorem dX1_readStatement_80 : decode cX1_readStatement 80 = .ok (.aload_n 0, 1) := by decide +kernel
theorem dX1_readStatement_81 : decode cX1_readStatement 81 = .ok (.ldc 99, 2) := by decide +kernel
theorem dX1_readStatement_83 : decode cX1_readStatement 83 = .ok (.invokevirtual 72, 3) := by decide +kernel
theorem dX1_readStatement_86 : decode cX1_readStatement 86 = .ok (.ifCond .eq 10, 3) := by decide +kernel
theorem dX1_readStatement_89 : decode cX1_readStatement 89 = .ok (.aload_n 0, 1) := by decide +kernel
theorem dX1_readStatement_90 : decode cX1_readStatement 90 = .ok (.invokevirtual 101, 3) := by decide +kernel
theorem dX1_readStatement_93 : decode cX1_readStatement 93 = .ok (.goto 24, 3) := by decide +kernel
theorem dX1_readStatement_96 : decode cX1_readStatement 96 = .ok (.aload_n 0, 1) := by decide +kernel
theorem dX1_readStatement_97 : decode cX1_readStatement 97 = .ok (.ldc 104, 2) := by decide +kernel
theorem dX1_readStatement_99 : decode cX1_readStatement 99 = .ok (.invokevirtual 72, 3) := by decide +kernel
theorem dX1_readStatement_102 : decode cX1_readStatement 102 = .ok (.ifCond .eq 10, 3) := by decide +kernel
theorem dX1_readStatement_105 : decode cX1_readStatement 105 = .ok (.aload_n 0, 1) := by decide +kernel
theorem dX1_readStatement_106 : decode cX1_readStatement 106 = .ok (.invokevirtual 106, 3) := by decide +kernel
theorem dX1_readStatement_109 : decode cX1_readStatement 109 = .ok (.goto 8, 3) := by decide +kernel
theorem dX1_readStatement_112 : decode cX1_readStatement 112 = .ok (.aload_n 0, 1) := by decide +kernel
theorem dX1_readStatement_113 : decode cX1_readStatement 113 = .ok (.iconst 1, 1) := by decide +kernel
theorem dX1_readStatement_114 : decode cX1_readStatement 114 = .ok (.invokevirtual 109, 3) := by decide +kernel
theorem dX1_readStatement_117 : decode cX1_readStatement 117 = .ok (.return_, 1) := by decide +kernel
theorem dX1_readStation_0 : decode cX1_readStation 0 = .ok (.aload_n 0, 1) := by decide +kernel
theorem dX1_readStation_1 : decode cX1_readStation 1 = .ok (.aload_n 0, 1) := by decide +kernel
theorem dX1_readStation_2 : decode cX1_readStation 2 = .ok (.getfield 29, 3) := by decide +kernel
theorem dX1_readStation_5 : decode cX1_readStation 5 = .ok (.getfield 113, 3) := by decide +kernel
theorem dX1_readStation_8 : decode cX1_readStation 8 = .ok (.bipush 8, 2) := by decide +kernel
theorem dX1_readStation_10 : decode cX1_readStation 10 = .ok (.invokevirtual 116, 3) := by decide +kernel
theorem dX1_readStation_13 : decode cX1_readStation 13 = .ok (.aload_n 0, 1) := by decide +kernel
theorem dX1_readStation_14 : decode cX1_readStation 14 = .ok (.iconst 0, 1) := by decide +kernel
theorem dX1_readStation_15 : decode cX1_readStation 15 = .ok (.bipush 99, 2) := by decide +kernel
theorem dX1_readStation_17 : decode cX1_readStation 17 = .ok (.invokevirtual 120, 3) := by decide +kernel
theorem dX1_readStation_20 : decode cX1_readStation 20 = .ok (.istore_n 1, 1) := by decide +kernel
theorem dX1_readStation_21 : decode cX1_readStation 21 = .ok (.aload_n 0, 1) := by decide +kernel
theorem dX1_readStation_22 : decode cX1_readStation 22 = .ok (.iconst 0, 1) := by decide +kernel
theorem dX1_readStation_23 : decode cX1_readStation 23 = .ok (.bipush 99, 2) := by decide +kernel
theorem dX1_readStation_25 : decode cX1_readStation 25 = .ok (.invokevirtual 120, 3) := by decide +kernel
theorem dX1_readStation_28 : decode cX1_readStation 28 = .ok (.istore_n 2, 1) := by decide +kernel
theorem dX1_readStation_29 : decode cX1_readStation 29 = .ok (.aload_n 0, 1) := by decide +kernel
theorem dX1_readStation_30 : decode cX1_readStation 30 = .ok (.iconst 1, 1) := by decide +kernel
theorem dX1_readStation_31 : decode cX1_readStation 31 = .ok (.bipush 20, 2) := by decide +kernel
theorem dX1_readStation_33 : decode cX1_readStation 33 = .ok (.invokevirtual 120, 3) := by decide +kernel
theorem dX1_readStation_36 : decode cX1_readStation 36 = .ok (.istore_n 3, 1) := by decide +kernel
theorem dX1_readStation_37 : decode cX1_readStation 37 = .ok (.aload_n 0, 1) := by decide +kernel
theorem dX1_readStation_38 : decode cX1_readStation 38 = .ok (.iconst 0, 1) := by decide +kernel
theorem dX1_readStation_39 : decode cX1_readStation 39 = .ok (.iload_n 3, 1) := by decide +kernel
theorem dX1_readStation_40 : decode cX1_readStation 40 = .ok (.invokevirtual 120, 3) := by decide +kernel
theorem dX1_readStation_43 : decode cX1_readStation 43 = .ok (.istore 4, 2) := by decide +kernel
theorem dX1_readStation_45 : decode cX1_readStation 45 = .ok (.aload_n 0, 1) := by decide +kernel
theorem dX1_readStation_46 : decode cX1_readStation 46 = .ok (.getfield 41, 3) := by decide +kernel
theorem dX1_readStation_49 : decode cX1_readStation 49 = .ok (.ifCond .ne 15, 3) := by decide +kernel
theorem dX1_readStation_52 : decode cX1_readStation 52 = .ok (.aload_n 0, 1) := by decide +kernel
theorem dX1_readStation_53 : decode cX1_readStation 53 = .ok (.getfield 29, 3) := by decide +kernel
theorem dX1_readStation_56 : decode cX1_readStation 56 = .ok (.iload_n 1, 1) := by decide +kernel
theorem dX1_readStation_57 : decode cX1_readStation 57 = .ok (.iload_n 2, 1) := by decide +kernel
theorem dX1_readStation_58 : decode cX1_readStation 58 = .ok (.iload_n 3, 1) := by decide +kernel
theorem dX1_readStation_59 : decode cX1_readStation 59 = .ok (.iload 4, 2) := by decide +kernel
theorem dX1_readStation_61 : decode cX1_readStation 61 = .ok (.invokevirtual 123, 3) := by decide +kernel
theorem dX1_readStation_64 : decode cX1_readStation 64 = .ok (.return_, 1) := by decide +kernel
theorem dX1_readTruck_0 : decode cX1_readTruck 0 = .ok (.aload_n 0, 1) := by decide +kernel
theorem dX1_readTruck_1 : decode cX1_readTruck 1 = .ok (.aload_n 0, 1) := by decide +kernel
theorem dX1_readTruck_2 : decode cX1_readTruck 2 = .ok (.getfield 29, 3) := by decide +kernel
theorem dX1_readTruck_5 : decode cX1_readTruck 5 = .ok (.getfield 127, 3) := by decide +kernel
theorem dX1_readTruck_8 : decode cX1_readTruck 8 = .ok (.iconst 3, 1) := by decide +kernel
theorem dX1_readTruck_9 : decode cX1_readTruck 9 = .ok (.invokevirtual 116, 3) := by decide +kernel
theorem dX1_readTruck_12 : decode cX1_readTruck 12 = .ok (.aload_n 0, 1) := by decide +kernel
theorem dX1_readTruck_13 : decode cX1_readTruck 13 = .ok (.iconst 0, 1) := by decide +kernel
theorem dX1_readTruck_14 : decode cX1_readTruck 14 = .ok (.aload_n 0, 1) := by decide +kernel
theorem dX1_readTruck_15 : decode cX1_readTruck 15 = .ok (.getfield 29, 3) := by decide +kernel
theorem dX1_readTruck_18 : decode cX1_readTruck 18 = .ok (.getfield 113, 3) := by decide +kernel
theorem dX1_readTruck_21 : decode cX1_readTruck 21 = .ok (.iconst 1, 1) := by decide +kernel
theorem dX1_readTruck_22 : decode cX1_readTruck 22 = .ok (.isub, 1) := by decide +kernel
theorem dX1_readTruck_23 : decode cX1_readTruck 23 = .ok (.invokevirtual 120, 3) := by decide +kernel
theorem dX1_readTruck_26 : decode cX1_readTruck 26 = .ok (.istore_n 1, 1) := by decide +kernel
theorem dX1_readTruck_27 : decode cX1_readTruck 27 = .ok (.aload_n 0, 1) := by decide +kernel
theorem dX1_readTruck_28 : decode cX1_readTruck 28 = .ok (.iconst 1, 1) := by decide +kernel
theorem dX1_readTruck_29 : decode cX1_readTruck 29 = .ok (.bipush 20, 2) := by decide +kernel
theorem dX1_readTruck_31 : decode cX1_readTruck 31 = .ok (.invokevirtual 120, 3) := by decide +kernel
theorem dX1_readTruck_34 : decode cX1_readTruck 34 = .ok (.istore_n 2, 1) := by decide +kernel
theorem dX1_readTruck_35 : decode cX1_readTruck 35 = .ok (.aload_n 0, 1) := by decide +kernel
theorem dX1_readTruck_36 : decode cX1_readTruck 36 = .ok (.getfield 41, 3) := by decide +kernel
theorem dX1_readTruck_39 : decode cX1_readTruck 39 = .ok (.ifCond .ne 12, 3) := by decide +kernel
theorem dX1_readTruck_42 : decode cX1_readTruck 42 = .ok (.aload_n 0, 1) := by decide +kernel
theorem dX1_readTruck_43 : decode cX1_readTruck 43 = .ok (.getfield 29, 3) := by decide +kernel
theorem dX1_readTruck_46 : decode cX1_readTruck 46 = .ok (.iload_n 1, 1) := by decide +kernel
theorem dX1_readTruck_47 : decode cX1_readTruck 47 = .ok (.iload_n 2, 1) := by decide +kernel
theorem dX1_readTruck_48 : decode cX1_readTruck 48 = .ok (.invokevirtual 130, 3) := by decide +kernel
theorem dX1_readTruck_51 : decode cX1_readTruck 51 = .ok (.return_, 1) := by decide +kernel
theorem dX1_readTrip_0 : decode cX1_readTrip 0 = .ok (.aload_n 0, 1) := by decide +kernel
theorem dX1_readTrip_1 : decode cX1_readTrip 1 = .ok (.aload_n 0, 1) := by decide +kernel
theorem dX1_readTrip_2 : decode cX1_readTrip 2 = .ok (.getfield 29, 3) := by decide +kernel
theorem dX1_readTrip_5 : decode cX1_readTrip 5 = .ok (.getfield 133, 3) := by decide +kernel
theorem dX1_readTrip_8 : decode cX1_readTrip 8 = .ok (.bipush 30, 2) := by decide +kernel
theorem dX1_readTrip_10 : decode cX1_readTrip 10 = .ok (.invokevirtual 116, 3) := by decide +kernel
theorem dX1_readTrip_13 : decode cX1_readTrip 13 = .ok (.aload_n 0, 1) := by decide +kernel
theorem dX1_readTrip_14 : decode cX1_readTrip 14 = .ok (.iconst 0, 1) := by decide +kernel
theorem dX1_readTrip_15 : decode cX1_readTrip 15 = .ok (.aload_n 0, 1) := by decide +kernel
theorem dX1_readTrip_16 : decode cX1_readTrip 16 = .ok (.getfield 29, 3) := by decide +kernel
theorem dX1_readTrip_19 : decode cX1_readTrip 19 = .ok (.getfield 113, 3) := by decide +kernel
theorem dX1_readTrip_22 : decode cX1_readTrip 22 = .ok (.iconst 1, 1) := by decide +kernel
theorem dX1_readTrip_23 : decode cX1_readTrip 23 = .ok (.isub, 1) := by decide +kernel
theorem dX1_readTrip_24 : decode cX1_readTrip 24 = .ok (.invokevirtual 120, 3) := by decide +kernel
theorem dX1_readTrip_27 : decode cX1_readTrip 27 = .ok (.istore_n 1, 1) := by decide +kernel
theorem dX1_readTrip_28 : decode cX1_readTrip 28 = .ok (.aload_n 0, 1) := by decide +kernel
theorem dX1_readTrip_29 : decode cX1_readTrip 29 = .ok (.iconst 0, 1) := by decide +kernel
theorem dX1_readTrip_30 : decode cX1_readTrip 30 = .ok (.aload_n 0, 1) := by decide +kernel
theorem dX1_readTrip_31 : decode cX1_readTrip 31 = .ok (.getfield 29, 3) := by decide +kernel
theorem dX1_readTrip_34 : decode cX1_readTrip 34 = .ok (.getfield 113, 3) := by decide +kernel
theorem dX1_readTrip_37 : decode cX1_readTrip 37 = .ok (.iconst 1, 1) := by decide +kernel
theorem dX1_readTrip_38 : decode cX1_readTrip 38 = .ok (.isub, 1) := by decide +kernel
theorem dX1_readTrip_39 : decode cX1_readTrip 39 = .ok (.invokevirtual 120, 3) := by decide +kernel
theorem dX1_readTrip_42 : decode cX1_readTrip 42 = .ok (.istore_n 2, 1) := by decide +kernel
theorem dX1_readTrip_43 : decode cX1_readTrip 43 = .ok (.aload_n 0, 1) := by decide +kernel
theorem dX1_readTrip_44 : decode cX1_readTrip 44 = .ok (.iconst 0, 1) := by decide +kernel
theorem dX1_readTrip_45 : decode cX1_readTrip 45 = .ok (.sipush 1439, 3) := by decide +kernel
theorem dX1_readTrip_48 : decode cX1_readTrip 48 = .ok (.invokevirtual 120, 3) := by decide +kernel
theorem dX1_readTrip_51 : decode cX1_readTrip 51 = .ok (.istore_n 3, 1) := by decide +kernel
theorem dX1_readTrip_52 : decode cX1_readTrip 52 = .ok (.aload_n 0, 1) := by decide +kernel
theorem dX1_readTrip_53 : decode cX1_readTrip 53 = .ok (.getfield 41, 3) := by decide +kernel
theorem dX1_readTrip_56 : decode cX1_readTrip 56 = .ok (.ifCond .ne 13, 3) := by decide +kernel
theorem dX1_readTrip_59 : decode cX1_readTrip 59 = .ok (.aload_n 0, 1) := by decide +kernel
theorem dX1_readTrip_60 : decode cX1_readTrip 60 = .ok (.getfield 29, 3) := by decide +kernel
theorem dX1_readTrip_63 : decode cX1_readTrip 63 = .ok (.iload_n 1, 1) := by decide +kernel
theorem dX1_readTrip_64 : decode cX1_readTrip 64 = .ok (.iload_n 2, 1) := by decide +kernel
theorem dX1_readTrip_65 : decode cX1_readTrip 65 = .ok (.iload_n 3, 1) := by decide +kernel
theorem dX1_readTrip_66 : decode cX1_readTrip 66 = .ok (.invokevirtual 136, 3) := by decide +kernel
theorem dX1_readTrip_69 : decode cX1_readTrip 69 = .ok (.return_, 1) := by decide +kernel
theorem dX1_readPace_0 : decode cX1_readPace 0 = .ok (.aload_n 0, 1) := by decide +kernel
theorem dX1_readPace_1 : decode cX1_readPace 1 = .ok (.aload_n 0, 1) := by decide +kernel
theorem dX1_readPace_2 : decode cX1_readPace 2 = .ok (.getfield 44, 3) := by decide +kernel
theorem dX1_readPace_5 : decode cX1_readPace 5 = .ok (.invokevirtual 140, 3) := by decide +kernel
theorem dX1_readPace_8 : decode cX1_readPace 8 = .ok (.aload_n 0, 1) := by decide +kernel
theorem dX1_readPace_9 : decode cX1_readPace 9 = .ok (.iconst 1, 1) := by decide +kernel
theorem dX1_readPace_10 : decode cX1_readPace 10 = .ok (.putfield 44, 3) := by decide +kernel
theorem dX1_readPace_13 : decode cX1_readPace 13 = .ok (.aload_n 0, 1) := by decide +kernel
theorem dX1_readPace_14 : decode cX1_readPace 14 = .ok (.getfield 29, 3) := by decide +kernel
theorem dX1_readPace_17 : decode cX1_readPace 17 = .ok (.aload_n 0, 1) := by decide +kernel
theorem dX1_readPace_18 : decode cX1_readPace 18 = .ok (.iconst 0, 1) := by decide +kernel
theorem dX1_readPace_19 : decode cX1_readPace 19 = .ok (.bipush 99, 2) := by decide +kernel
theorem dX1_readPace_21 : decode cX1_readPace 21 = .ok (.invokevirtual 120, 3) := by decide +kernel
theorem dX1_readPace_24 : decode cX1_readPace 24 = .ok (.putfield 144, 3) := by decide +kernel
theorem dX1_readPace_27 : decode cX1_readPace 27 = .ok (.aload_n 0, 1) := by decide +kernel
theorem dX1_readPace_28 : decode cX1_readPace 28 = .ok (.getfield 29, 3) := by decide +kernel
theorem dX1_readPace_31 : decode cX1_readPace 31 = .ok (.aload_n 0, 1) := by decide +kernel
theorem dX1_readPace_32 : decode cX1_readPace 32 = .ok (.iconst 0, 1) := by decide +kernel
theorem dX1_readPace_33 : decode cX1_readPace 33 = .ok (.bipush 99, 2) := by decide +kernel
theorem dX1_readPace_35 : decode cX1_readPace 35 = .ok (.invokevirtual 120, 3) := by decide +kernel
theorem dX1_readPace_38 : decode cX1_readPace 38 = .ok (.putfield 147, 3) := by decide +kernel
theorem dX1_readPace_41 : decode cX1_readPace 41 = .ok (.return_, 1) := by decide +kernel
theorem dX1_readBalance_0 : decode cX1_readBalance 0 = .ok (.aload_n 0, 1) := by decide +kernel
theorem dX1_readBalance_1 : decode cX1_readBalance 1 = .ok (.aload_n 0, 1) := by decide +kernel
theorem dX1_readBalance_2 : decode cX1_readBalance 2 = .ok (.getfield 48, 3) := by decide +kernel
theorem dX1_readBalance_5 : decode cX1_readBalance 5 = .ok (.invokevirtual 140, 3) := by decide +kernel
theorem dX1_readBalance_8 : decode cX1_readBalance 8 = .ok (.aload_n 0, 1) := by decide +kernel
theorem dX1_readBalance_9 : decode cX1_readBalance 9 = .ok (.iconst 1, 1) := by decide +kernel
theorem dX1_readBalance_10 : decode cX1_readBalance 10 = .ok (.putfield 48, 3) := by decide +kernel
theorem dX1_readBalance_13 : decode cX1_readBalance 13 = .ok (.aload_n 0, 1) := by decide +kernel
theorem dX1_readBalance_14 : decode cX1_readBalance 14 = .ok (.getfield 29, 3) := by decide +kernel
theorem dX1_readBalance_17 : decode cX1_readBalance 17 = .ok (.aload_n 0, 1) := by decide +kernel
theorem dX1_readBalance_18 : decode cX1_readBalance 18 = .ok (.iconst 0, 1) := by decide +kernel
theorem dX1_readBalance_19 : decode cX1_readBalance 19 = .ok (.bipush 50, 2) := by decide +kernel
theorem dX1_readBalance_21 : decode cX1_readBalance 21 = .ok (.invokevirtual 120, 3) := by decide +kernel
theorem dX1_readBalance_24 : decode cX1_readBalance 24 = .ok (.putfield 150, 3) := by decide +kernel
theorem dX1_readBalance_27 : decode cX1_readBalance 27 = .ok (.return_, 1) := by decide +kernel
theorem dX1_readBonus_0 : decode cX1_readBonus 0 = .ok (.aload_n 0, 1) := by decide +kernel
theorem dX1_readBonus_1 : decode cX1_readBonus 1 = .ok (.aload_n 0, 1) := by decide +kernel
theorem dX1_readBonus_2 : decode cX1_readBonus 2 = .ok (.getfield 51, 3) := by decide +kernel
theorem dX1_readBonus_5 : decode cX1_readBonus 5 = .ok (.invokevirtual 140, 3) := by decide +kernel
theorem dX1_readBonus_8 : decode cX1_readBonus 8 = .ok (.aload_n 0, 1) := by decide +kernel
theorem dX1_readBonus_9 : decode cX1_readBonus 9 = .ok (.iconst 1, 1) := by decide +kernel
theorem dX1_readBonus_10 : decode cX1_readBonus 10 = .ok (.putfield 51, 3) := by decide +kernel
theorem dX1_readBonus_13 : decode cX1_readBonus 13 = .ok (.aload_n 0, 1) := by decide +kernel
theorem dX1_readBonus_14 : decode cX1_readBonus 14 = .ok (.getfield 29, 3) := by decide +kernel
theorem dX1_readBonus_17 : decode cX1_readBonus 17 = .ok (.aload_n 0, 1) := by decide +kernel
theorem dX1_readBonus_18 : decode cX1_readBonus 18 = .ok (.iconst 0, 1) := by decide +kernel
theorem dX1_readBonus_19 : decode cX1_readBonus 19 = .ok (.bipush 100, 2) := by decide +kernel
theorem dX1_readBonus_21 : decode cX1_readBonus 21 = .ok (.invokevirtual 120, 3) := by decide +kernel
theorem dX1_readBonus_24 : decode cX1_readBonus 24 = .ok (.putfield 153, 3) := by decide +kernel
theorem dX1_readBonus_27 : decode cX1_readBonus 27 = .ok (.aload_n 0, 1) := by decide +kernel
theorem dX1_readBonus_28 : decode cX1_readBonus 28 = .ok (.getfield 29, 3) := by decide +kernel
theorem dX1_readBonus_31 : decode cX1_readBonus 31 = .ok (.aload_n 0, 1) := by decide +kernel
theorem dX1_readBonus_32 : decode cX1_readBonus 32 = .ok (.iconst 0, 1) := by decide +kernel
theorem dX1_readBonus_33 : decode cX1_readBonus 33 = .ok (.sipush 999, 3) := by decide +kernel
theorem dX1_readBonus_36 : decode cX1_readBonus 36 = .ok (.invokevirtual 120, 3) := by decide +kernel
theorem dX1_readBonus_39 : decode cX1_readBonus 39 = .ok (.putfield 156, 3) := by decide +kernel
theorem dX1_readBonus_42 : decode cX1_readBonus 42 = .ok (.return_, 1) := by decide +kernel
theorem dX1_readFare_0 : decode cX1_readFare 0 = .ok (.aload_n 0, 1) := by decide +kernel
theorem dX1_readFare_1 : decode cX1_readFare 1 = .ok (.aload_n 0, 1) := by decide +kernel
theorem dX1_readFare_2 : decode cX1_readFare 2 = .ok (.getfield 54, 3) := by decide +kernel
theorem dX1_readFare_5 : decode cX1_readFare 5 = .ok (.invokevirtual 140, 3) := by decide +kernel
theorem dX1_readFare_8 : decode cX1_readFare 8 = .ok (.aload_n 0, 1) := by decide +kernel
theorem dX1_readFare_9 : decode cX1_readFare 9 = .ok (.iconst 1, 1) := by decide +kernel
theorem dX1_readFare_10 : decode cX1_readFare 10 = .ok (.putfield 54, 3) := by decide +kernel
theorem dX1_readFare_13 : decode cX1_readFare 13 = .ok (.aload_n 0, 1) := by decide +kernel
theorem dX1_readFare_14 : decode cX1_readFare 14 = .ok (.getfield 29, 3) := by decide +kernel
theorem dX1_readFare_17 : decode cX1_readFare 17 = .ok (.getfield 159, 3) := by decide +kernel
theorem dX1_readFare_20 : decode cX1_readFare 20 = .ok (.invokevirtual 162, 3) := by decide +kernel
theorem dX1_readFare_23 : decode cX1_readFare 23 = .ok (.aload_n 0, 1) := by decide +kernel
theorem dX1_readFare_24 : decode cX1_readFare 24 = .ok (.iconst 0, 1) := by decide +kernel
theorem dX1_readFare_25 : decode cX1_readFare 25 = .ok (.putfield 165, 3) := by decide +kernel
theorem dX1_readFare_28 : decode cX1_readFare 28 = .ok (.iconst 0, 1) := by decide +kernel
theorem dX1_readFare_29 : decode cX1_readFare 29 = .ok (.istore_n 1, 1) := by decide +kernel
theorem dX1_readFare_30 : decode cX1_readFare 30 = .ok (.iconst 1, 1) := by decide +kernel
theorem dX1_readFare_31 : decode cX1_readFare 31 = .ok (.istore_n 2, 1) := by decide +kernel
theorem dX1_readFare_32 : decode cX1_readFare 32 = .ok (.aload_n 0, 1) := by decide +kernel
theorem dX1_readFare_33 : decode cX1_readFare 33 = .ok (.getfield 25, 3) := by decide +kernel
theorem dX1_readFare_36 : decode cX1_readFare 36 = .ok (.istore_n 3, 1) := by decide +kernel
theorem dX1_readFare_37 : decode cX1_readFare 37 = .ok (.iload_n 3, 1) := by decide +kernel
theorem dX1_readFare_38 : decode cX1_readFare 38 = .ok (.ifCond .le 107, 3) := by decide +kernel
theorem dX1_readFare_41 : decode cX1_readFare 41 = .ok (.aload_n 0, 1) := by decide +kernel
theorem dX1_readFare_42 : decode cX1_readFare 42 = .ok (.getfield 41, 3) := by decide +kernel
theorem dX1_readFare_45 : decode cX1_readFare 45 = .ok (.ifCond .ne 100, 3) := by decide +kernel
theorem dX1_readFare_48 : decode cX1_readFare 48 = .ok (.iload_n 2, 1) := by decide +kernel
theorem dX1_readFare_49 : decode cX1_readFare 49 = .ok (.ifCond .eq 33, 3) := by decide +kernel
theorem dX1_readFare_52 : decode cX1_readFare 52 = .ok (.aload_n 0, 1) := by decide +kernel
theorem dX1_readFare_53 : decode cX1_readFare 53 = .ok (.bipush 40, 2) := by decide +kernel
theorem dX1_readFare_55 : decode cX1_readFare 55 = .ok (.invokevirtual 168, 3) := by decide +kernel
theorem dX1_readFare_58 : decode cX1_readFare 58 = .ok (.ifCond .eq 24, 3) := by decide +kernel
theorem dX1_readFare_61 : decode cX1_readFare 61 = .ok (.iload_n 1, 1) := by decide +kernel
theorem dX1_readFare_62 : decode cX1_readFare 62 = .ok (.iconst 5, 1) := by decide +kernel
theorem dX1_readFare_63 : decode cX1_readFare 63 = .ok (.if_icmp .lt 8, 3) := by decide +kernel
theorem dX1_readFare_66 : decode cX1_readFare 66 = .ok (.aload_n 0, 1) := by decide +kernel
theorem dX1_readFare_67 : decode cX1_readFare 67 = .ok (.iconst 4, 1) := by decide +kernel
theorem dX1_readFare_68 : decode cX1_readFare 68 = .ok (.invokevirtual 109, 3) := by decide +kernel
theorem dX1_readFare_71 : decode cX1_readFare 71 = .ok (.iinc 1 1, 3) := by decide +kernel
theorem dX1_readFare_74 : decode cX1_readFare 74 = .ok (.aload_n 0, 1) := by decide +kernel
theorem dX1_readFare_75 : decode cX1_readFare 75 = .ok (.iconst 0, 1) := by decide +kernel
theorem dX1_readFare_76 : decode cX1_readFare 76 = .ok (.invokevirtual 172, 3) := by decide +kernel
theorem dX1_readFare_79 : decode cX1_readFare 79 = .ok (.goto 56, 3) := by decide +kernel
theorem dX1_readFare_82 : decode cX1_readFare 82 = .ok (.iload_n 2, 1) := by decide +kernel
theorem dX1_readFare_83 : decode cX1_readFare 83 = .ok (.ifCond .eq 12, 3) := by decide +kernel
theorem dX1_readFare_86 : decode cX1_readFare 86 = .ok (.aload_n 0, 1) := by decide +kernel
theorem dX1_readFare_87 : decode cX1_readFare 87 = .ok (.invokevirtual 175, 3) := by decide +kernel
theorem dX1_readFare_90 : decode cX1_readFare 90 = .ok (.iconst 0, 1) := by decide +kernel
theorem dX1_readFare_91 : decode cX1_readFare 91 = .ok (.istore_n 2, 1) := by decide +kernel
theorem dX1_readFare_92 : decode cX1_readFare 92 = .ok (.goto 43, 3) := by decide +kernel
theorem dX1_readFare_95 : decode cX1_readFare 95 = .ok (.aload_n 0, 1) := by decide +kernel
theorem dX1_readFare_96 : decode cX1_readFare 96 = .ok (.invokevirtual 178, 3) := by decide +kernel
theorem dX1_readFare_99 : decode cX1_readFare 99 = .ok (.ifCond .eq 16, 3) := by decide +kernel
theorem dX1_readFare_102 : decode cX1_readFare 102 = .ok (.aload_n 0, 1) := by decide +kernel
theorem dX1_readFare_103 : decode cX1_readFare 103 = .ok (.aload_n 0, 1) := by decide +kernel
theorem dX1_readFare_104 : decode cX1_readFare 104 = .ok (.invokevirtual 178, 3) := by decide +kernel
theorem dX1_readFare_107 : decode cX1_readFare 107 = .ok (.invokevirtual 182, 3) := by decide +kernel
theorem dX1_readFare_110 : decode cX1_readFare 110 = .ok (.iconst 1, 1) := by decide +kernel
theorem dX1_readFare_111 : decode cX1_readFare 111 = .ok (.istore_n 2, 1) := by decide +kernel
theorem dX1_readFare_112 : decode cX1_readFare 112 = .ok (.goto 23, 3) := by decide +kernel
theorem dX1_readFare_115 : decode cX1_readFare 115 = .ok (.iload_n 1, 1) := by decide +kernel
theorem dX1_readFare_116 : decode cX1_readFare 116 = .ok (.ifCond .le 29, 3) := by decide +kernel
theorem dX1_readFare_119 : decode cX1_readFare 119 = .ok (.aload_n 0, 1) := by decide +kernel
theorem dX1_readFare_120 : decode cX1_readFare 120 = .ok (.bipush 41, 2) := by decide +kernel
theorem dX1_readFare_122 : decode cX1_readFare 122 = .ok (.invokevirtual 168, 3) := by decide +kernel
theorem dX1_readFare_125 : decode cX1_readFare 125 = .ok (.ifCond .eq 20, 3) := by decide +kernel
theorem dX1_readFare_128 : decode cX1_readFare 128 = .ok (.iinc 1 (-1), 3) := by decide +kernel
theorem dX1_readFare_131 : decode cX1_readFare 131 = .ok (.aload_n 0, 1) := by decide +kernel
theorem dX1_readFare_132 : decode cX1_readFare 132 = .ok (.invokevirtual 185, 3) := by decide +kernel
theorem dX1_readFare_135 : decode cX1_readFare 135 = .ok (.aload_n 0, 1) := by decide +kernel
theorem dX1_readFare_136 : decode cX1_readFare 136 = .ok (.invokevirtual 57, 3) := by decide +kernel
theorem dX1_readFare_139 : decode cX1_readFare 139 = .ok (.iinc 3 (-1), 3) := by decide +kernel
theorem dX1_readFare_142 : decode cX1_readFare 142 = .ok (.goto (-105), 3) := by decide +kernel
theorem dX1_readFare_145 : decode cX1_readFare 145 = .ok (.iload_n 1, 1) := by decide +kernel
theorem dX1_readFare_146 : decode cX1_readFare 146 = .ok (.ifCond .gt 7, 3) := by decide +kernel
theorem dX1_readFare_149 : decode cX1_readFare 149 = .ok (.iload_n 2, 1) := by decide +kernel
theorem dX1_readFare_150 : decode cX1_readFare 150 = .ok (.ifCond .eq 8, 3) := by decide +kernel
theorem dX1_readFare_153 : decode cX1_readFare 153 = .ok (.aload_n 0, 1) := by decide +kernel
theorem dX1_readFare_154 : decode cX1_readFare 154 = .ok (.iconst 1, 1) := by decide +kernel
theorem dX1_readFare_155 : decode cX1_readFare 155 = .ok (.invokevirtual 109, 3) := by decide +kernel
theorem dX1_readFare_158 : decode cX1_readFare 158 = .ok (.aload_n 0, 1) := by decide +kernel
theorem dX1_readFare_159 : decode cX1_readFare 159 = .ok (.iconst 1, 1) := by decide +kernel
theorem dX1_readFare_160 : decode cX1_readFare 160 = .ok (.invokevirtual 188, 3) := by decide +kernel
theorem dX1_readFare_163 : decode cX1_readFare 163 = .ok (.return_, 1) := by decide +kernel
theorem dX1_takeFactor_0 : decode cX1_takeFactor 0 = .ok (.aload_n 0, 1) := by decide +kernel
theorem dX1_takeFactor_1 : decode cX1_takeFactor 1 = .ok (.getfield 60, 3) := by decide +kernel
theorem dX1_takeFactor_4 : decode cX1_takeFactor 4 = .ok (.iconst 2, 1) := by decide +kernel
theorem dX1_takeFactor_5 : decode cX1_takeFactor 5 = .ok (.if_icmp .ne 20, 3) := by decide +kernel
theorem dX1_takeFactor_8 : decode cX1_takeFactor 8 = .ok (.aload_n 0, 1) := by decide +kernel
theorem dX1_takeFactor_9 : decode cX1_takeFactor 9 = .ok (.getfield 29, 3) := by decide +kernel
theorem dX1_takeFactor_12 : decode cX1_takeFactor 12 = .ok (.getfield 159, 3) := by decide +kernel
theorem dX1_takeFactor_15 : decode cX1_takeFactor 15 = .ok (.aload_n 0, 1) := by decide +kernel
theorem dX1_takeFactor_16 : decode cX1_takeFactor 16 = .ok (.getfield 191, 3) := by decide +kernel
theorem dX1_takeFactor_19 : decode cX1_takeFactor 19 = .ok (.invokevirtual 194, 3) := by decide +kernel
theorem dX1_takeFactor_22 : decode cX1_takeFactor 22 = .ok (.goto 103, 3) := by decide +kernel
theorem dX1_takeFactor_25 : decode cX1_takeFactor 25 = .ok (.aload_n 0, 1) := by decide +kernel
theorem dX1_takeFactor_26 : decode cX1_takeFactor 26 = .ok (.ldc 197, 2) := by decide +kernel
theorem dX1_takeFactor_28 : decode cX1_takeFactor 28 = .ok (.invokevirtual 72, 3) := by decide +kernel
theorem dX1_takeFactor_31 : decode cX1_takeFactor 31 = .ok (.ifCond .eq 17, 3) := by decide +kernel
theorem dX1_takeFactor_34 : decode cX1_takeFactor 34 = .ok (.aload_n 0, 1) := by decide +kernel
theorem dX1_takeFactor_35 : decode cX1_takeFactor 35 = .ok (.getfield 29, 3) := by decide +kernel
theorem dX1_takeFactor_38 : decode cX1_takeFactor 38 = .ok (.getfield 159, 3) := by decide +kernel
theorem dX1_takeFactor_41 : decode cX1_takeFactor 41 = .ok (.iconst (-1), 1) := by decide +kernel
theorem dX1_takeFactor_42 : decode cX1_takeFactor 42 = .ok (.invokevirtual 194, 3) := by decide +kernel
theorem dX1_takeFactor_45 : decode cX1_takeFactor 45 = .ok (.goto 80, 3) := by decide +kernel
theorem dX1_takeFactor_48 : decode cX1_takeFactor 48 = .ok (.aload_n 0, 1) := by decide +kernel
theorem dX1_takeFactor_49 : decode cX1_takeFactor 49 = .ok (.ldc 199, 2) := by decide +kernel
theorem dX1_takeFactor_51 : decode cX1_takeFactor 51 = .ok (.invokevirtual 72, 3) := by decide +kernel
theorem dX1_takeFactor_54 : decode cX1_takeFactor 54 = .ok (.ifCond .eq 18, 3) := by decide +kernel
theorem dX1_takeFactor_57 : decode cX1_takeFactor 57 = .ok (.aload_n 0, 1) := by decide +kernel
theorem dX1_takeFactor_58 : decode cX1_takeFactor 58 = .ok (.getfield 29, 3) := by decide +kernel
theorem dX1_takeFactor_61 : decode cX1_takeFactor 61 = .ok (.getfield 159, 3) := by decide +kernel
theorem dX1_takeFactor_64 : decode cX1_takeFactor 64 = .ok (.bipush (-2), 2) := by decide +kernel
theorem dX1_takeFactor_66 : decode cX1_takeFactor 66 = .ok (.invokevirtual 194, 3) := by decide +kernel
theorem dX1_takeFactor_69 : decode cX1_takeFactor 69 = .ok (.goto 56, 3) := by decide +kernel
theorem dX1_takeFactor_72 : decode cX1_takeFactor 72 = .ok (.aload_n 0, 1) := by decide +kernel
theorem dX1_takeFactor_73 : decode cX1_takeFactor 73 = .ok (.ldc 201, 2) := by decide +kernel
theorem dX1_takeFactor_75 : decode cX1_takeFactor 75 = .ok (.invokevirtual 72, 3) := by decide +kernel
theorem dX1_takeFactor_78 : decode cX1_takeFactor 78 = .ok (.ifCond .eq 18, 3) := by decide +kernel
theorem dX1_takeFactor_81 : decode cX1_takeFactor 81 = .ok (.aload_n 0, 1) := by decide +kernel
theorem dX1_takeFactor_82 : decode cX1_takeFactor 82 = .ok (.getfield 29, 3) := by decide +kernel
theorem dX1_takeFactor_85 : decode cX1_takeFactor 85 = .ok (.getfield 159, 3) := by decide +kernel
theorem dX1_takeFactor_88 : decode cX1_takeFactor 88 = .ok (.bipush (-3), 2) := by decide +kernel
theorem dX1_takeFactor_90 : decode cX1_takeFactor 90 = .ok (.invokevirtual 194, 3) := by decide +kernel
theorem dX1_takeFactor_93 : decode cX1_takeFactor 93 = .ok (.goto 32, 3) := by decide +kernel
theorem dX1_takeFactor_96 : decode cX1_takeFactor 96 = .ok (.aload_n 0, 1) := by decide +kernel
theorem dX1_takeFactor_97 : decode cX1_takeFactor 97 = .ok (.ldc 203, 2) := by decide +kernel
theorem dX1_takeFactor_99 : decode cX1_takeFactor 99 = .ok (.invokevirtual 72, 3) := by decide +kernel
theorem dX1_takeFactor_102 : decode cX1_takeFactor 102 = .ok (.ifCond .eq 18, 3) := by decide +kernel
theorem dX1_takeFactor_105 : decode cX1_takeFactor 105 = .ok (.aload_n 0, 1) := by decide +kernel
theorem dX1_takeFactor_106 : decode cX1_takeFactor 106 = .ok (.getfield 29, 3) := by decide +kernel
theorem dX1_takeFactor_109 : decode cX1_takeFactor 109 = .ok (.getfield 159, 3) := by decide +kernel
theorem dX1_takeFactor_112 : decode cX1_takeFactor 112 = .ok (.bipush (-4), 2) := by decide +kernel
theorem dX1_takeFactor_114 : decode cX1_takeFactor 114 = .ok (.invokevirtual 194, 3) := by decide +kernel
theorem dX1_takeFactor_117 : decode cX1_takeFactor 117 = .ok (.goto 8, 3) := by decide +kernel
theorem dX1_takeFactor_120 : decode cX1_takeFactor 120 = .ok (.aload_n 0, 1) := by decide +kernel
theorem dX1_takeFactor_121 : decode cX1_takeFactor 121 = .ok (.iconst 1, 1) := by decide +kernel
theorem dX1_takeFactor_122 : decode cX1_takeFactor 122 = .ok (.invokevirtual 109, 3) := by decide +kernel
theorem dX1_takeFactor_125 : decode cX1_takeFactor 125 = .ok (.return_, 1) := by decide +kernel
theorem dX1_operatorOfToken_0 : decode cX1_operatorOfToken 0 = .ok (.aload_n 0, 1) := by decide +kernel
theorem dX1_operatorOfToken_1 : decode cX1_operatorOfToken 1 = .ok (.getfield 60, 3) := by decide +kernel
theorem dX1_operatorOfToken_4 : decode cX1_operatorOfToken 4 = .ok (.iconst 3, 1) := by decide +kernel
theorem dX1_operatorOfToken_5 : decode cX1_operatorOfToken 5 = .ok (.if_icmp .eq 5, 3) := by decide +kernel
theorem dX1_operatorOfToken_8 : decode cX1_operatorOfToken 8 = .ok (.iconst 0, 1) := by decide +kernel
theorem dX1_operatorOfToken_9 : decode cX1_operatorOfToken 9 = .ok (.ireturn, 1) := by decide +kernel
theorem dX1_operatorOfToken_10 : decode cX1_operatorOfToken 10 = .ok (.aload_n 0, 1) := by decide +kernel
theorem dX1_operatorOfToken_11 : decode cX1_operatorOfToken 11 = .ok (.getfield 191, 3) := by decide +kernel
theorem dX1_operatorOfToken_14 : decode cX1_operatorOfToken 14 = .ok (.tableswitch 50 42 47 #[44, 38, 50, 41, 50, 47], 38) := by decide +kernel
theorem dX1_operatorOfToken_52 : decode cX1_operatorOfToken 52 = .ok (.bipush (-5), 2) := by decide +kernel
theorem dX1_operatorOfToken_54 : decode cX1_operatorOfToken 54 = .ok (.ireturn, 1) := by decide +kernel
theorem dX1_operatorOfToken_55 : decode cX1_operatorOfToken 55 = .ok (.bipush (-6), 2) := by decide +kernel
theorem dX1_operatorOfToken_57 : decode cX1_operatorOfToken 57 = .ok (.ireturn, 1) := by decide +kernel
theorem dX1_operatorOfToken_58 : decode cX1_operatorOfToken 58 = .ok (.bipush (-7), 2) := by decide +kernel
theorem dX1_operatorOfToken_60 : decode cX1_operatorOfToken 60 = .ok (.ireturn, 1) := by decide +kernel
theorem dX1_operatorOfToken_61 : decode cX1_operatorOfToken 61 = .ok (.bipush (-8), 2) := by decide +kernel
theorem dX1_operatorOfToken_63 : decode cX1_operatorOfToken 63 = .ok (.ireturn, 1) := by decide +kernel
theorem dX1_operatorOfToken_64 : decode cX1_operatorOfToken 64 = .ok (.iconst 0, 1) := by decide +kernel
theorem dX1_operatorOfToken_65 : decode cX1_operatorOfToken 65 = .ok (.ireturn, 1) := by decide +kernel
theorem dX1_rank_0 : decode cX1_rank 0 = .ok (.iload_n 0, 1) := by decide +kernel
theorem dX1_rank_1 : decode cX1_rank 1 = .ok (.ifCond .ne 5, 3) := by decide +kernel
theorem dX1_rank_4 : decode cX1_rank 4 = .ok (.iconst 0, 1) := by decide +kernel
theorem dX1_rank_5 : decode cX1_rank 5 = .ok (.ireturn, 1) := by decide +kernel
theorem dX1_rank_6 : decode cX1_rank 6 = .ok (.iload_n 0, 1) := by decide +kernel
theorem dX1_rank_7 : decode cX1_rank 7 = .ok (.bipush (-5), 2) := by decide +kernel
theorem dX1_rank_9 : decode cX1_rank 9 = .ok (.if_icmp .eq 9, 3) := by decide +kernel
theorem dX1_rank_12 : decode cX1_rank 12 = .ok (.iload_n 0, 1) := by decide +kernel
theorem dX1_rank_13 : decode cX1_rank 13 = .ok (.bipush (-6), 2) := by decide +kernel
theorem dX1_rank_15 : decode cX1_rank 15 = .ok (.if_icmp .ne 7, 3) := by decide +kernel
theorem dX1_rank_18 : decode cX1_rank 18 = .ok (.iconst 1, 1) := by decide +kernel
theorem dX1_rank_19 : decode cX1_rank 19 = .ok (.goto 4, 3) := by decide +kernel
theorem dX1_rank_22 : decode cX1_rank 22 = .ok (.iconst 2, 1) := by decide +kernel
theorem dX1_rank_23 : decode cX1_rank 23 = .ok (.ireturn, 1) := by decide +kernel
theorem dX1_takeOperator_0 : decode cX1_takeOperator 0 = .ok (.aload_n 0, 1) := by decide +kernel
theorem dX1_takeOperator_1 : decode cX1_takeOperator 1 = .ok (.iload_n 1, 1) := by decide +kernel
theorem dX1_takeOperator_2 : decode cX1_takeOperator 2 = .ok (.invokestatic 205, 3) := by decide +kernel
theorem dX1_takeOperator_5 : decode cX1_takeOperator 5 = .ok (.invokevirtual 188, 3) := by decide +kernel
theorem dX1_takeOperator_8 : decode cX1_takeOperator 8 = .ok (.aload_n 0, 1) := by decide +kernel
theorem dX1_takeOperator_9 : decode cX1_takeOperator 9 = .ok (.iload_n 1, 1) := by decide +kernel
theorem dX1_takeOperator_10 : decode cX1_takeOperator 10 = .ok (.invokevirtual 172, 3) := by decide +kernel
theorem dX1_takeOperator_13 : decode cX1_takeOperator 13 = .ok (.return_, 1) := by decide +kernel
theorem dX1_holdOperator_0 : decode cX1_holdOperator 0 = .ok (.aload_n 0, 1) := by decide +kernel
theorem dX1_holdOperator_1 : decode cX1_holdOperator 1 = .ok (.getfield 165, 3) := by decide +kernel
theorem dX1_holdOperator_4 : decode cX1_holdOperator 4 = .ok (.aload_n 0, 1) := by decide +kernel
theorem dX1_holdOperator_5 : decode cX1_holdOperator 5 = .ok (.getfield 9, 3) := by decide +kernel
theorem dX1_holdOperator_8 : decode cX1_holdOperator 8 = .ok (.arraylength, 1) := by decide +kernel
theorem dX1_holdOperator_9 : decode cX1_holdOperator 9 = .ok (.if_icmp .ge 23, 3) := by decide +kernel
theorem dX1_holdOperator_12 : decode cX1_holdOperator 12 = .ok (.aload_n 0, 1) := by decide +kernel
theorem dX1_holdOperator_13 : decode cX1_holdOperator 13 = .ok (.getfield 9, 3) := by decide +kernel
theorem dX1_holdOperator_16 : decode cX1_holdOperator 16 = .ok (.aload_n 0, 1) := by decide +kernel
theorem dX1_holdOperator_17 : decode cX1_holdOperator 17 = .ok (.getfield 165, 3) := by decide +kernel
theorem dX1_holdOperator_20 : decode cX1_holdOperator 20 = .ok (.iload_n 1, 1) := by decide +kernel
theorem dX1_holdOperator_21 : decode cX1_holdOperator 21 = .ok (.iastore, 1) := by decide +kernel
theorem dX1_holdOperator_22 : decode cX1_holdOperator 22 = .ok (.aload_n 0, 1) := by decide +kernel
theorem dX1_holdOperator_23 : decode cX1_holdOperator 23 = .ok (.dup, 1) := by decide +kernel
theorem dX1_holdOperator_24 : decode cX1_holdOperator 24 = .ok (.getfield 165, 3) := by decide +kernel
theorem dX1_holdOperator_27 : decode cX1_holdOperator 27 = .ok (.iconst 1, 1) := by decide +kernel
theorem dX1_holdOperator_28 : decode cX1_holdOperator 28 = .ok (.iadd, 1) := by decide +kernel
theorem dX1_holdOperator_29 : decode cX1_holdOperator 29 = .ok (.putfield 165, 3) := by decide +kernel
theorem dX1_holdOperator_32 : decode cX1_holdOperator 32 = .ok (.return_, 1) := by decide +kernel
theorem dX1_releaseOperators_0 : decode cX1_releaseOperators 0 = .ok (.aload_n 0, 1) := by decide +kernel
theorem dX1_releaseOperators_1 : decode cX1_releaseOperators 1 = .ok (.getfield 165, 3) := by decide +kernel
theorem dX1_releaseOperators_4 : decode cX1_releaseOperators 4 = .ok (.ifCond .le 55, 3) := by decide +kernel
theorem dX1_releaseOperators_7 : decode cX1_releaseOperators 7 = .ok (.aload_n 0, 1) := by decide +kernel
theorem dX1_releaseOperators_8 : decode cX1_releaseOperators 8 = .ok (.getfield 9, 3) := by decide +kernel
theorem dX1_releaseOperators_11 : decode cX1_releaseOperators 11 = .ok (.aload_n 0, 1) := by decide +kernel
theorem dX1_releaseOperators_12 : decode cX1_releaseOperators 12 = .ok (.getfield 165, 3) := by decide +kernel
theorem dX1_releaseOperators_15 : decode cX1_releaseOperators 15 = .ok (.iconst 1, 1) := by decide +kernel
theorem dX1_releaseOperators_16 : decode cX1_releaseOperators 16 = .ok (.isub, 1) := by decide +kernel
theorem dX1_releaseOperators_17 : decode cX1_releaseOperators 17 = .ok (.iaload, 1) := by decide +kernel
theorem dX1_releaseOperators_18 : decode cX1_releaseOperators 18 = .ok (.invokestatic 205, 3) := by decide +kernel
theorem dX1_releaseOperators_21 : decode cX1_releaseOperators 21 = .ok (.iload_n 1, 1) := by decide +kernel
theorem dX1_releaseOperators_22 : decode cX1_releaseOperators 22 = .ok (.if_icmp .lt 37, 3) := by decide +kernel
theorem dX1_releaseOperators_25 : decode cX1_releaseOperators 25 = .ok (.aload_n 0, 1) := by decide +kernel
theorem dX1_releaseOperators_26 : decode cX1_releaseOperators 26 = .ok (.getfield 29, 3) := by decide +kernel
theorem dX1_releaseOperators_29 : decode cX1_releaseOperators 29 = .ok (.getfield 159, 3) := by decide +kernel
theorem dX1_releaseOperators_32 : decode cX1_releaseOperators 32 = .ok (.aload_n 0, 1) := by decide +kernel
theorem dX1_releaseOperators_33 : decode cX1_releaseOperators 33 = .ok (.getfield 9, 3) := by decide +kernel
theorem dX1_releaseOperators_36 : decode cX1_releaseOperators 36 = .ok (.aload_n 0, 1) := by decide +kernel
theorem dX1_releaseOperators_37 : decode cX1_releaseOperators 37 = .ok (.getfield 165, 3) := by decide +kernel
theorem dX1_releaseOperators_40 : decode cX1_releaseOperators 40 = .ok (.iconst 1, 1) := by decide +kernel
theorem dX1_releaseOperators_41 : decode cX1_releaseOperators 41 = .ok (.isub, 1) := by decide +kernel
theorem dX1_releaseOperators_42 : decode cX1_releaseOperators 42 = .ok (.iaload, 1) := by decide +kernel
theorem dX1_releaseOperators_43 : decode cX1_releaseOperators 43 = .ok (.invokevirtual 194, 3) := by decide +kernel
theorem dX1_releaseOperators_46 : decode cX1_releaseOperators 46 = .ok (.aload_n 0, 1) := by decide +kernel
theorem dX1_releaseOperators_47 : decode cX1_releaseOperators 47 = .ok (.dup, 1) := by decide +kernel
theorem dX1_releaseOperators_48 : decode cX1_releaseOperators 48 = .ok (.getfield 165, 3) := by decide +kernel
theorem dX1_releaseOperators_51 : decode cX1_releaseOperators 51 = .ok (.iconst 1, 1) := by decide +kernel
theorem dX1_releaseOperators_52 : decode cX1_releaseOperators 52 = .ok (.isub, 1) := by decide +kernel
theorem dX1_releaseOperators_53 : decode cX1_releaseOperators 53 = .ok (.putfield 165, 3) := by decide +kernel
theorem dX1_releaseOperators_56 : decode cX1_releaseOperators 56 = .ok (.goto (-56), 3) := by decide +kernel
theorem dX1_releaseOperators_59 : decode cX1_releaseOperators 59 = .ok (.return_, 1) := by decide +kernel
theorem dX1_closeParenthesis_0 : decode cX1_closeParenthesis 0 = .ok (.aload_n 0, 1) := by decide +kernel
theorem dX1_closeParenthesis_1 : decode cX1_closeParenthesis 1 = .ok (.iconst 1, 1) := by decide +kernel
theorem dX1_closeParenthesis_2 : decode cX1_closeParenthesis 2 = .ok (.invokevirtual 188, 3) := by decide +kernel
theorem dX1_closeParenthesis_5 : decode cX1_closeParenthesis 5 = .ok (.aload_n 0, 1) := by decide +kernel
theorem dX1_closeParenthesis_6 : decode cX1_closeParenthesis 6 = .ok (.getfield 165, 3) := by decide +kernel
theorem dX1_closeParenthesis_9 : decode cX1_closeParenthesis 9 = .ok (.ifCond .le 13, 3) := by decide +kernel
theorem dX1_closeParenthesis_12 : decode cX1_closeParenthesis 12 = .ok (.aload_n 0, 1) := by decide +kernel
theorem dX1_closeParenthesis_13 : decode cX1_closeParenthesis 13 = .ok (.dup, 1) := by decide +kernel
theorem dX1_closeParenthesis_14 : decode cX1_closeParenthesis 14 = .ok (.getfield 165, 3) := by decide +kernel
theorem dX1_closeParenthesis_17 : decode cX1_closeParenthesis 17 = .ok (.iconst 1, 1) := by decide +kernel
theorem dX1_closeParenthesis_18 : decode cX1_closeParenthesis 18 = .ok (.isub, 1) := by decide +kernel
theorem dX1_closeParenthesis_19 : decode cX1_closeParenthesis 19 = .ok (.putfield 165, 3) := by decide +kernel
theorem dX1_closeParenthesis_22 : decode cX1_closeParenthesis 22 = .ok (.return_, 1) := by decide +kernel
theorem dX1_takeCountedWord_0 : decode cX1_takeCountedWord 0 = .ok (.iload_n 1, 1) := by decide +kernel
theorem dX1_takeCountedWord_1 : decode cX1_takeCountedWord 1 = .ok (.iload_n 2, 1) := by decide +kernel
theorem dX1_takeCountedWord_2 : decode cX1_takeCountedWord 2 = .ok (.if_icmp .lt 8, 3) := by decide +kernel
theorem dX1_takeCountedWord_5 : decode cX1_takeCountedWord 5 = .ok (.aload_n 0, 1) := by decide +kernel
theorem dX1_takeCountedWord_6 : decode cX1_takeCountedWord 6 = .ok (.iconst 4, 1) := by decide +kernel
theorem dX1_takeCountedWord_7 : decode cX1_takeCountedWord 7 = .ok (.invokevirtual 109, 3) := by decide +kernel
theorem dX1_takeCountedWord_10 : decode cX1_takeCountedWord 10 = .ok (.aload_n 0, 1) := by decide +kernel
theorem dX1_takeCountedWord_11 : decode cX1_takeCountedWord 11 = .ok (.invokevirtual 57, 3) := by decide +kernel
theorem dX1_takeCountedWord_14 : decode cX1_takeCountedWord 14 = .ok (.return_, 1) := by decide +kernel
theorem dX1_takeSingleWord_0 : decode cX1_takeSingleWord 0 = .ok (.iload_n 1, 1) := by decide +kernel
theorem dX1_takeSingleWord_1 : decode cX1_takeSingleWord 1 = .ok (.ifCond .eq 8, 3) := by decide +kernel
theorem dX1_takeSingleWord_4 : decode cX1_takeSingleWord 4 = .ok (.aload_n 0, 1) := by decide +kernel
theorem dX1_takeSingleWord_5 : decode cX1_takeSingleWord 5 = .ok (.iconst 2, 1) := by decide +kernel
theorem dX1_takeSingleWord_6 : decode cX1_takeSingleWord 6 = .ok (.invokevirtual 109, 3) := by decide +kernel
theorem dX1_takeSingleWord_9 : decode cX1_takeSingleWord 9 = .ok (.aload_n 0, 1) := by decide +kernel
theorem dX1_takeSingleWord_10 : decode cX1_takeSingleWord 10 = .ok (.invokevirtual 57, 3) := by decide +kernel
theorem dX1_takeSingleWord_13 : decode cX1_takeSingleWord 13 = .ok (.return_, 1) := by decide +kernel
theorem dX1_takeNumber_0 : decode cX1_takeNumber 0 = .ok (.aload_n 0, 1) := by decide +kernel
theorem dX1_takeNumber_1 : decode cX1_takeNumber 1 = .ok (.getfield 191, 3) := by decide +kernel
theorem dX1_takeNumber_4 : decode cX1_takeNumber 4 = .ok (.istore_n 3, 1) := by decide +kernel
theorem dX1_takeNumber_5 : decode cX1_takeNumber 5 = .ok (.aload_n 0, 1) := by decide +kernel
theorem dX1_takeNumber_6 : decode cX1_takeNumber 6 = .ok (.getfield 60, 3) := by decide +kernel
theorem dX1_takeNumber_9 : decode cX1_takeNumber 9 = .ok (.iconst 2, 1) := by decide +kernel
theorem dX1_takeNumber_10 : decode cX1_takeNumber 10 = .ok (.if_icmp .eq 11, 3) := by decide +kernel
theorem dX1_takeNumber_13 : decode cX1_takeNumber 13 = .ok (.aload_n 0, 1) := by decide +kernel
theorem dX1_takeNumber_14 : decode cX1_takeNumber 14 = .ok (.iconst 1, 1) := by decide +kernel
theorem dX1_takeNumber_15 : decode cX1_takeNumber 15 = .ok (.invokevirtual 109, 3) := by decide +kernel
theorem dX1_takeNumber_18 : decode cX1_takeNumber 18 = .ok (.goto 18, 3) := by decide +kernel
theorem dX1_takeNumber_21 : decode cX1_takeNumber 21 = .ok (.iload_n 3, 1) := by decide +kernel
theorem dX1_takeNumber_22 : decode cX1_takeNumber 22 = .ok (.iload_n 1, 1) := by decide +kernel
theorem dX1_takeNumber_23 : decode cX1_takeNumber 23 = .ok (.if_icmp .lt 8, 3) := by decide +kernel
theorem dX1_takeNumber_26 : decode cX1_takeNumber 26 = .ok (.iload_n 3, 1) := by decide +kernel
theorem dX1_takeNumber_27 : decode cX1_takeNumber 27 = .ok (.iload_n 2, 1) := by decide +kernel
theorem dX1_takeNumber_28 : decode cX1_takeNumber 28 = .ok (.if_icmp .le 8, 3) := by decide +kernel
theorem dX1_takeNumber_31 : decode cX1_takeNumber 31 = .ok (.aload_n 0, 1) := by decide +kernel
theorem dX1_takeNumber_32 : decode cX1_takeNumber 32 = .ok (.iconst 3, 1) := by decide +kernel
theorem dX1_takeNumber_33 : decode cX1_takeNumber 33 = .ok (.invokevirtual 109, 3) := by decide +kernel
theorem dX1_takeNumber_36 : decode cX1_takeNumber 36 = .ok (.aload_n 0, 1) := by decide +kernel
theorem dX1_takeNumber_37 : decode cX1_takeNumber 37 = .ok (.invokevirtual 57, 3) := by decide +kernel
theorem dX1_takeNumber_40 : decode cX1_takeNumber 40 = .ok (.iload_n 3, 1) := by decide +kernel
theorem dX1_takeNumber_41 : decode cX1_takeNumber 41 = .ok (.ireturn, 1) := by decide +kernel
theorem dX1_expectSign_0 : decode cX1_expectSign 0 = .ok (.aload_n 0, 1) := by decide +kernel
theorem dX1_expectSign_1 : decode cX1_expectSign 1 = .ok (.iload_n 1, 1) := by decide +kernel
theorem dX1_expectSign_2 : decode cX1_expectSign 2 = .ok (.invokevirtual 168, 3) := by decide +kernel
theorem dX1_expectSign_5 : decode cX1_expectSign 5 = .ok (.ifCond .ne 8, 3) := by decide +kernel
theorem dX1_expectSign_8 : decode cX1_expectSign 8 = .ok (.aload_n 0, 1) := by decide +kernel
theorem dX1_expectSign_9 : decode cX1_expectSign 9 = .ok (.iconst 1, 1) := by decide +kernel
theorem dX1_expectSign_10 : decode cX1_expectSign 10 = .ok (.invokevirtual 109, 3) := by decide +kernel
theorem dX1_expectSign_13 : decode cX1_expectSign 13 = .ok (.aload_n 0, 1) := by decide +kernel
theorem dX1_expectSign_14 : decode cX1_expectSign 14 = .ok (.invokevirtual 57, 3) := by decide +kernel
theorem dX1_expectSign_17 : decode cX1_expectSign 17 = .ok (.return_, 1) := by decide +kernel
theorem dX1_fail_0 : decode cX1_fail 0 = .ok (.aload_n 0, 1) := by decide +kernel
theorem dX1_fail_1 : decode cX1_fail 1 = .ok (.getfield 41, 3) := by decide +kernel
theorem dX1_fail_4 : decode cX1_fail 4 = .ok (.ifCond .ne 16, 3) := by decide +kernel
theorem dX1_fail_7 : decode cX1_fail 7 = .ok (.aload_n 0, 1) := by decide +kernel
theorem dX1_fail_8 : decode cX1_fail 8 = .ok (.bipush 8, 2) := by decide +kernel
theorem dX1_fail_10 : decode cX1_fail 10 = .ok (.aload_n 0, 1) := by decide +kernel
theorem dX1_fail_11 : decode cX1_fail 11 = .ok (.getfield 209, 3) := by decide +kernel
theorem dX1_fail_14 : decode cX1_fail 14 = .ok (.imul, 1) := by decide +kernel
theorem dX1_fail_15 : decode cX1_fail 15 = .ok (.iload_n 1, 1) := by decide +kernel
theorem dX1_fail_16 : decode cX1_fail 16 = .ok (.iadd, 1) := by decide +kernel
theorem dX1_fail_17 : decode cX1_fail 17 = .ok (.putfield 41, 3) := by decide +kernel
theorem dX1_fail_20 : decode cX1_fail 20 = .ok (.return_, 1) := by decide +kernel
theorem dX1_isSign_0 : decode cX1_isSign 0 = .ok (.aload_n 0, 1) := by decide +kernel
theorem dX1_isSign_1 : decode cX1_isSign 1 = .ok (.getfield 60, 3) := by decide +kernel
theorem dX1_isSign_4 : decode cX1_isSign 4 = .ok (.iconst 3, 1) := by decide +kernel
theorem dX1_isSign_5 : decode cX1_isSign 5 = .ok (.if_icmp .ne 15, 3) := by decide +kernel
theorem dX1_isSign_8 : decode cX1_isSign 8 = .ok (.aload_n 0, 1) := by decide +kernel
theorem dX1_isSign_9 : decode cX1_isSign 9 = .ok (.getfield 191, 3) := by decide +kernel
theorem dX1_isSign_12 : decode cX1_isSign 12 = .ok (.iload_n 1, 1) := by decide +kernel
theorem dX1_isSign_13 : decode cX1_isSign 13 = .ok (.if_icmp .ne 7, 3) := by decide +kernel
theorem dX1_isSign_16 : decode cX1_isSign 16 = .ok (.iconst 1, 1) := by decide +kernel
theorem dX1_isSign_17 : decode cX1_isSign 17 = .ok (.goto 4, 3) := by decide +kernel
theorem dX1_isSign_20 : decode cX1_isSign 20 = .ok (.iconst 0, 1) := by decide +kernel
theorem dX1_isSign_21 : decode cX1_isSign 21 = .ok (.ireturn, 1) := by decide +kernel
theorem dX1_isWord_0 : decode cX1_isWord 0 = .ok (.aload_n 0, 1) := by decide +kernel
theorem dX1_isWord_1 : decode cX1_isWord 1 = .ok (.getfield 60, 3) := by decide +kernel
theorem dX1_isWord_4 : decode cX1_isWord 4 = .ok (.iconst 1, 1) := by decide +kernel
theorem dX1_isWord_5 : decode cX1_isWord 5 = .ok (.if_icmp .ne 19, 3) := by decide +kernel
theorem dX1_isWord_8 : decode cX1_isWord 8 = .ok (.aload_n 0, 1) := by decide +kernel
theorem dX1_isWord_9 : decode cX1_isWord 9 = .ok (.getfield 38, 3) := by decide +kernel
theorem dX1_isWord_12 : decode cX1_isWord 12 = .ok (.aload_n 0, 1) := by decide +kernel
theorem dX1_isWord_13 : decode cX1_isWord 13 = .ok (.getfield 209, 3) := by decide +kernel
theorem dX1_isWord_16 : decode cX1_isWord 16 = .ok (.isub, 1) := by decide +kernel
theorem dX1_isWord_17 : decode cX1_isWord 17 = .ok (.aload_n 1, 1) := by decide +kernel
theorem dX1_isWord_18 : decode cX1_isWord 18 = .ok (.invokevirtual 212, 3) := by decide +kernel
theorem dX1_isWord_21 : decode cX1_isWord 21 = .ok (.if_icmp .eq 5, 3) := by decide +kernel
theorem dX1_isWord_24 : decode cX1_isWord 24 = .ok (.iconst 0, 1) := by decide +kernel
theorem dX1_isWord_25 : decode cX1_isWord 25 = .ok (.ireturn, 1) := by decide +kernel
theorem dX1_isWord_26 : decode cX1_isWord 26 = .ok (.iconst 0, 1) := by decide +kernel
theorem dX1_isWord_27 : decode cX1_isWord 27 = .ok (.istore_n 2, 1) := by decide +kernel
theorem dX1_isWord_28 : decode cX1_isWord 28 = .ok (.iload_n 2, 1) := by decide +kernel
theorem dX1_isWord_29 : decode cX1_isWord 29 = .ok (.aload_n 1, 1) := by decide +kernel
theorem dX1_isWord_30 : decode cX1_isWord 30 = .ok (.invokevirtual 212, 3) := by decide +kernel
theorem dX1_isWord_33 : decode cX1_isWord 33 = .ok (.if_icmp .ge 30, 3) := by decide +kernel
theorem dX1_isWord_36 : decode cX1_isWord 36 = .ok (.aload_n 0, 1) := by decide +kernel
theorem dX1_isWord_37 : decode cX1_isWord 37 = .ok (.getfield 15, 3) := by decide +kernel
theorem dX1_isWord_40 : decode cX1_isWord 40 = .ok (.aload_n 0, 1) := by decide +kernel
theorem dX1_isWord_41 : decode cX1_isWord 41 = .ok (.getfield 209, 3) := by decide +kernel
theorem dX1_isWord_44 : decode cX1_isWord 44 = .ok (.iload_n 2, 1) := by decide +kernel
theorem dX1_isWord_45 : decode cX1_isWord 45 = .ok (.iadd, 1) := by decide +kernel
theorem dX1_isWord_46 : decode cX1_isWord 46 = .ok (.baload, 1) := by decide +kernel
theorem dX1_isWord_47 : decode cX1_isWord 47 = .ok (.aload_n 1, 1) := by decide +kernel
theorem dX1_isWord_48 : decode cX1_isWord 48 = .ok (.iload_n 2, 1) := by decide +kernel
theorem dX1_isWord_49 : decode cX1_isWord 49 = .ok (.invokevirtual 216, 3) := by decide +kernel
theorem dX1_isWord_52 : decode cX1_isWord 52 = .ok (.if_icmp .eq 5, 3) := by decide +kernel
theorem dX1_isWord_55 : decode cX1_isWord 55 = .ok (.iconst 0, 1) := by decide +kernel
theorem dX1_isWord_56 : decode cX1_isWord 56 = .ok (.ireturn, 1) := by decide +kernel
theorem dX1_isWord_57 : decode cX1_isWord 57 = .ok (.iinc 2 1, 3) := by decide +kernel
theorem dX1_isWord_60 : decode cX1_isWord 60 = .ok (.goto (-32), 3) := by decide +kernel
theorem dX1_isWord_63 : decode cX1_isWord 63 = .ok (.iconst 1, 1) := by decide +kernel
theorem dX1_isWord_64 : decode cX1_isWord 64 = .ok (.ireturn, 1) := by decide +kernel
theorem dX1_nextToken_0 : decode cX1_nextToken 0 = .ok (.aload_n 0, 1) := by decide +kernel
theorem dX1_nextToken_1 : decode cX1_nextToken 1 = .ok (.aload_n 0, 1) := by decide +kernel
theorem dX1_nextToken_2 : decode cX1_nextToken 2 = .ok (.getfield 38, 3) := by decide +kernel
theorem dX1_nextToken_5 : decode cX1_nextToken 5 = .ok (.putfield 209, 3) := by decide +kernel
theorem dX1_nextToken_8 : decode cX1_nextToken 8 = .ok (.aload_n 0, 1) := by decide +kernel
theorem dX1_nextToken_9 : decode cX1_nextToken 9 = .ok (.getfield 209, 3) := by decide +kernel
theorem dX1_nextToken_12 : decode cX1_nextToken 12 = .ok (.aload_n 0, 1) := by decide +kernel
theorem dX1_nextToken_13 : decode cX1_nextToken 13 = .ok (.getfield 25, 3) := by decide +kernel
theorem dX1_nextToken_16 : decode cX1_nextToken 16 = .ok (.if_icmp .ge 44, 3) := by decide +kernel
theorem dX1_nextToken_19 : decode cX1_nextToken 19 = .ok (.aload_n 0, 1) := by decide +kernel
theorem dX1_nextToken_20 : decode cX1_nextToken 20 = .ok (.getfield 15, 3) := by decide +kernel
theorem dX1_nextToken_23 : decode cX1_nextToken 23 = .ok (.aload_n 0, 1) := by decide +kernel
theorem dX1_nextToken_24 : decode cX1_nextToken 24 = .ok (.getfield 209, 3) := by decide +kernel
theorem dX1_nextToken_27 : decode cX1_nextToken 27 = .ok (.baload, 1) := by decide +kernel
theorem dX1_nextToken_28 : decode cX1_nextToken 28 = .ok (.bipush 32, 2) := by decide +kernel
theorem dX1_nextToken_30 : decode cX1_nextToken 30 = .ok (.if_icmp .eq 17, 3) := by decide +kernel
theorem dX1_nextToken_33 : decode cX1_nextToken 33 = .ok (.aload_n 0, 1) := by decide +kernel
theorem dX1_nextToken_34 : decode cX1_nextToken 34 = .ok (.getfield 15, 3) := by decide +kernel
theorem dX1_nextToken_37 : decode cX1_nextToken 37 = .ok (.aload_n 0, 1) := by decide +kernel
theorem dX1_nextToken_38 : decode cX1_nextToken 38 = .ok (.getfield 209, 3) := by decide +kernel
theorem dX1_nextToken_41 : decode cX1_nextToken 41 = .ok (.baload, 1) := by decide +kernel
theorem dX1_nextToken_42 : decode cX1_nextToken 42 = .ok (.bipush 10, 2) := by decide +kernel
theorem dX1_nextToken_44 : decode cX1_nextToken 44 = .ok (.if_icmp .ne 16, 3) := by decide +kernel
theorem dX1_nextToken_47 : decode cX1_nextToken 47 = .ok (.aload_n 0, 1) := by decide +kernel
theorem dX1_nextToken_48 : decode cX1_nextToken 48 = .ok (.dup, 1) := by decide +kernel
theorem dX1_nextToken_49 : decode cX1_nextToken 49 = .ok (.getfield 209, 3) := by decide +kernel
theorem dX1_nextToken_52 : decode cX1_nextToken 52 = .ok (.iconst 1, 1) := by decide +kernel
theorem dX1_nextToken_53 : decode cX1_nextToken 53 = .ok (.iadd, 1) := by decide +kernel
theorem dX1_nextToken_54 : decode cX1_nextToken 54 = .ok (.putfield 209, 3) := by decide +kernel
theorem dX1_nextToken_57 : decode cX1_nextToken 57 = .ok (.goto (-49), 3) := by decide +kernel
theorem dX1_nextToken_60 : decode cX1_nextToken 60 = .ok (.aload_n 0, 1) := by decide +kernel
theorem dX1_nextToken_61 : decode cX1_nextToken 61 = .ok (.aload_n 0, 1) := by decide +kernel
theorem dX1_nextToken_62 : decode cX1_nextToken 62 = .ok (.getfield 209, 3) := by decide +kernel
theorem dX1_nextToken_65 : decode cX1_nextToken 65 = .ok (.putfield 38, 3) := by decide +kernel
theorem dX1_nextToken_68 : decode cX1_nextToken 68 = .ok (.aload_n 0, 1) := by decide +kernel
theorem dX1_nextToken_69 : decode cX1_nextToken 69 = .ok (.getfield 209, 3) := by decide +kernel
theorem dX1_nextToken_72 : decode cX1_nextToken 72 = .ok (.aload_n 0, 1) := by decide +kernel
theorem dX1_nextToken_73 : decode cX1_nextToken 73 = .ok (.getfield 25, 3) := by decide +kernel
theorem dX1_nextToken_76 : decode cX1_nextToken 76 = .ok (.if_icmp .lt 11, 3) := by decide +kernel
theorem dX1_nextToken_79 : decode cX1_nextToken 79 = .ok (.aload_n 0, 1) := by decide +kernel
theorem dX1_nextToken_80 : decode cX1_nextToken 80 = .ok (.iconst 0, 1) := by decide +kernel
theorem dX1_nextToken_81 : decode cX1_nextToken 81 = .ok (.putfield 60, 3) := by decide +kernel
theorem dX1_nextToken_84 : decode cX1_nextToken 84 = .ok (.goto 238, 3) := by decide +kernel
theorem dX1_nextToken_87 : decode cX1_nextToken 87 = .ok (.aload_n 0, 1) := by decide +kernel
theorem dX1_nextToken_88 : decode cX1_nextToken 88 = .ok (.getfield 15, 3) := by decide +kernel
theorem dX1_nextToken_91 : decode cX1_nextToken 91 = .ok (.aload_n 0, 1) := by decide +kernel
theorem dX1_nextToken_92 : decode cX1_nextToken 92 = .ok (.getfield 209, 3) := by decide +kernel
theorem dX1_nextToken_95 : decode cX1_nextToken 95 = .ok (.baload, 1) := by decide +kernel
theorem dX1_nextToken_96 : decode cX1_nextToken 96 = .ok (.invokestatic 220, 3) := by decide +kernel
theorem dX1_nextToken_99 : decode cX1_nextToken 99 = .ok (.ifCond .eq 68, 3) := by decide +kernel
theorem dX1_nextToken_102 : decode cX1_nextToken 102 = .ok (.aload_n 0, 1) := by decide +kernel
theorem dX1_nextToken_103 : decode cX1_nextToken 103 = .ok (.getfield 38, 3) := by decide +kernel
theorem dX1_nextToken_106 : decode cX1_nextToken 106 = .ok (.aload_n 0, 1) := by decide +kernel
theorem dX1_nextToken_107 : decode cX1_nextToken 107 = .ok (.getfield 25, 3) := by decide +kernel
theorem dX1_nextToken_110 : decode cX1_nextToken 110 = .ok (.if_icmp .ge 31, 3) := by decide +kernel
theorem dX1_nextToken_113 : decode cX1_nextToken 113 = .ok (.aload_n 0, 1) := by decide +kernel
theorem dX1_nextToken_114 : decode cX1_nextToken 114 = .ok (.getfield 15, 3) := by decide +kernel
theorem dX1_nextToken_117 : decode cX1_nextToken 117 = .ok (.aload_n 0, 1) := by decide +kernel
theorem dX1_nextToken_118 : decode cX1_nextToken 118 = .ok (.getfield 38, 3) := by decide +kernel
theorem dX1_nextToken_121 : decode cX1_nextToken 121 = .ok (.baload, 1) := by decide +kernel
theorem dX1_nextToken_122 : decode cX1_nextToken 122 = .ok (.invokestatic 220, 3) := by decide +kernel
theorem dX1_nextToken_125 : decode cX1_nextToken 125 = .ok (.ifCond .eq 16, 3) := by decide +kernel
theorem dX1_nextToken_128 : decode cX1_nextToken 128 = .ok (.aload_n 0, 1) := by decide +kernel
theorem dX1_nextToken_129 : decode cX1_nextToken 129 = .ok (.dup, 1) := by decide +kernel
theorem dX1_nextToken_130 : decode cX1_nextToken 130 = .ok (.getfield 38, 3) := by decide +kernel
theorem dX1_nextToken_133 : decode cX1_nextToken 133 = .ok (.iconst 1, 1) := by decide +kernel
theorem dX1_nextToken_134 : decode cX1_nextToken 134 = .ok (.iadd, 1) := by decide +kernel
theorem dX1_nextToken_135 : decode cX1_nextToken 135 = .ok (.putfield 38, 3) := by decide +kernel
theorem dX1_nextToken_138 : decode cX1_nextToken 138 = .ok (.goto (-36), 3) := by decide +kernel
theorem dX1_nextToken_141 : decode cX1_nextToken 141 = .ok (.aload_n 0, 1) := by decide +kernel
theorem dX1_nextToken_142 : decode cX1_nextToken 142 = .ok (.aload_n 0, 1) := by decide +kernel
theorem dX1_nextToken_143 : decode cX1_nextToken 143 = .ok (.getfield 38, 3) := by decide +kernel
theorem dX1_nextToken_146 : decode cX1_nextToken 146 = .ok (.aload_n 0, 1) := by decide +kernel
theorem dX1_nextToken_147 : decode cX1_nextToken 147 = .ok (.getfield 209, 3) := by decide +kernel
theorem dX1_nextToken_150 : decode cX1_nextToken 150 = .ok (.isub, 1) := by decide +kernel
theorem dX1_nextToken_151 : decode cX1_nextToken 151 = .ok (.bipush 8, 2) := by decide +kernel
theorem dX1_nextToken_153 : decode cX1_nextToken 153 = .ok (.if_icmp .gt 7, 3) := by decide +kernel
theorem dX1_nextToken_156 : decode cX1_nextToken 156 = .ok (.iconst 1, 1) := by decide +kernel
theorem dX1_nextToken_157 : decode cX1_nextToken 157 = .ok (.goto 4, 3) := by decide +kernel
theorem dX1_nextToken_160 : decode cX1_nextToken 160 = .ok (.iconst 4, 1) := by decide +kernel
theorem dX1_nextToken_161 : decode cX1_nextToken 161 = .ok (.putfield 60, 3) := by decide +kernel
theorem dX1_nextToken_164 : decode cX1_nextToken 164 = .ok (.goto 158, 3) := by decide +kernel
theorem dX1_nextToken_167 : decode cX1_nextToken 167 = .ok (.aload_n 0, 1) := by decide +kernel
theorem dX1_nextToken_168 : decode cX1_nextToken 168 = .ok (.getfield 15, 3) := by decide +kernel
theorem dX1_nextToken_171 : decode cX1_nextToken 171 = .ok (.aload_n 0, 1) := by decide +kernel
theorem dX1_nextToken_172 : decode cX1_nextToken 172 = .ok (.getfield 209, 3) := by decide +kernel
theorem dX1_nextToken_175 : decode cX1_nextToken 175 = .ok (.baload, 1) := by decide +kernel
theorem dX1_nextToken_176 : decode cX1_nextToken 176 = .ok (.invokestatic 224, 3) := by decide +kernel
theorem dX1_nextToken_179 : decode cX1_nextToken 179 = .ok (.ifCond .eq 96, 3) := by decide +kernel
theorem dX1_nextToken_182 : decode cX1_nextToken 182 = .ok (.aload_n 0, 1) := by decide +kernel
theorem dX1_nextToken_183 : decode cX1_nextToken 183 = .ok (.iconst 0, 1) := by decide +kernel
theorem dX1_nextToken_184 : decode cX1_nextToken 184 = .ok (.putfield 191, 3) := by decide +kernel
theorem dX1_nextToken_187 : decode cX1_nextToken 187 = .ok (.aload_n 0, 1) := by decide +kernel
theorem dX1_nextToken_188 : decode cX1_nextToken 188 = .ok (.getfield 38, 3) := by decide +kernel
theorem dX1_nextToken_191 : decode cX1_nextToken 191 = .ok (.aload_n 0, 1) := by decide +kernel
theorem dX1_nextToken_192 : decode cX1_nextToken 192 = .ok (.getfield 25, 3) := by decide +kernel
theorem dX1_nextToken_195 : decode cX1_nextToken 195 = .ok (.if_icmp .ge 55, 3) := by decide +kernel
theorem dX1_nextToken_198 : decode cX1_nextToken 198 = .ok (.aload_n 0, 1) := by decide +kernel
theorem dX1_nextToken_199 : decode cX1_nextToken 199 = .ok (.getfield 15, 3) := by decide +kernel
theorem dX1_nextToken_202 : decode cX1_nextToken 202 = .ok (.aload_n 0, 1) := by decide +kernel
theorem dX1_nextToken_203 : decode cX1_nextToken 203 = .ok (.getfield 38, 3) := by decide +kernel
theorem dX1_nextToken_206 : decode cX1_nextToken 206 = .ok (.baload, 1) := by decide +kernel
theorem dX1_nextToken_207 : decode cX1_nextToken 207 = .ok (.invokestatic 224, 3) := by decide +kernel
theorem dX1_nextToken_210 : decode cX1_nextToken 210 = .ok (.ifCond .eq 40, 3) := by decide +kernel
theorem dX1_nextToken_213 : decode cX1_nextToken 213 = .ok (.aload_n 0, 1) := by decide +kernel
theorem dX1_nextToken_214 : decode cX1_nextToken 214 = .ok (.bipush 10, 2) := by decide +kernel
theorem dX1_nextToken_216 : decode cX1_nextToken 216 = .ok (.aload_n 0, 1) := by decide +kernel
theorem dX1_nextToken_217 : decode cX1_nextToken 217 = .ok (.getfield 191, 3) := by decide +kernel
theorem dX1_nextToken_220 : decode cX1_nextToken 220 = .ok (.imul, 1) := by decide +kernel
theorem dX1_nextToken_221 : decode cX1_nextToken 221 = .ok (.aload_n 0, 1) := by decide +kernel
theorem dX1_nextToken_222 : decode cX1_nextToken 222 = .ok (.getfield 15, 3) := by decide +kernel
theorem dX1_nextToken_225 : decode cX1_nextToken 225 = .ok (.aload_n 0, 1) := by decide +kernel
theorem dX1_nextToken_226 : decode cX1_nextToken 226 = .ok (.getfield 38, 3) := by decide +kernel
theorem dX1_nextToken_229 : decode cX1_nextToken 229 = .ok (.baload, 1) := by decide +kernel
theorem dX1_nextToken_230 : decode cX1_nextToken 230 = .ok (.iadd, 1) := by decide +kernel
theorem dX1_nextToken_231 : decode cX1_nextToken 231 = .ok (.bipush 48, 2) := by decide +kernel
theorem dX1_nextToken_233 : decode cX1_nextToken 233 = .ok (.isub, 1) := by decide +kernel
theorem dX1_nextToken_234 : decode cX1_nextToken 234 = .ok (.putfield 191, 3) := by decide +kernel
theorem dX1_nextToken_237 : decode cX1_nextToken 237 = .ok (.aload_n 0, 1) := by decide +kernel
theorem dX1_nextToken_238 : decode cX1_nextToken 238 = .ok (.dup, 1) := by decide +kernel
theorem dX1_nextToken_239 : decode cX1_nextToken 239 = .ok (.getfield 38, 3) := by decide +kernel
theorem dX1_nextToken_242 : decode cX1_nextToken 242 = .ok (.iconst 1, 1) := by decide +kernel
theorem dX1_nextToken_243 : decode cX1_nextToken 243 = .ok (.iadd, 1) := by decide +kernel
theorem dX1_nextToken_244 : decode cX1_nextToken 244 = .ok (.putfield 38, 3) := by decide +kernel
theorem dX1_nextToken_247 : decode cX1_nextToken 247 = .ok (.goto (-60), 3) := by decide +kernel
theorem dX1_nextToken_250 : decode cX1_nextToken 250 = .ok (.aload_n 0, 1) := by decide +kernel
theorem dX1_nextToken_251 : decode cX1_nextToken 251 = .ok (.aload_n 0, 1) := by decide +kernel
theorem dX1_nextToken_252 : decode cX1_nextToken 252 = .ok (.getfield 38, 3) := by decide +kernel
theorem dX1_nextToken_255 : decode cX1_nextToken 255 = .ok (.aload_n 0, 1) := by decide +kernel
theorem dX1_nextToken_256 : decode cX1_nextToken 256 = .ok (.getfield 209, 3) := by decide +kernel
theorem dX1_nextToken_259 : decode cX1_nextToken 259 = .ok (.isub, 1) := by decide +kernel
theorem dX1_nextToken_260 : decode cX1_nextToken 260 = .ok (.iconst 4, 1) := by decide +kernel
theorem dX1_nextToken_261 : decode cX1_nextToken 261 = .ok (.if_icmp .gt 7, 3) := by decide +kernel
theorem dX1_nextToken_264 : decode cX1_nextToken 264 = .ok (.iconst 2, 1) := by decide +kernel
theorem dX1_nextToken_265 : decode cX1_nextToken 265 = .ok (.goto 4, 3) := by decide +kernel
theorem dX1_nextToken_268 : decode cX1_nextToken 268 = .ok (.iconst 4, 1) := by decide +kernel
theorem dX1_nextToken_269 : decode cX1_nextToken 269 = .ok (.putfield 60, 3) := by decide +kernel
theorem dX1_nextToken_272 : decode cX1_nextToken 272 = .ok (.goto 50, 3) := by decide +kernel
theorem dX1_nextToken_275 : decode cX1_nextToken 275 = .ok (.aload_n 0, 1) := by decide +kernel
theorem dX1_nextToken_276 : decode cX1_nextToken 276 = .ok (.aload_n 0, 1) := by decide +kernel
theorem dX1_nextToken_277 : decode cX1_nextToken 277 = .ok (.getfield 15, 3) := by decide +kernel
theorem dX1_nextToken_280 : decode cX1_nextToken 280 = .ok (.aload_n 0, 1) := by decide +kernel
theorem dX1_nextToken_281 : decode cX1_nextToken 281 = .ok (.getfield 209, 3) := by decide +kernel
theorem dX1_nextToken_284 : decode cX1_nextToken 284 = .ok (.baload, 1) := by decide +kernel
theorem dX1_nextToken_285 : decode cX1_nextToken 285 = .ok (.putfield 191, 3) := by decide +kernel
theorem dX1_nextToken_288 : decode cX1_nextToken 288 = .ok (.aload_n 0, 1) := by decide +kernel
theorem dX1_nextToken_289 : decode cX1_nextToken 289 = .ok (.aload_n 0, 1) := by decide +kernel
theorem dX1_nextToken_290 : decode cX1_nextToken 290 = .ok (.getfield 15, 3) := by decide +kernel
theorem dX1_nextToken_293 : decode cX1_nextToken 293 = .ok (.aload_n 0, 1) := by decide +kernel
theorem dX1_nextToken_294 : decode cX1_nextToken 294 = .ok (.getfield 209, 3) := by decide +kernel
theorem dX1_nextToken_297 : decode cX1_nextToken 297 = .ok (.baload, 1) := by decide +kernel
theorem dX1_nextToken_298 : decode cX1_nextToken 298 = .ok (.invokestatic 227, 3) := by decide +kernel
theorem dX1_nextToken_301 : decode cX1_nextToken 301 = .ok (.ifCond .eq 7, 3) := by decide +kernel
theorem dX1_nextToken_304 : decode cX1_nextToken 304 = .ok (.iconst 3, 1) := by decide +kernel
theorem dX1_nextToken_305 : decode cX1_nextToken 305 = .ok (.goto 4, 3) := by decide +kernel
theorem dX1_nextToken_308 : decode cX1_nextToken 308 = .ok (.iconst 4, 1) := by decide +kernel
theorem dX1_nextToken_309 : decode cX1_nextToken 309 = .ok (.putfield 60, 3) := by decide +kernel
theorem dX1_nextToken_312 : decode cX1_nextToken 312 = .ok (.aload_n 0, 1) := by decide +kernel
theorem dX1_nextToken_313 : decode cX1_nextToken 313 = .ok (.dup, 1) := by decide +kernel
theorem dX1_nextToken_314 : decode cX1_nextToken 314 = .ok (.getfield 38, 3) := by decide +kernel
theorem dX1_nextToken_317 : decode cX1_nextToken 317 = .ok (.iconst 1, 1) := by decide +kernel
theorem dX1_nextToken_318 : decode cX1_nextToken 318 = .ok (.iadd, 1) := by decide +kernel
theorem dX1_nextToken_319 : decode cX1_nextToken 319 = .ok (.putfield 38, 3) := by decide +kernel
theorem dX1_nextToken_322 : decode cX1_nextToken 322 = .ok (.return_, 1) := by decide +kernel
theorem dX1_isLetter_0 : decode cX1_isLetter 0 = .ok (.iload_n 0, 1) := by decide +kernel
theorem dX1_isLetter_1 : decode cX1_isLetter 1 = .ok (.bipush 97, 2) := by decide +kernel
theorem dX1_isLetter_3 : decode cX1_isLetter 3 = .ok (.if_icmp .lt 13, 3) := by decide +kernel
theorem dX1_isLetter_6 : decode cX1_isLetter 6 = .ok (.iload_n 0, 1) := by decide +kernel
theorem dX1_isLetter_7 : decode cX1_isLetter 7 = .ok (.bipush 122, 2) := by decide +kernel
theorem dX1_isLetter_9 : decode cX1_isLetter 9 = .ok (.if_icmp .gt 7, 3) := by decide +kernel
theorem dX1_isLetter_12 : decode cX1_isLetter 12 = .ok (.iconst 1, 1) := by decide +kernel
theorem dX1_isLetter_13 : decode cX1_isLetter 13 = .ok (.goto 4, 3) := by decide +kernel
theorem dX1_isLetter_16 : decode cX1_isLetter 16 = .ok (.iconst 0, 1) := by decide +kernel
theorem dX1_isLetter_17 : decode cX1_isLetter 17 = .ok (.ireturn, 1) := by decide +kernel
theorem dX1_isDigit_0 : decode cX1_isDigit 0 = .ok (.iload_n 0, 1) := by decide +kernel
theorem dX1_isDigit_1 : decode cX1_isDigit 1 = .ok (.bipush 48, 2) := by decide +kernel
theorem dX1_isDigit_3 : decode cX1_isDigit 3 = .ok (.if_icmp .lt 13, 3) := by decide +kernel
theorem dX1_isDigit_6 : decode cX1_isDigit 6 = .ok (.iload_n 0, 1) := by decide +kernel
theorem dX1_isDigit_7 : decode cX1_isDigit 7 = .ok (.bipush 57, 2) := by decide +kernel
theorem dX1_isDigit_9 : decode cX1_isDigit 9 = .ok (.if_icmp .gt 7, 3) := by decide +kernel
theorem dX1_isDigit_12 : decode cX1_isDigit 12 = .ok (.iconst 1, 1) := by decide +kernel
theorem dX1_isDigit_13 : decode cX1_isDigit 13 = .ok (.goto 4, 3) := by decide +kernel
theorem dX1_isDigit_16 : decode cX1_isDigit 16 = .ok (.iconst 0, 1) := by decide +kernel
theorem dX1_isDigit_17 : decode cX1_isDigit 17 = .ok (.ireturn, 1) := by decide +kernel
theorem dX1_isSignByte_0 : decode cX1_isSignByte 0 = .ok (.iload_n 0, 1) := by decide +kernel
theorem dX1_isSignByte_1 : decode cX1_isSignByte 1 = .ok (.bipush 59, 2) := by decide +kernel
theorem dX1_isSignByte_3 : decode cX1_isSignByte 3 = .ok (.if_icmp .eq 27, 3) := by decide +kernel
theorem dX1_isSignByte_6 : decode cX1_isSignByte 6 = .ok (.iload_n 0, 1) := by decide +kernel
theorem dX1_isSignByte_7 : decode cX1_isSignByte 7 = .ok (.bipush 40, 2) := by decide +kernel
theorem dX1_isSignByte_9 : decode cX1_isSignByte 9 = .ok (.if_icmp .lt 9, 3) := by decide +kernel
theorem dX1_isSignByte_12 : decode cX1_isSignByte 12 = .ok (.iload_n 0, 1) := by decide +kernel
theorem dX1_isSignByte_13 : decode cX1_isSignByte 13 = .ok (.bipush 43, 2) := by decide +kernel
theorem dX1_isSignByte_15 : decode cX1_isSignByte 15 = .ok (.if_icmp .le 15, 3) := by decide +kernel
theorem dX1_isSignByte_18 : decode cX1_isSignByte 18 = .ok (.iload_n 0, 1) := by decide +kernel
theorem dX1_isSignByte_19 : decode cX1_isSignByte 19 = .ok (.bipush 45, 2) := by decide +kernel
theorem dX1_isSignByte_21 : decode cX1_isSignByte 21 = .ok (.if_icmp .eq 9, 3) := by decide +kernel
theorem dX1_isSignByte_24 : decode cX1_isSignByte 24 = .ok (.iload_n 0, 1) := by decide +kernel
theorem dX1_isSignByte_25 : decode cX1_isSignByte 25 = .ok (.bipush 47, 2) := by decide +kernel
theorem dX1_isSignByte_27 : decode cX1_isSignByte 27 = .ok (.if_icmp .ne 7, 3) := by decide +kernel
theorem dX1_isSignByte_30 : decode cX1_isSignByte 30 = .ok (.iconst 1, 1) := by decide +kernel
theorem dX1_isSignByte_31 : decode cX1_isSignByte 31 = .ok (.goto 4, 3) := by decide +kernel
theorem dX1_isSignByte_34 : decode cX1_isSignByte 34 = .ok (.iconst 0, 1) := by decide +kernel
theorem dX1_isSignByte_35 : decode cX1_isSignByte 35 = .ok (.ireturn, 1) := by decide +kernel
theorem dX2_init_0 : decode cX2_init 0 = .ok (.aload_n 0, 1) := by decide +kernel
theorem dX2_init_1 : decode cX2_init 1 = .ok (.invokespecial 3, 3) := by decide +kernel
theorem dX2_init_4 : decode cX2_init 4 = .ok (.aload_n 0, 1) := by decide +kernel
theorem dX2_init_5 : decode cX2_init 5 = .ok (.sipush 700, 3) := by decide +kernel
theorem dX2_init_8 : decode cX2_init 8 = .ok (.newarray .int, 2) := by decide +kernel
theorem dX2_init_10 : decode cX2_init 10 = .ok (.putfield 9, 3) := by decide +kernel
theorem dX2_init_13 : decode cX2_init 13 = .ok (.aload_n 0, 1) := by decide +kernel
theorem dX2_init_14 : decode cX2_init 14 = .ok (.bipush 16, 2) := by decide +kernel
theorem dX2_init_16 : decode cX2_init 16 = .ok (.newarray .int, 2) := by decide +kernel
theorem dX2_init_18 : decode cX2_init 18 = .ok (.putfield 15, 3) := by decide +kernel
theorem dX2_init_21 : decode cX2_init 21 = .ok (.return_, 1) := by decide +kernel
theorem dX2_clear_0 : decode cX2_clear 0 = .ok (.aload_n 0, 1) := by decide +kernel
theorem dX2_clear_1 : decode cX2_clear 1 = .ok (.iconst 0, 1) := by decide +kernel
theorem dX2_clear_2 : decode cX2_clear 2 = .ok (.putfield 18, 3) := by decide +kernel
theorem dX2_clear_5 : decode cX2_clear 5 = .ok (.return_, 1) := by decide +kernel
theorem dX2_add_0 : decode cX2_add 0 = .ok (.aload_n 0, 1) := by decide +kernel
theorem dX2_add_1 : decode cX2_add 1 = .ok (.getfield 18, 3) := by decide +kernel
theorem dX2_add_4 : decode cX2_add 4 = .ok (.aload_n 0, 1) := by decide +kernel
theorem dX2_add_5 : decode cX2_add 5 = .ok (.getfield 9, 3) := by decide +kernel
theorem dX2_add_8 : decode cX2_add 8 = .ok (.arraylength, 1) := by decide +kernel
theorem dX2_add_9 : decode cX2_add 9 = .ok (.if_icmp .ge 23, 3) := by decide +kernel
theorem dX2_add_12 : decode cX2_add 12 = .ok (.aload_n 0, 1) := by decide +kernel
theorem dX2_add_13 : decode cX2_add 13 = .ok (.getfield 9, 3) := by decide +kernel
theorem dX2_add_16 : decode cX2_add 16 = .ok (.aload_n 0, 1) := by decide +kernel
theorem dX2_add_17 : decode cX2_add 17 = .ok (.getfield 18, 3) := by decide +kernel
theorem dX2_add_20 : decode cX2_add 20 = .ok (.iload_n 1, 1) := by decide +kernel
theorem dX2_add_21 : decode cX2_add 21 = .ok (.iastore, 1) := by decide +kernel
theorem dX2_add_22 : decode cX2_add 22 = .ok (.aload_n 0, 1) := by decide +kernel
theorem dX2_add_23 : decode cX2_add 23 = .ok (.dup, 1) := by decide +kernel
theorem dX2_add_24 : decode cX2_add 24 = .ok (.getfield 18, 3) := by decide +kernel
theorem dX2_add_27 : decode cX2_add 27 = .ok (.iconst 1, 1) := by decide +kernel
theorem dX2_add_28 : decode cX2_add 28 = .ok (.iadd, 1) := by decide +kernel
theorem dX2_add_29 : decode cX2_add 29 = .ok (.putfield 18, 3) := by decide +kernel
theorem dX2_add_32 : decode cX2_add 32 = .ok (.return_, 1) := by decide +kernel
theorem dX2_worth_0 : decode cX2_worth 0 = .ok (.iconst 0, 1) := by decide +kernel
theorem dX2_worth_1 : decode cX2_worth 1 = .ok (.istore 5, 2) := by decide +kernel
theorem dX2_worth_3 : decode cX2_worth 3 = .ok (.iconst 0, 1) := by decide +kernel
theorem dX2_worth_4 : decode cX2_worth 4 = .ok (.istore 6, 2) := by decide +kernel
theorem dX2_worth_6 : decode cX2_worth 6 = .ok (.iload 6, 2) := by decide +kernel
theorem dX2_worth_8 : decode cX2_worth 8 = .ok (.aload_n 0, 1) := by decide +kernel
theorem dX2_worth_9 : decode cX2_worth 9 = .ok (.getfield 18, 3) := by decide +kernel
theorem dX2_worth_12 : decode cX2_worth 12 = .ok (.if_icmp .ge 98, 3) := by decide +kernel
theorem dX2_worth_15 : decode cX2_worth 15 = .ok (.aload_n 0, 1) := by decide +kernel
theorem dX2_worth_16 : decode cX2_worth 16 = .ok (.getfield 9, 3) := by decide +kernel
theorem dX2_worth_19 : decode cX2_worth 19 = .ok (.iload 6, 2) := by decide +kernel
theorem dX2_worth_21 : decode cX2_worth 21 = .ok (.iaload, 1) := by decide +kernel
theorem dX2_worth_22 : decode cX2_worth 22 = .ok (.istore 7, 2) := by decide +kernel
theorem dX2_worth_24 : decode cX2_worth 24 = .ok (.iload 7, 2) := by decide +kernel
theorem dX2_worth_26 : decode cX2_worth 26 = .ok (.bipush (-5), 2) := by decide +kernel
theorem dX2_worth_28 : decode cX2_worth 28 = .ok (.if_icmp .gt 47, 3) := by decide +kernel
theorem dX2_worth_31 : decode cX2_worth 31 = .ok (.iload 5, 2) := by decide +kernel
theorem dX2_worth_33 : decode cX2_worth 33 = .ok (.iconst 2, 1) := by decide +kernel
theorem dX2_worth_34 : decode cX2_worth 34 = .ok (.if_icmp .ge 5, 3) := by decide +kernel
theorem dX2_worth_37 : decode cX2_worth 37 = .ok (.iconst 0, 1) := by decide +kernel
theorem dX2_worth_38 : decode cX2_worth 38 = .ok (.ireturn, 1) := by decide +kernel
theorem dX2_worth_39 : decode cX2_worth 39 = .ok (.iinc 5 (-1), 3) := by decide +kernel
theorem dX2_worth_42 : decode cX2_worth 42 = .ok (.aload_n 0, 1) := by decide +kernel
theorem dX2_worth_43 : decode cX2_worth 43 = .ok (.getfield 15, 3) := by decide +kernel
theorem dX2_worth_46 : decode cX2_worth 46 = .ok (.iload 5, 2) := by decide +kernel
theorem dX2_worth_48 : decode cX2_worth 48 = .ok (.iconst 1, 1) := by decide +kernel
theorem dX2_worth_49 : decode cX2_worth 49 = .ok (.isub, 1) := by decide +kernel
theorem dX2_worth_50 : decode cX2_worth 50 = .ok (.iload 7, 2) := by decide +kernel
theorem dX2_worth_52 : decode cX2_worth 52 = .ok (.aload_n 0, 1) := by decide +kernel
theorem dX2_worth_53 : decode cX2_worth 53 = .ok (.getfield 15, 3) := by decide +kernel
theorem dX2_worth_56 : decode cX2_worth 56 = .ok (.iload 5, 2) := by decide +kernel
theorem dX2_worth_58 : decode cX2_worth 58 = .ok (.iconst 1, 1) := by decide +kernel
theorem dX2_worth_59 : decode cX2_worth 59 = .ok (.isub, 1) := by decide +kernel
theorem dX2_worth_60 : decode cX2_worth 60 = .ok (.iaload, 1) := by decide +kernel
theorem dX2_worth_61 : decode cX2_worth 61 = .ok (.aload_n 0, 1) := by decide +kernel
theorem dX2_worth_62 : decode cX2_worth 62 = .ok (.getfield 15, 3) := by decide +kernel
theorem dX2_worth_65 : decode cX2_worth 65 = .ok (.iload 5, 2) := by decide +kernel
theorem dX2_worth_67 : decode cX2_worth 67 = .ok (.iaload, 1) := by decide +kernel
theorem dX2_worth_68 : decode cX2_worth 68 = .ok (.invokestatic 22, 3) := by decide +kernel
theorem dX2_worth_71 : decode cX2_worth 71 = .ok (.iastore, 1) := by decide +kernel
theorem dX2_worth_72 : decode cX2_worth 72 = .ok (.goto 32, 3) := by decide +kernel
theorem dX2_worth_75 : decode cX2_worth 75 = .ok (.iload 5, 2) := by decide +kernel
theorem dX2_worth_77 : decode cX2_worth 77 = .ok (.bipush 16, 2) := by decide +kernel
theorem dX2_worth_79 : decode cX2_worth 79 = .ok (.if_icmp .lt 5, 3) := by decide +kernel
theorem dX2_worth_82 : decode cX2_worth 82 = .ok (.iconst 0, 1) := by decide +kernel
theorem dX2_worth_83 : decode cX2_worth 83 = .ok (.ireturn, 1) := by decide +kernel
theorem dX2_worth_84 : decode cX2_worth 84 = .ok (.aload_n 0, 1) := by decide +kernel
theorem dX2_worth_85 : decode cX2_worth 85 = .ok (.getfield 15, 3) := by decide +kernel
theorem dX2_worth_88 : decode cX2_worth 88 = .ok (.iload 5, 2) := by decide +kernel
theorem dX2_worth_90 : decode cX2_worth 90 = .ok (.iload 7, 2) := by decide +kernel
theorem dX2_worth_92 : decode cX2_worth 92 = .ok (.iload_n 1, 1) := by decide +kernel
theorem dX2_worth_93 : decode cX2_worth 93 = .ok (.iload_n 2, 1) := by decide +kernel
theorem dX2_worth_94 : decode cX2_worth 94 = .ok (.iload_n 3, 1) := by decide +kernel
theorem dX2_worth_95 : decode cX2_worth 95 = .ok (.iload 4, 2) := by decide +kernel
theorem dX2_worth_97 : decode cX2_worth 97 = .ok (.invokestatic 26, 3) := by decide +kernel
theorem dX2_worth_100 : decode cX2_worth 100 = .ok (.iastore, 1) := by decide +kernel
theorem dX2_worth_101 : decode cX2_worth 101 = .ok (.iinc 5 1, 3) := by decide +kernel
theorem dX2_worth_104 : decode cX2_worth 104 = .ok (.iinc 6 1, 3) := by decide +kernel
theorem dX2_worth_107 : decode cX2_worth 107 = .ok (.goto (-101), 3) := by decide +kernel
theorem dX2_worth_110 : decode cX2_worth 110 = .ok (.aload_n 0, 1) := by decide +kernel
theorem dX2_worth_111 : decode cX2_worth 111 = .ok (.getfield 15, 3) := by decide +kernel
theorem dX2_worth_114 : decode cX2_worth 114 = .ok (.iconst 0, 1) := by decide +kernel
theorem dX2_worth_115 : decode cX2_worth 115 = .ok (.iaload, 1) := by decide +kernel
theorem dX2_worth_116 : decode cX2_worth 116 = .ok (.ireturn, 1) := by decide +kernel
theorem dX2_operand_0 : decode cX2_operand 0 = .ok (.iload_n 0, 1) := by decide +kernel
theorem dX2_operand_1 : decode cX2_operand 1 = .ok (.tableswitch 40 (-4) (-1) #[37, 35, 33, 31], 31) := by decide +kernel
theorem dX2_operand_32 : decode cX2_operand 32 = .ok (.iload_n 1, 1) := by decide +kernel
theorem dX2_operand_33 : decode cX2_operand 33 = .ok (.ireturn, 1) := by decide +kernel
theorem dX2_operand_34 : decode cX2_operand 34 = .ok (.iload_n 2, 1) := by decide +kernel
theorem dX2_operand_35 : decode cX2_operand 35 = .ok (.ireturn, 1) := by decide +kernel
theorem dX2_operand_36 : decode cX2_operand 36 = .ok (.iload_n 3, 1) := by decide +kernel
theorem dX2_operand_37 : decode cX2_operand 37 = .ok (.ireturn, 1) := by decide +kernel
theorem dX2_operand_38 : decode cX2_operand 38 = .ok (.iload 4, 2) := by decide +kernel
theorem dX2_operand_40 : decode cX2_operand 40 = .ok (.ireturn, 1) := by decide +kernel
theorem dX2_operand_41 : decode cX2_operand 41 = .ok (.iload_n 0, 1) := by decide +kernel
theorem dX2_operand_42 : decode cX2_operand 42 = .ok (.ireturn, 1) := by decide +kernel
theorem dX2_apply_0 : decode cX2_apply 0 = .ok (.iload_n 0, 1) := by decide +kernel
theorem dX2_apply_1 : decode cX2_apply 1 = .ok (.tableswitch 39 (-7) (-5) #[35, 31, 27], 27) := by decide +kernel
theorem dX2_apply_28 : decode cX2_apply 28 = .ok (.iload_n 1, 1) := by decide +kernel
theorem dX2_apply_29 : decode cX2_apply 29 = .ok (.iload_n 2, 1) := by decide +kernel
theorem dX2_apply_30 : decode cX2_apply 30 = .ok (.iadd, 1) := by decide +kernel
theorem dX2_apply_31 : decode cX2_apply 31 = .ok (.ireturn, 1) := by decide +kernel
theorem dX2_apply_32 : decode cX2_apply 32 = .ok (.iload_n 1, 1) := by decide +kernel
theorem dX2_apply_33 : decode cX2_apply 33 = .ok (.iload_n 2, 1) := by decide +kernel
theorem dX2_apply_34 : decode cX2_apply 34 = .ok (.isub, 1) := by decide +kernel
theorem dX2_apply_35 : decode cX2_apply 35 = .ok (.ireturn, 1) := by decide +kernel
theorem dX2_apply_36 : decode cX2_apply 36 = .ok (.iload_n 1, 1) := by decide +kernel
theorem dX2_apply_37 : decode cX2_apply 37 = .ok (.iload_n 2, 1) := by decide +kernel
theorem dX2_apply_38 : decode cX2_apply 38 = .ok (.imul, 1) := by decide +kernel
theorem dX2_apply_39 : decode cX2_apply 39 = .ok (.ireturn, 1) := by decide +kernel
theorem dX2_apply_40 : decode cX2_apply 40 = .ok (.iload_n 2, 1) := by decide +kernel
theorem dX2_apply_41 : decode cX2_apply 41 = .ok (.ifCond .ne 7, 3) := by decide +kernel
theorem dX2_apply_44 : decode cX2_apply 44 = .ok (.iconst 0, 1) := by decide +kernel
theorem dX2_apply_45 : decode cX2_apply 45 = .ok (.goto 6, 3) := by decide +kernel
theorem dX2_apply_48 : decode cX2_apply 48 = .ok (.iload_n 1, 1) := by decide +kernel
theorem dX2_apply_49 : decode cX2_apply 49 = .ok (.iload_n 2, 1) := by decide +kernel
theorem dX2_apply_50 : decode cX2_apply 50 = .ok (.idiv, 1) := by decide +kernel
theorem dX2_apply_51 : decode cX2_apply 51 = .ok (.ireturn, 1) := by decide +kernel
theorem dX3_init_0 : decode cX3_init 0 = .ok (.aload_n 0, 1) := by decide +kernel
theorem dX3_init_1 : decode cX3_init 1 = .ok (.invokespecial 3, 3) := by decide +kernel
theorem dX3_init_4 : decode cX3_init 4 = .ok (.aload_n 0, 1) := by decide +kernel
theorem dX3_init_5 : decode cX3_init 5 = .ok (.bipush 10, 2) := by decide +kernel
theorem dX3_init_7 : decode cX3_init 7 = .ok (.anewarray 9, 3) := by decide +kernel
theorem dX3_init_10 : decode cX3_init 10 = .ok (.putfield 11, 3) := by decide +kernel
theorem dX3_init_13 : decode cX3_init 13 = .ok (.return_, 1) := by decide +kernel
theorem dX3_clear_0 : decode cX3_clear 0 = .ok (.aload_n 0, 1) := by decide +kernel
theorem dX3_clear_1 : decode cX3_clear 1 = .ok (.iconst 0, 1) := by decide +kernel
theorem dX3_clear_2 : decode cX3_clear 2 = .ok (.putfield 17, 3) := by decide +kernel
theorem dX3_clear_5 : decode cX3_clear 5 = .ok (.return_, 1) := by decide +kernel
theorem dX3_remember_0 : decode cX3_remember 0 = .ok (.aload_n 0, 1) := by decide +kernel
theorem dX3_remember_1 : decode cX3_remember 1 = .ok (.getfield 21, 3) := by decide +kernel
theorem dX3_remember_4 : decode cX3_remember 4 = .ok (.aload_n 0, 1) := by decide +kernel
theorem dX3_remember_5 : decode cX3_remember 5 = .ok (.getfield 17, 3) := by decide +kernel
theorem dX3_remember_8 : decode cX3_remember 8 = .ok (.iadd, 1) := by decide +kernel
theorem dX3_remember_9 : decode cX3_remember 9 = .ok (.bipush 10, 2) := by decide +kernel
theorem dX3_remember_11 : decode cX3_remember 11 = .ok (.irem, 1) := by decide +kernel
theorem dX3_remember_12 : decode cX3_remember 12 = .ok (.istore_n 2, 1) := by decide +kernel
theorem dX3_remember_13 : decode cX3_remember 13 = .ok (.aload_n 0, 1) := by decide +kernel
theorem dX3_remember_14 : decode cX3_remember 14 = .ok (.getfield 17, 3) := by decide +kernel
theorem dX3_remember_17 : decode cX3_remember 17 = .ok (.bipush 10, 2) := by decide +kernel
theorem dX3_remember_19 : decode cX3_remember 19 = .ok (.if_icmp .ge 16, 3) := by decide +kernel
theorem dX3_remember_22 : decode cX3_remember 22 = .ok (.aload_n 0, 1) := by decide +kernel
theorem dX3_remember_23 : decode cX3_remember 23 = .ok (.dup, 1) := by decide +kernel
theorem dX3_remember_24 : decode cX3_remember 24 = .ok (.getfield 17, 3) := by decide +kernel
theorem dX3_remember_27 : decode cX3_remember 27 = .ok (.iconst 1, 1) := by decide +kernel
theorem dX3_remember_28 : decode cX3_remember 28 = .ok (.iadd, 1) := by decide +kernel
theorem dX3_remember_29 : decode cX3_remember 29 = .ok (.putfield 17, 3) := by decide +kernel
theorem dX3_remember_32 : decode cX3_remember 32 = .ok (.goto 16, 3) := by decide +kernel
theorem dX3_remember_35 : decode cX3_remember 35 = .ok (.aload_n 0, 1) := by decide +kernel
theorem dX3_remember_36 : decode cX3_remember 36 = .ok (.aload_n 0, 1) := by decide +kernel
theorem dX3_remember_37 : decode cX3_remember 37 = .ok (.getfield 21, 3) := by decide +kernel
theorem dX3_remember_40 : decode cX3_remember 40 = .ok (.iconst 1, 1) := by decide +kernel
theorem dX3_remember_41 : decode cX3_remember 41 = .ok (.iadd, 1) := by decide +kernel
theorem dX3_remember_42 : decode cX3_remember 42 = .ok (.bipush 10, 2) := by decide +kernel
theorem dX3_remember_44 : decode cX3_remember 44 = .ok (.irem, 1) := by decide +kernel
theorem dX3_remember_45 : decode cX3_remember 45 = .ok (.putfield 21, 3) := by decide +kernel
theorem dX3_remember_48 : decode cX3_remember 48 = .ok (.aload_n 0, 1) := by decide +kernel
theorem dX3_remember_49 : decode cX3_remember 49 = .ok (.getfield 11, 3) := by decide +kernel
theorem dX3_remember_52 : decode cX3_remember 52 = .ok (.iload_n 2, 1) := by decide +kernel
theorem dX3_remember_53 : decode cX3_remember 53 = .ok (.aaload, 1) := by decide +kernel
theorem dX3_remember_54 : decode cX3_remember 54 = .ok (.ifnonnull 20, 3) := by decide +kernel
theorem dX3_remember_57 : decode cX3_remember 57 = .ok (.aload_n 0, 1) := by decide +kernel
theorem dX3_remember_58 : decode cX3_remember 58 = .ok (.getfield 11, 3) := by decide +kernel
theorem dX3_remember_61 : decode cX3_remember 61 = .ok (.iload_n 2, 1) := by decide +kernel
theorem dX3_remember_62 : decode cX3_remember 62 = .ok (.new 9, 3) := by decide +kernel
theorem dX3_remember_65 : decode cX3_remember 65 = .ok (.dup, 1) := by decide +kernel
theorem dX3_remember_66 : decode cX3_remember 66 = .ok (.aload_n 1, 1) := by decide +kernel
theorem dX3_remember_67 : decode cX3_remember 67 = .ok (.getfield 24, 3) := by decide +kernel
theorem dX3_remember_70 : decode cX3_remember 70 = .ok (.invokespecial 28, 3) := by decide +kernel
theorem dX3_remember_73 : decode cX3_remember 73 = .ok (.aastore, 1) := by decide +kernel
theorem dX3_remember_74 : decode cX3_remember 74 = .ok (.aload_n 0, 1) := by decide +kernel
theorem dX3_remember_75 : decode cX3_remember 75 = .ok (.getfield 11, 3) := by decide +kernel
theorem dX3_remember_78 : decode cX3_remember 78 = .ok (.iload_n 2, 1) := by decide +kernel
theorem dX3_remember_79 : decode cX3_remember 79 = .ok (.aaload, 1) := by decide +kernel
theorem dX3_remember_80 : decode cX3_remember 80 = .ok (.aload_n 1, 1) := by decide +kernel
theorem dX3_remember_81 : decode cX3_remember 81 = .ok (.invokevirtual 31, 3) := by decide +kernel
theorem dX3_remember_84 : decode cX3_remember 84 = .ok (.return_, 1) := by decide +kernel
theorem dX3_takeBack_0 : decode cX3_takeBack 0 = .ok (.aload_n 0, 1) := by decide +kernel
theorem dX3_takeBack_1 : decode cX3_takeBack 1 = .ok (.getfield 17, 3) := by decide +kernel
theorem dX3_takeBack_4 : decode cX3_takeBack 4 = .ok (.ifCond .ne 5, 3) := by decide +kernel
theorem dX3_takeBack_7 : decode cX3_takeBack 7 = .ok (.iconst 0, 1) := by decide +kernel
theorem dX3_takeBack_8 : decode cX3_takeBack 8 = .ok (.ireturn, 1) := by decide +kernel
theorem dX3_takeBack_9 : decode cX3_takeBack 9 = .ok (.aload_n 0, 1) := by decide +kernel
theorem dX3_takeBack_10 : decode cX3_takeBack 10 = .ok (.dup, 1) := by decide +kernel
theorem dX3_takeBack_11 : decode cX3_takeBack 11 = .ok (.getfield 17, 3) := by decide +kernel
theorem dX3_takeBack_14 : decode cX3_takeBack 14 = .ok (.iconst 1, 1) := by decide +kernel
theorem dX3_takeBack_15 : decode cX3_takeBack 15 = .ok (.isub, 1) := by decide +kernel
theorem dX3_takeBack_16 : decode cX3_takeBack 16 = .ok (.putfield 17, 3) := by decide +kernel
theorem dX3_takeBack_19 : decode cX3_takeBack 19 = .ok (.aload_n 0, 1) := by decide +kernel
theorem dX3_takeBack_20 : decode cX3_takeBack 20 = .ok (.getfield 11, 3) := by decide +kernel
theorem dX3_takeBack_23 : decode cX3_takeBack 23 = .ok (.aload_n 0, 1) := by decide +kernel
theorem dX3_takeBack_24 : decode cX3_takeBack 24 = .ok (.getfield 21, 3) := by decide +kernel
theorem dX3_takeBack_27 : decode cX3_takeBack 27 = .ok (.aload_n 0, 1) := by decide +kernel
theorem dX3_takeBack_28 : decode cX3_takeBack 28 = .ok (.getfield 17, 3) := by decide +kernel
theorem dX3_takeBack_31 : decode cX3_takeBack 31 = .ok (.iadd, 1) := by decide +kernel
theorem dX3_takeBack_32 : decode cX3_takeBack 32 = .ok (.bipush 10, 2) := by decide +kernel
theorem dX3_takeBack_34 : decode cX3_takeBack 34 = .ok (.irem, 1) := by decide +kernel
theorem dX3_takeBack_35 : decode cX3_takeBack 35 = .ok (.aaload, 1) := by decide +kernel
theorem dX3_takeBack_36 : decode cX3_takeBack 36 = .ok (.astore_n 2, 1) := by decide +kernel
theorem dX3_takeBack_37 : decode cX3_takeBack 37 = .ok (.aload_n 2, 1) := by decide +kernel
theorem dX3_takeBack_38 : decode cX3_takeBack 38 = .ok (.ifnonnull 5, 3) := by decide +kernel
theorem dX3_takeBack_41 : decode cX3_takeBack 41 = .ok (.iconst 0, 1) := by decide +kernel
theorem dX3_takeBack_42 : decode cX3_takeBack 42 = .ok (.ireturn, 1) := by decide +kernel
theorem dX3_takeBack_43 : decode cX3_takeBack 43 = .ok (.aload_n 1, 1) := by decide +kernel
theorem dX3_takeBack_44 : decode cX3_takeBack 44 = .ok (.aload_n 2, 1) := by decide +kernel
theorem dX3_takeBack_45 : decode cX3_takeBack 45 = .ok (.invokevirtual 31, 3) := by decide +kernel
theorem dX3_takeBack_48 : decode cX3_takeBack 48 = .ok (.iconst 1, 1) := by decide +kernel
theorem dX3_takeBack_49 : decode cX3_takeBack 49 = .ok (.ireturn, 1) := by decide +kernel
theorem dX4_init_0 : decode cX4_init 0 = .ok (.aload_n 0, 1) := by decide +kernel
theorem dX4_init_1 : decode cX4_init 1 = .ok (.invokespecial 3, 3) := by decide +kernel
theorem dX4_init_4 : decode cX4_init 4 = .ok (.aload_n 0, 1) := by decide +kernel
theorem dX4_init_5 : decode cX4_init 5 = .ok (.sipush 768, 3) := by decide +kernel
theorem dX4_init_8 : decode cX4_init 8 = .ok (.newarray .int, 2) := by decide +kernel
theorem dX4_init_10 : decode cX4_init 10 = .ok (.putfield 9, 3) := by decide +kernel
theorem dX4_init_13 : decode cX4_init 13 = .ok (.return_, 1) := by decide +kernel
theorem dX4_code_0 : decode cX4_code 0 = .ok (.iload_n 0, 1) := by decide +kernel
theorem dX4_code_1 : decode cX4_code 1 = .ok (.bipush 16, 2) := by decide +kernel
theorem dX4_code_3 : decode cX4_code 3 = .ok (.ishl, 1) := by decide +kernel
theorem dX4_code_4 : decode cX4_code 4 = .ok (.iload_n 1, 1) := by decide +kernel
theorem dX4_code_5 : decode cX4_code 5 = .ok (.bipush 6, 2) := by decide +kernel
theorem dX4_code_7 : decode cX4_code 7 = .ok (.ishl, 1) := by decide +kernel
theorem dX4_code_8 : decode cX4_code 8 = .ok (.ior, 1) := by decide +kernel
theorem dX4_code_9 : decode cX4_code 9 = .ok (.iload_n 2, 1) := by decide +kernel
theorem dX4_code_10 : decode cX4_code 10 = .ok (.iconst 3, 1) := by decide +kernel
theorem dX4_code_11 : decode cX4_code 11 = .ok (.ishl, 1) := by decide +kernel
theorem dX4_code_12 : decode cX4_code 12 = .ok (.ior, 1) := by decide +kernel
theorem dX4_code_13 : decode cX4_code 13 = .ok (.iload_n 3, 1) := by decide +kernel
theorem dX4_code_14 : decode cX4_code 14 = .ok (.ior, 1) := by decide +kernel
theorem dX4_code_15 : decode cX4_code 15 = .ok (.ireturn, 1) := by decide +kernel
theorem dX4_redirected_0 : decode cX4_redirected 0 = .ok (.iload_n 1, 1) := by decide +kernel
theorem dX4_redirected_1 : decode cX4_redirected 1 = .ok (.bipush 16, 2) := by decide +kernel
theorem dX4_redirected_3 : decode cX4_redirected 3 = .ok (.ishl, 1) := by decide +kernel
theorem dX4_redirected_4 : decode cX4_redirected 4 = .ok (.iload_n 0, 1) := by decide +kernel
theorem dX4_redirected_5 : decode cX4_redirected 5 = .ok (.ldc 15, 2) := by decide +kernel
theorem dX4_redirected_7 : decode cX4_redirected 7 = .ok (.iand, 1) := by decide +kernel
theorem dX4_redirected_8 : decode cX4_redirected 8 = .ok (.ior, 1) := by decide +kernel
theorem dX4_redirected_9 : decode cX4_redirected 9 = .ok (.iload_n 2, 1) := by decide +kernel
theorem dX4_redirected_10 : decode cX4_redirected 10 = .ok (.ior, 1) := by decide +kernel
theorem dX4_redirected_11 : decode cX4_redirected 11 = .ok (.ireturn, 1) := by decide +kernel
theorem dX4_arrival_0 : decode cX4_arrival 0 = .ok (.iload_n 0, 1) := by decide +kernel
theorem dX4_arrival_1 : decode cX4_arrival 1 = .ok (.bipush 16, 2) := by decide +kernel
theorem dX4_arrival_3 : decode cX4_arrival 3 = .ok (.ishr, 1) := by decide +kernel
theorem dX4_arrival_4 : decode cX4_arrival 4 = .ok (.ireturn, 1) := by decide +kernel
theorem dX4_origin_0 : decode cX4_origin 0 = .ok (.iload_n 0, 1) := by decide +kernel
theorem dX4_origin_1 : decode cX4_origin 1 = .ok (.iconst 3, 1) := by decide +kernel
theorem dX4_origin_2 : decode cX4_origin 2 = .ok (.ishr, 1) := by decide +kernel
theorem dX4_origin_3 : decode cX4_origin 3 = .ok (.bipush 7, 2) := by decide +kernel
theorem dX4_origin_5 : decode cX4_origin 5 = .ok (.iand, 1) := by decide +kernel
theorem dX4_origin_6 : decode cX4_origin 6 = .ok (.ireturn, 1) := by decide +kernel
theorem dX4_target_0 : decode cX4_target 0 = .ok (.iload_n 0, 1) := by decide +kernel
theorem dX4_target_1 : decode cX4_target 1 = .ok (.bipush 7, 2) := by decide +kernel
theorem dX4_target_3 : decode cX4_target 3 = .ok (.iand, 1) := by decide +kernel
theorem dX4_target_4 : decode cX4_target 4 = .ok (.ireturn, 1) := by decide +kernel
theorem dX4_copy_0 : decode cX4_copy 0 = .ok (.aload_n 0, 1) := by decide +kernel
theorem dX4_copy_1 : decode cX4_copy 1 = .ok (.aload_n 1, 1) := by decide +kernel
theorem dX4_copy_2 : decode cX4_copy 2 = .ok (.getfield 16, 3) := by decide +kernel
theorem dX4_copy_5 : decode cX4_copy 5 = .ok (.putfield 16, 3) := by decide +kernel
theorem dX4_copy_8 : decode cX4_copy 8 = .ok (.aload_n 1, 1) := by decide +kernel
theorem dX4_copy_9 : decode cX4_copy 9 = .ok (.getfield 9, 3) := by decide +kernel
theorem dX4_copy_12 : decode cX4_copy 12 = .ok (.iconst 0, 1) := by decide +kernel
theorem dX4_copy_13 : decode cX4_copy 13 = .ok (.aload_n 0, 1) := by decide +kernel
theorem dX4_copy_14 : decode cX4_copy 14 = .ok (.getfield 9, 3) := by decide +kernel
theorem dX4_copy_17 : decode cX4_copy 17 = .ok (.iconst 0, 1) := by decide +kernel
theorem dX4_copy_18 : decode cX4_copy 18 = .ok (.aload_n 0, 1) := by decide +kernel
theorem dX4_copy_19 : decode cX4_copy 19 = .ok (.getfield 16, 3) := by decide +kernel
theorem dX4_copy_22 : decode cX4_copy 22 = .ok (.invokestatic 20, 3) := by decide +kernel
theorem dX4_copy_25 : decode cX4_copy 25 = .ok (.return_, 1) := by decide +kernel
theorem dX4_add_0 : decode cX4_add 0 = .ok (.aload_n 0, 1) := by decide +kernel
theorem dX4_add_1 : decode cX4_add 1 = .ok (.getfield 16, 3) := by decide +kernel
theorem dX4_add_4 : decode cX4_add 4 = .ok (.aload_n 0, 1) := by decide +kernel
theorem dX4_add_5 : decode cX4_add 5 = .ok (.getfield 9, 3) := by decide +kernel
theorem dX4_add_8 : decode cX4_add 8 = .ok (.arraylength, 1) := by decide +kernel
theorem dX4_add_9 : decode cX4_add 9 = .ok (.if_icmp .ge 33, 3) := by decide +kernel
theorem dX4_add_12 : decode cX4_add 12 = .ok (.aload_n 0, 1) := by decide +kernel
theorem dX4_add_13 : decode cX4_add 13 = .ok (.getfield 9, 3) := by decide +kernel
theorem dX4_add_16 : decode cX4_add 16 = .ok (.aload_n 0, 1) := by decide +kernel
theorem dX4_add_17 : decode cX4_add 17 = .ok (.getfield 16, 3) := by decide +kernel
theorem dX4_add_20 : decode cX4_add 20 = .ok (.iload_n 1, 1) := by decide +kernel
theorem dX4_add_21 : decode cX4_add 21 = .ok (.iastore, 1) := by decide +kernel
theorem dX4_add_22 : decode cX4_add 22 = .ok (.aload_n 0, 1) := by decide +kernel
theorem dX4_add_23 : decode cX4_add 23 = .ok (.dup, 1) := by decide +kernel
theorem dX4_add_24 : decode cX4_add 24 = .ok (.getfield 16, 3) := by decide +kernel
theorem dX4_add_27 : decode cX4_add 27 = .ok (.iconst 1, 1) := by decide +kernel
theorem dX4_add_28 : decode cX4_add 28 = .ok (.iadd, 1) := by decide +kernel
theorem dX4_add_29 : decode cX4_add 29 = .ok (.putfield 16, 3) := by decide +kernel
theorem dX4_add_32 : decode cX4_add 32 = .ok (.aload_n 0, 1) := by decide +kernel
theorem dX4_add_33 : decode cX4_add 33 = .ok (.aload_n 0, 1) := by decide +kernel
theorem dX4_add_34 : decode cX4_add 34 = .ok (.getfield 16, 3) := by decide +kernel
theorem dX4_add_37 : decode cX4_add 37 = .ok (.iconst 1, 1) := by decide +kernel
theorem dX4_add_38 : decode cX4_add 38 = .ok (.isub, 1) := by decide +kernel
theorem dX4_add_39 : decode cX4_add 39 = .ok (.invokevirtual 26, 3) := by decide +kernel
theorem dX4_add_42 : decode cX4_add 42 = .ok (.return_, 1) := by decide +kernel
theorem dX4_arrivedBy_0 : decode cX4_arrivedBy 0 = .ok (.iconst 0, 1) := by decide +kernel
theorem dX4_arrivedBy_1 : decode cX4_arrivedBy 1 = .ok (.istore_n 2, 1) := by decide +kernel
theorem dX4_arrivedBy_2 : decode cX4_arrivedBy 2 = .ok (.iload_n 2, 1) := by decide +kernel
theorem dX4_arrivedBy_3 : decode cX4_arrivedBy 3 = .ok (.aload_n 0, 1) := by decide +kernel
theorem dX4_arrivedBy_4 : decode cX4_arrivedBy 4 = .ok (.getfield 16, 3) := by decide +kernel
theorem dX4_arrivedBy_7 : decode cX4_arrivedBy 7 = .ok (.if_icmp .ge 22, 3) := by decide +kernel
theorem dX4_arrivedBy_10 : decode cX4_arrivedBy 10 = .ok (.aload_n 0, 1) := by decide +kernel
theorem dX4_arrivedBy_11 : decode cX4_arrivedBy 11 = .ok (.getfield 9, 3) := by decide +kernel
theorem dX4_arrivedBy_14 : decode cX4_arrivedBy 14 = .ok (.iload_n 2, 1) := by decide +kernel
theorem dX4_arrivedBy_15 : decode cX4_arrivedBy 15 = .ok (.iaload, 1) := by decide +kernel
theorem dX4_arrivedBy_16 : decode cX4_arrivedBy 16 = .ok (.invokestatic 30, 3) := by decide +kernel
theorem dX4_arrivedBy_19 : decode cX4_arrivedBy 19 = .ok (.iload_n 1, 1) := by decide +kernel
theorem dX4_arrivedBy_20 : decode cX4_arrivedBy 20 = .ok (.if_icmp .gt 9, 3) := by decide +kernel
theorem dX4_arrivedBy_23 : decode cX4_arrivedBy 23 = .ok (.iinc 2 1, 3) := by decide +kernel
theorem dX4_arrivedBy_26 : decode cX4_arrivedBy 26 = .ok (.goto (-24), 3) := by decide +kernel
theorem dX4_arrivedBy_29 : decode cX4_arrivedBy 29 = .ok (.iload_n 2, 1) := by decide +kernel
theorem dX4_arrivedBy_30 : decode cX4_arrivedBy 30 = .ok (.ireturn, 1) := by decide +kernel
theorem dX4_keepOfFront_0 : decode cX4_keepOfFront 0 = .ok (.iload_n 2, 1) := by decide +kernel
theorem dX4_keepOfFront_1 : decode cX4_keepOfFront 1 = .ok (.ifCond .lt 16, 3) := by decide +kernel
theorem dX4_keepOfFront_4 : decode cX4_keepOfFront 4 = .ok (.iload_n 2, 1) := by decide +kernel
theorem dX4_keepOfFront_5 : decode cX4_keepOfFront 5 = .ok (.iload_n 1, 1) := by decide +kernel
theorem dX4_keepOfFront_6 : decode cX4_keepOfFront 6 = .ok (.if_icmp .gt 11, 3) := by decide +kernel
theorem dX4_keepOfFront_9 : decode cX4_keepOfFront 9 = .ok (.iload_n 1, 1) := by decide +kernel
theorem dX4_keepOfFront_10 : decode cX4_keepOfFront 10 = .ok (.aload_n 0, 1) := by decide +kernel
theorem dX4_keepOfFront_11 : decode cX4_keepOfFront 11 = .ok (.getfield 16, 3) := by decide +kernel
theorem dX4_keepOfFront_14 : decode cX4_keepOfFront 14 = .ok (.if_icmp .le 4, 3) := by decide +kernel
theorem dX4_keepOfFront_17 : decode cX4_keepOfFront 17 = .ok (.return_, 1) := by decide +kernel
theorem dX4_keepOfFront_18 : decode cX4_keepOfFront 18 = .ok (.aload_n 0, 1) := by decide +kernel
theorem dX4_keepOfFront_19 : decode cX4_keepOfFront 19 = .ok (.getfield 9, 3) := by decide +kernel
theorem dX4_keepOfFront_22 : decode cX4_keepOfFront 22 = .ok (.iload_n 1, 1) := by decide +kernel
theorem dX4_keepOfFront_23 : decode cX4_keepOfFront 23 = .ok (.aload_n 0, 1) := by decide +kernel
theorem dX4_keepOfFront_24 : decode cX4_keepOfFront 24 = .ok (.getfield 9, 3) := by decide +kernel
theorem dX4_keepOfFront_27 : decode cX4_keepOfFront 27 = .ok (.iload_n 2, 1) := by decide +kernel
theorem dX4_keepOfFront_28 : decode cX4_keepOfFront 28 = .ok (.aload_n 0, 1) := by decide +kernel
theorem dX4_keepOfFront_29 : decode cX4_keepOfFront 29 = .ok (.getfield 16, 3) := by decide +kernel
theorem dX4_keepOfFront_32 : decode cX4_keepOfFront 32 = .ok (.iload_n 1, 1) := by decide +kernel
theorem dX4_keepOfFront_33 : decode cX4_keepOfFront 33 = .ok (.isub, 1) := by decide +kernel
theorem dX4_keepOfFront_34 : decode cX4_keepOfFront 34 = .ok (.invokestatic 20, 3) := by decide +kernel
theorem dX4_keepOfFront_37 : decode cX4_keepOfFront 37 = .ok (.aload_n 0, 1) := by decide +kernel
theorem dX4_keepOfFront_38 : decode cX4_keepOfFront 38 = .ok (.dup, 1) := by decide +kernel
theorem dX4_keepOfFront_39 : decode cX4_keepOfFront 39 = .ok (.getfield 16, 3) := by decide +kernel
theorem dX4_keepOfFront_42 : decode cX4_keepOfFront 42 = .ok (.iload_n 1, 1) := by decide +kernel
theorem dX4_keepOfFront_43 : decode cX4_keepOfFront 43 = .ok (.iload_n 2, 1) := by decide +kernel
theorem dX4_keepOfFront_44 : decode cX4_keepOfFront 44 = .ok (.isub, 1) := by decide +kernel
theorem dX4_keepOfFront_45 : decode cX4_keepOfFront 45 = .ok (.isub, 1) := by decide +kernel
theorem dX4_keepOfFront_46 : decode cX4_keepOfFront 46 = .ok (.putfield 16, 3) := by decide +kernel
theorem dX4_keepOfFront_49 : decode cX4_keepOfFront 49 = .ok (.iload_n 2, 1) := by decide +kernel
theorem dX4_keepOfFront_50 : decode cX4_keepOfFront 50 = .ok (.ifCond .le 24, 3) := by decide +kernel
theorem dX4_keepOfFront_53 : decode cX4_keepOfFront 53 = .ok (.iconst 1, 1) := by decide +kernel
theorem dX4_keepOfFront_54 : decode cX4_keepOfFront 54 = .ok (.istore_n 3, 1) := by decide +kernel
theorem dX4_keepOfFront_55 : decode cX4_keepOfFront 55 = .ok (.iload_n 3, 1) := by decide +kernel
theorem dX4_keepOfFront_56 : decode cX4_keepOfFront 56 = .ok (.aload_n 0, 1) := by decide +kernel
theorem dX4_keepOfFront_57 : decode cX4_keepOfFront 57 = .ok (.getfield 16, 3) := by decide +kernel
theorem dX4_keepOfFront_60 : decode cX4_keepOfFront 60 = .ok (.if_icmp .ge 14, 3) := by decide +kernel
theorem dX4_keepOfFront_63 : decode cX4_keepOfFront 63 = .ok (.aload_n 0, 1) := by decide +kernel
theorem dX4_keepOfFront_64 : decode cX4_keepOfFront 64 = .ok (.iload_n 3, 1) := by decide +kernel
theorem dX4_keepOfFront_65 : decode cX4_keepOfFront 65 = .ok (.invokevirtual 26, 3) := by decide +kernel
theorem dX4_keepOfFront_68 : decode cX4_keepOfFront 68 = .ok (.iinc 3 1, 3) := by decide +kernel
theorem dX4_keepOfFront_71 : decode cX4_keepOfFront 71 = .ok (.goto (-16), 3) := by decide +kernel
theorem dX4_keepOfFront_74 : decode cX4_keepOfFront 74 = .ok (.return_, 1) := by decide +kernel
theorem dX4_settle_0 : decode cX4_settle 0 = .ok (.aload_n 0, 1) := by decide +kernel
theorem dX4_settle_1 : decode cX4_settle 1 = .ok (.getfield 9, 3) := by decide +kernel
theorem dX4_settle_4 : decode cX4_settle 4 = .ok (.iload_n 1, 1) := by decide +kernel
theorem dX4_settle_5 : decode cX4_settle 5 = .ok (.iaload, 1) := by decide +kernel
theorem dX4_settle_6 : decode cX4_settle 6 = .ok (.istore_n 2, 1) := by decide +kernel
theorem dX4_settle_7 : decode cX4_settle 7 = .ok (.iload_n 1, 1) := by decide +kernel
theorem dX4_settle_8 : decode cX4_settle 8 = .ok (.istore_n 3, 1) := by decide +kernel
theorem dX4_settle_9 : decode cX4_settle 9 = .ok (.iload_n 3, 1) := by decide +kernel
theorem dX4_settle_10 : decode cX4_settle 10 = .ok (.ifCond .le 35, 3) := by decide +kernel
theorem dX4_settle_13 : decode cX4_settle 13 = .ok (.aload_n 0, 1) := by decide +kernel
theorem dX4_settle_14 : decode cX4_settle 14 = .ok (.getfield 9, 3) := by decide +kernel
theorem dX4_settle_17 : decode cX4_settle 17 = .ok (.iload_n 3, 1) := by decide +kernel
theorem dX4_settle_18 : decode cX4_settle 18 = .ok (.iconst 1, 1) := by decide +kernel
theorem dX4_settle_19 : decode cX4_settle 19 = .ok (.isub, 1) := by decide +kernel
theorem dX4_settle_20 : decode cX4_settle 20 = .ok (.iaload, 1) := by decide +kernel
theorem dX4_settle_21 : decode cX4_settle 21 = .ok (.iload_n 2, 1) := by decide +kernel
theorem dX4_settle_22 : decode cX4_settle 22 = .ok (.if_icmp .le 23, 3) := by decide +kernel
theorem dX4_settle_25 : decode cX4_settle 25 = .ok (.aload_n 0, 1) := by decide +kernel
theorem dX4_settle_26 : decode cX4_settle 26 = .ok (.getfield 9, 3) := by decide +kernel
theorem dX4_settle_29 : decode cX4_settle 29 = .ok (.iload_n 3, 1) := by decide +kernel
theorem dX4_settle_30 : decode cX4_settle 30 = .ok (.aload_n 0, 1) := by decide +kernel
theorem dX4_settle_31 : decode cX4_settle 31 = .ok (.getfield 9, 3) := by decide +kernel
theorem dX4_settle_34 : decode cX4_settle 34 = .ok (.iload_n 3, 1) := by decide +kernel
theorem dX4_settle_35 : decode cX4_settle 35 = .ok (.iconst 1, 1) := by decide +kernel
theorem dX4_settle_36 : decode cX4_settle 36 = .ok (.isub, 1) := by decide +kernel
theorem dX4_settle_37 : decode cX4_settle 37 = .ok (.iaload, 1) := by decide +kernel
theorem dX4_settle_38 : decode cX4_settle 38 = .ok (.iastore, 1) := by decide +kernel
theorem dX4_settle_39 : decode cX4_settle 39 = .ok (.iinc 3 (-1), 3) := by decide +kernel
theorem dX4_settle_42 : decode cX4_settle 42 = .ok (.goto (-33), 3) := by decide +kernel
theorem dX4_settle_45 : decode cX4_settle 45 = .ok (.aload_n 0, 1) := by decide +kernel
theorem dX4_settle_46 : decode cX4_settle 46 = .ok (.getfield 9, 3) := by decide +kernel
theorem dX4_settle_49 : decode cX4_settle 49 = .ok (.iload_n 3, 1) := by decide +kernel
theorem dX4_settle_50 : decode cX4_settle 50 = .ok (.iload_n 2, 1) := by decide +kernel
theorem dX4_settle_51 : decode cX4_settle 51 = .ok (.iastore, 1) := by decide +kernel
theorem dX4_settle_52 : decode cX4_settle 52 = .ok (.return_, 1) := by decide +kernel
theorem dX5_init_0 : decode cX5_init 0 = .ok (.aload_n 0, 1) := by decide +kernel
theorem dX5_init_1 : decode cX5_init 1 = .ok (.invokespecial 3, 3) := by decide +kernel
theorem dX5_init_4 : decode cX5_init 4 = .ok (.aload_n 0, 1) := by decide +kernel
theorem dX5_init_5 : decode cX5_init 5 = .ok (.bipush 8, 2) := by decide +kernel
theorem dX5_init_7 : decode cX5_init 7 = .ok (.newarray .int, 2) := by decide +kernel
theorem dX5_init_9 : decode cX5_init 9 = .ok (.putfield 9, 3) := by decide +kernel
theorem dX5_init_12 : decode cX5_init 12 = .ok (.aload_n 0, 1) := by decide +kernel
theorem dX5_init_13 : decode cX5_init 13 = .ok (.bipush 8, 2) := by decide +kernel
theorem dX5_init_15 : decode cX5_init 15 = .ok (.newarray .int, 2) := by decide +kernel
theorem dX5_init_17 : decode cX5_init 17 = .ok (.putfield 15, 3) := by decide +kernel
theorem dX5_init_20 : decode cX5_init 20 = .ok (.aload_n 0, 1) := by decide +kernel
theorem dX5_init_21 : decode cX5_init 21 = .ok (.bipush 64, 2) := by decide +kernel
theorem dX5_init_23 : decode cX5_init 23 = .ok (.newarray .int, 2) := by decide +kernel
theorem dX5_init_25 : decode cX5_init 25 = .ok (.putfield 18, 3) := by decide +kernel
theorem dX5_init_28 : decode cX5_init 28 = .ok (.aload_n 0, 1) := by decide +kernel
theorem dX5_init_29 : decode cX5_init 29 = .ok (.bipush 64, 2) := by decide +kernel
theorem dX5_init_31 : decode cX5_init 31 = .ok (.newarray .int, 2) := by decide +kernel
theorem dX5_init_33 : decode cX5_init 33 = .ok (.putfield 21, 3) := by decide +kernel
theorem dX5_init_36 : decode cX5_init 36 = .ok (.aload_n 0, 1) := by decide +kernel
theorem dX5_init_37 : decode cX5_init 37 = .ok (.iconst 3, 1) := by decide +kernel
theorem dX5_init_38 : decode cX5_init 38 = .ok (.anewarray 24, 3) := by decide +kernel
theorem dX5_init_41 : decode cX5_init 41 = .ok (.putfield 26, 3) := by decide +kernel
theorem dX5_init_44 : decode cX5_init 44 = .ok (.aload_n 0, 1) := by decide +kernel
theorem dX5_init_45 : decode cX5_init 45 = .ok (.new 30, 3) := by decide +kernel
theorem dX5_init_48 : decode cX5_init 48 = .ok (.dup, 1) := by decide +kernel
theorem dX5_init_49 : decode cX5_init 49 = .ok (.invokespecial 32, 3) := by decide +kernel
theorem dX5_init_52 : decode cX5_init 52 = .ok (.putfield 33, 3) := by decide +kernel
theorem dX5_init_55 : decode cX5_init 55 = .ok (.iconst 0, 1) := by decide +kernel
theorem dX5_init_56 : decode cX5_init 56 = .ok (.istore_n 2, 1) := by decide +kernel
theorem dX5_init_57 : decode cX5_init 57 = .ok (.iload_n 2, 1) := by decide +kernel
theorem dX5_init_58 : decode cX5_init 58 = .ok (.iconst 3, 1) := by decide +kernel
theorem dX5_init_59 : decode cX5_init 59 = .ok (.if_icmp .ge 22, 3) := by decide +kernel
theorem dX5_init_62 : decode cX5_init 62 = .ok (.aload_n 0, 1) := by decide +kernel
theorem dX5_init_63 : decode cX5_init 63 = .ok (.getfield 26, 3) := by decide +kernel
theorem dX5_init_66 : decode cX5_init 66 = .ok (.iload_n 2, 1) := by decide +kernel
theorem dX5_init_67 : decode cX5_init 67 = .ok (.new 24, 3) := by decide +kernel
theorem dX5_init_70 : decode cX5_init 70 = .ok (.dup, 1) := by decide +kernel
theorem dX5_init_71 : decode cX5_init 71 = .ok (.invokespecial 37, 3) := by decide +kernel
theorem dX5_init_74 : decode cX5_init 74 = .ok (.aastore, 1) := by decide +kernel
theorem dX5_init_75 : decode cX5_init 75 = .ok (.iinc 2 1, 3) := by decide +kernel
theorem dX5_init_78 : decode cX5_init 78 = .ok (.goto (-21), 3) := by decide +kernel
theorem dX5_init_81 : decode cX5_init 81 = .ok (.aload_n 0, 1) := by decide +kernel
theorem dX5_init_82 : decode cX5_init 82 = .ok (.aload_n 1, 1) := by decide +kernel
theorem dX5_init_83 : decode cX5_init 83 = .ok (.invokevirtual 38, 3) := by decide +kernel
theorem dX5_init_86 : decode cX5_init 86 = .ok (.return_, 1) := by decide +kernel
theorem dX5_begin_0 : decode cX5_begin 0 = .ok (.aload_n 0, 1) := by decide +kernel
theorem dX5_begin_1 : decode cX5_begin 1 = .ok (.aload_n 1, 1) := by decide +kernel
theorem dX5_begin_2 : decode cX5_begin 2 = .ok (.putfield 42, 3) := by decide +kernel
theorem dX5_begin_5 : decode cX5_begin 5 = .ok (.aload_n 0, 1) := by decide +kernel
theorem dX5_begin_6 : decode cX5_begin 6 = .ok (.iconst 0, 1) := by decide +kernel
theorem dX5_begin_7 : decode cX5_begin 7 = .ok (.putfield 46, 3) := by decide +kernel
theorem dX5_begin_10 : decode cX5_begin 10 = .ok (.aload_n 0, 1) := by decide +kernel
theorem dX5_begin_11 : decode cX5_begin 11 = .ok (.iconst 0, 1) := by decide +kernel
theorem dX5_begin_12 : decode cX5_begin 12 = .ok (.putfield 50, 3) := by decide +kernel
theorem dX5_begin_15 : decode cX5_begin 15 = .ok (.aload_n 0, 1) := by decide +kernel
theorem dX5_begin_16 : decode cX5_begin 16 = .ok (.iconst 0, 1) := by decide +kernel
theorem dX5_begin_17 : decode cX5_begin 17 = .ok (.putfield 53, 3) := by decide +kernel
theorem dX5_begin_20 : decode cX5_begin 20 = .ok (.aload_n 0, 1) := by decide +kernel
theorem dX5_begin_21 : decode cX5_begin 21 = .ok (.iconst 0, 1) := by decide +kernel
theorem dX5_begin_22 : decode cX5_begin 22 = .ok (.putfield 56, 3) := by decide +kernel
theorem dX5_begin_25 : decode cX5_begin 25 = .ok (.aload_n 0, 1) := by decide +kernel
theorem dX5_begin_26 : decode cX5_begin 26 = .ok (.iconst 0, 1) := by decide +kernel
theorem dX5_begin_27 : decode cX5_begin 27 = .ok (.putfield 59, 3) := by decide +kernel
theorem dX5_begin_30 : decode cX5_begin 30 = .ok (.aload_n 0, 1) := by decide +kernel
theorem dX5_begin_31 : decode cX5_begin 31 = .ok (.iconst 0, 1) := by decide +kernel
theorem dX5_begin_32 : decode cX5_begin 32 = .ok (.putfield 62, 3) := by decide +kernel
theorem dX5_begin_35 : decode cX5_begin 35 = .ok (.aload_n 0, 1) := by decide +kernel
theorem dX5_begin_36 : decode cX5_begin 36 = .ok (.getfield 33, 3) := by decide +kernel
theorem dX5_begin_39 : decode cX5_begin 39 = .ok (.iconst 0, 1) := by decide +kernel
theorem dX5_begin_40 : decode cX5_begin 40 = .ok (.putfield 65, 3) := by decide +kernel
theorem dX5_begin_43 : decode cX5_begin 43 = .ok (.aload_n 0, 1) := by decide +kernel
theorem dX5_begin_44 : decode cX5_begin 44 = .ok (.getfield 42, 3) := by decide +kernel
theorem dX5_begin_47 : decode cX5_begin 47 = .ok (.getfield 68, 3) := by decide +kernel
theorem dX5_begin_50 : decode cX5_begin 50 = .ok (.iconst 0, 1) := by decide +kernel
theorem dX5_begin_51 : decode cX5_begin 51 = .ok (.aload_n 0, 1) := by decide +kernel
theorem dX5_begin_52 : decode cX5_begin 52 = .ok (.getfield 9, 3) := by decide +kernel
theorem dX5_begin_55 : decode cX5_begin 55 = .ok (.iconst 0, 1) := by decide +kernel
theorem dX5_begin_56 : decode cX5_begin 56 = .ok (.bipush 8, 2) := by decide +kernel
theorem dX5_begin_58 : decode cX5_begin 58 = .ok (.invokestatic 71, 3) := by decide +kernel
theorem dX5_begin_61 : decode cX5_begin 61 = .ok (.aload_n 0, 1) := by decide +kernel
theorem dX5_begin_62 : decode cX5_begin 62 = .ok (.getfield 15, 3) := by decide +kernel
theorem dX5_begin_65 : decode cX5_begin 65 = .ok (.iconst 0, 1) := by decide +kernel
theorem dX5_begin_66 : decode cX5_begin 66 = .ok (.invokestatic 77, 3) := by decide +kernel
theorem dX5_begin_69 : decode cX5_begin 69 = .ok (.aload_n 0, 1) := by decide +kernel
theorem dX5_begin_70 : decode cX5_begin 70 = .ok (.getfield 18, 3) := by decide +kernel
theorem dX5_begin_73 : decode cX5_begin 73 = .ok (.iconst 0, 1) := by decide +kernel
theorem dX5_begin_74 : decode cX5_begin 74 = .ok (.invokestatic 77, 3) := by decide +kernel
theorem dX5_begin_77 : decode cX5_begin 77 = .ok (.aload_n 0, 1) := by decide +kernel
theorem dX5_begin_78 : decode cX5_begin 78 = .ok (.getfield 21, 3) := by decide +kernel
theorem dX5_begin_81 : decode cX5_begin 81 = .ok (.iconst 0, 1) := by decide +kernel
theorem dX5_begin_82 : decode cX5_begin 82 = .ok (.invokestatic 77, 3) := by decide +kernel
theorem dX5_begin_85 : decode cX5_begin 85 = .ok (.iconst 0, 1) := by decide +kernel
theorem dX5_begin_86 : decode cX5_begin 86 = .ok (.istore_n 2, 1) := by decide +kernel
theorem dX5_begin_87 : decode cX5_begin 87 = .ok (.iload_n 2, 1) := by decide +kernel
theorem dX5_begin_88 : decode cX5_begin 88 = .ok (.iconst 3, 1) := by decide +kernel
theorem dX5_begin_89 : decode cX5_begin 89 = .ok (.if_icmp .ge 36, 3) := by decide +kernel
theorem dX5_begin_92 : decode cX5_begin 92 = .ok (.aload_n 0, 1) := by decide +kernel
theorem dX5_begin_93 : decode cX5_begin 93 = .ok (.getfield 26, 3) := by decide +kernel
theorem dX5_begin_96 : decode cX5_begin 96 = .ok (.iload_n 2, 1) := by decide +kernel
theorem dX5_begin_97 : decode cX5_begin 97 = .ok (.aaload, 1) := by decide +kernel
theorem dX5_begin_98 : decode cX5_begin 98 = .ok (.aload_n 0, 1) := by decide +kernel
theorem dX5_begin_99 : decode cX5_begin 99 = .ok (.getfield 42, 3) := by decide +kernel
theorem dX5_begin_102 : decode cX5_begin 102 = .ok (.getfield 83, 3) := by decide +kernel
theorem dX5_begin_105 : decode cX5_begin 105 = .ok (.iload_n 2, 1) := by decide +kernel
theorem dX5_begin_106 : decode cX5_begin 106 = .ok (.iaload, 1) := by decide +kernel
theorem dX5_begin_107 : decode cX5_begin 107 = .ok (.aload_n 0, 1) := by decide +kernel
theorem dX5_begin_108 : decode cX5_begin 108 = .ok (.getfield 42, 3) := by decide +kernel
theorem dX5_begin_111 : decode cX5_begin 111 = .ok (.getfield 86, 3) := by decide +kernel
theorem dX5_begin_114 : decode cX5_begin 114 = .ok (.iload_n 2, 1) := by decide +kernel
theorem dX5_begin_115 : decode cX5_begin 115 = .ok (.iaload, 1) := by decide +kernel
theorem dX5_begin_116 : decode cX5_begin 116 = .ok (.invokevirtual 89, 3) := by decide +kernel
theorem dX5_begin_119 : decode cX5_begin 119 = .ok (.iinc 2 1, 3) := by decide +kernel
theorem dX5_begin_122 : decode cX5_begin 122 = .ok (.goto (-35), 3) := by decide +kernel
theorem dX5_begin_125 : decode cX5_begin 125 = .ok (.return_, 1) := by decide +kernel
theorem dX5_copy_0 : decode cX5_copy 0 = .ok (.aload_n 0, 1) := by decide +kernel
theorem dX5_copy_1 : decode cX5_copy 1 = .ok (.aload_n 1, 1) := by decide +kernel
theorem dX5_copy_2 : decode cX5_copy 2 = .ok (.getfield 42, 3) := by decide +kernel
theorem dX5_copy_5 : decode cX5_copy 5 = .ok (.putfield 42, 3) := by decide +kernel
theorem dX5_copy_8 : decode cX5_copy 8 = .ok (.aload_n 0, 1) := by decide +kernel
theorem dX5_copy_9 : decode cX5_copy 9 = .ok (.aload_n 1, 1) := by decide +kernel
theorem dX5_copy_10 : decode cX5_copy 10 = .ok (.getfield 46, 3) := by decide +kernel
theorem dX5_copy_13 : decode cX5_copy 13 = .ok (.putfield 46, 3) := by decide +kernel
theorem dX5_copy_16 : decode cX5_copy 16 = .ok (.aload_n 0, 1) := by decide +kernel
theorem dX5_copy_17 : decode cX5_copy 17 = .ok (.aload_n 1, 1) := by decide +kernel
theorem dX5_copy_18 : decode cX5_copy 18 = .ok (.getfield 50, 3) := by decide +kernel
theorem dX5_copy_21 : decode cX5_copy 21 = .ok (.putfield 50, 3) := by decide +kernel
theorem dX5_copy_24 : decode cX5_copy 24 = .ok (.aload_n 0, 1) := by decide +kernel
theorem dX5_copy_25 : decode cX5_copy 25 = .ok (.aload_n 1, 1) := by decide +kernel
theorem dX5_copy_26 : decode cX5_copy 26 = .ok (.getfield 53, 3) := by decide +kernel
theorem dX5_copy_29 : decode cX5_copy 29 = .ok (.putfield 53, 3) := by decide +kernel
theorem dX5_copy_32 : decode cX5_copy 32 = .ok (.aload_n 0, 1) := by decide +kernel
theorem dX5_copy_33 : decode cX5_copy 33 = .ok (.aload_n 1, 1) := by decide +kernel
theorem dX5_copy_34 : decode cX5_copy 34 = .ok (.getfield 56, 3) := by decide +kernel
theorem dX5_copy_37 : decode cX5_copy 37 = .ok (.putfield 56, 3) := by decide +kernel
theorem dX5_copy_40 : decode cX5_copy 40 = .ok (.aload_n 0, 1) := by decide +kernel
theorem dX5_copy_41 : decode cX5_copy 41 = .ok (.aload_n 1, 1) := by decide +kernel
theorem dX5_copy_42 : decode cX5_copy 42 = .ok (.getfield 59, 3) := by decide +kernel
theorem dX5_copy_45 : decode cX5_copy 45 = .ok (.putfield 59, 3) := by decide +kernel
theorem dX5_copy_48 : decode cX5_copy 48 = .ok (.aload_n 0, 1) := by decide +kernel
theorem dX5_copy_49 : decode cX5_copy 49 = .ok (.aload_n 1, 1) := by decide +kernel
theorem dX5_copy_50 : decode cX5_copy 50 = .ok (.getfield 62, 3) := by decide +kernel
theorem dX5_copy_53 : decode cX5_copy 53 = .ok (.putfield 62, 3) := by decide +kernel
theorem dX5_copy_56 : decode cX5_copy 56 = .ok (.aload_n 0, 1) := by decide +kernel
theorem dX5_copy_57 : decode cX5_copy 57 = .ok (.getfield 33, 3) := by decide +kernel
theorem dX5_copy_60 : decode cX5_copy 60 = .ok (.aload_n 1, 1) := by decide +kernel
theorem dX5_copy_61 : decode cX5_copy 61 = .ok (.getfield 33, 3) := by decide +kernel
theorem dX5_copy_64 : decode cX5_copy 64 = .ok (.invokevirtual 92, 3) := by decide +kernel
theorem dX5_copy_67 : decode cX5_copy 67 = .ok (.aload_n 1, 1) := by decide +kernel
theorem dX5_copy_68 : decode cX5_copy 68 = .ok (.getfield 9, 3) := by decide +kernel
theorem dX5_copy_71 : decode cX5_copy 71 = .ok (.iconst 0, 1) := by decide +kernel
theorem dX5_copy_72 : decode cX5_copy 72 = .ok (.aload_n 0, 1) := by decide +kernel
theorem dX5_copy_73 : decode cX5_copy 73 = .ok (.getfield 9, 3) := by decide +kernel
theorem dX5_copy_76 : decode cX5_copy 76 = .ok (.iconst 0, 1) := by decide +kernel
theorem dX5_copy_77 : decode cX5_copy 77 = .ok (.bipush 8, 2) := by decide +kernel
theorem dX5_copy_79 : decode cX5_copy 79 = .ok (.invokestatic 71, 3) := by decide +kernel
theorem dX5_copy_82 : decode cX5_copy 82 = .ok (.aload_n 1, 1) := by decide +kernel
theorem dX5_copy_83 : decode cX5_copy 83 = .ok (.getfield 15, 3) := by decide +kernel
theorem dX5_copy_86 : decode cX5_copy 86 = .ok (.iconst 0, 1) := by decide +kernel
theorem dX5_copy_87 : decode cX5_copy 87 = .ok (.aload_n 0, 1) := by decide +kernel
theorem dX5_copy_88 : decode cX5_copy 88 = .ok (.getfield 15, 3) := by decide +kernel
theorem dX5_copy_91 : decode cX5_copy 91 = .ok (.iconst 0, 1) := by decide +kernel
theorem dX5_copy_92 : decode cX5_copy 92 = .ok (.bipush 8, 2) := by decide +kernel
theorem dX5_copy_94 : decode cX5_copy 94 = .ok (.invokestatic 71, 3) := by decide +kernel
theorem dX5_copy_97 : decode cX5_copy 97 = .ok (.aload_n 1, 1) := by decide +kernel
theorem dX5_copy_98 : decode cX5_copy 98 = .ok (.getfield 18, 3) := by decide +kernel
theorem dX5_copy_101 : decode cX5_copy 101 = .ok (.iconst 0, 1) := by decide +kernel
theorem dX5_copy_102 : decode cX5_copy 102 = .ok (.aload_n 0, 1) := by decide +kernel
theorem dX5_copy_103 : decode cX5_copy 103 = .ok (.getfield 18, 3) := by decide +kernel
theorem dX5_copy_106 : decode cX5_copy 106 = .ok (.iconst 0, 1) := by decide +kernel
theorem dX5_copy_107 : decode cX5_copy 107 = .ok (.aload_n 0, 1) := by decide +kernel
theorem dX5_copy_108 : decode cX5_copy 108 = .ok (.getfield 18, 3) := by decide +kernel
theorem dX5_copy_111 : decode cX5_copy 111 = .ok (.arraylength, 1) := by decide +kernel
theorem dX5_copy_112 : decode cX5_copy 112 = .ok (.invokestatic 71, 3) := by decide +kernel
theorem dX5_copy_115 : decode cX5_copy 115 = .ok (.aload_n 1, 1) := by decide +kernel
theorem dX5_copy_116 : decode cX5_copy 116 = .ok (.getfield 21, 3) := by decide +kernel
theorem dX5_copy_119 : decode cX5_copy 119 = .ok (.iconst 0, 1) := by decide +kernel
theorem dX5_copy_120 : decode cX5_copy 120 = .ok (.aload_n 0, 1) := by decide +kernel
theorem dX5_copy_121 : decode cX5_copy 121 = .ok (.getfield 21, 3) := by decide +kernel
theorem dX5_copy_124 : decode cX5_copy 124 = .ok (.iconst 0, 1) := by decide +kernel
theorem dX5_copy_125 : decode cX5_copy 125 = .ok (.aload_n 0, 1) := by decide +kernel
theorem dX5_copy_126 : decode cX5_copy 126 = .ok (.getfield 21, 3) := by decide +kernel
theorem dX5_copy_129 : decode cX5_copy 129 = .ok (.arraylength, 1) := by decide +kernel
theorem dX5_copy_130 : decode cX5_copy 130 = .ok (.invokestatic 71, 3) := by decide +kernel
theorem dX5_copy_133 : decode cX5_copy 133 = .ok (.iconst 0, 1) := by decide +kernel
theorem dX5_copy_134 : decode cX5_copy 134 = .ok (.istore_n 2, 1) := by decide +kernel
theorem dX5_copy_135 : decode cX5_copy 135 = .ok (.iload_n 2, 1) := by decide +kernel
theorem dX5_copy_136 : decode cX5_copy 136 = .ok (.iconst 3, 1) := by decide +kernel
theorem dX5_copy_137 : decode cX5_copy 137 = .ok (.if_icmp .ge 24, 3) := by decide +kernel
theorem dX5_copy_140 : decode cX5_copy 140 = .ok (.aload_n 0, 1) := by decide +kernel
theorem dX5_copy_141 : decode cX5_copy 141 = .ok (.getfield 26, 3) := by decide +kernel
theorem dX5_copy_144 : decode cX5_copy 144 = .ok (.iload_n 2, 1) := by decide +kernel
theorem dX5_copy_145 : decode cX5_copy 145 = .ok (.aaload, 1) := by decide +kernel
theorem dX5_copy_146 : decode cX5_copy 146 = .ok (.aload_n 1, 1) := by decide +kernel
theorem dX5_copy_147 : decode cX5_copy 147 = .ok (.getfield 26, 3) := by decide +kernel
theorem dX5_copy_150 : decode cX5_copy 150 = .ok (.iload_n 2, 1) := by decide +kernel
theorem dX5_copy_151 : decode cX5_copy 151 = .ok (.aaload, 1) := by decide +kernel
theorem dX5_copy_152 : decode cX5_copy 152 = .ok (.invokevirtual 96, 3) := by decide +kernel
theorem dX5_copy_155 : decode cX5_copy 155 = .ok (.iinc 2 1, 3) := by decide +kernel
theorem dX5_copy_158 : decode cX5_copy 158 = .ok (.goto (-23), 3) := by decide +kernel
theorem dX5_copy_161 : decode cX5_copy 161 = .ok (.return_, 1) := by decide +kernel
theorem dX5_working_0 : decode cX5_working 0 = .ok (.aload_n 0, 1) := by decide +kernel
theorem dX5_working_1 : decode cX5_working 1 = .ok (.getfield 42, 3) := by decide +kernel
theorem dX5_working_4 : decode cX5_working 4 = .ok (.getfield 99, 3) := by decide +kernel
theorem dX5_working_7 : decode cX5_working 7 = .ok (.iload_n 1, 1) := by decide +kernel
theorem dX5_working_8 : decode cX5_working 8 = .ok (.iaload, 1) := by decide +kernel
theorem dX5_working_9 : decode cX5_working 9 = .ok (.aload_n 0, 1) := by decide +kernel
theorem dX5_working_10 : decode cX5_working 10 = .ok (.getfield 15, 3) := by decide +kernel
theorem dX5_working_13 : decode cX5_working 13 = .ok (.iload_n 1, 1) := by decide +kernel
theorem dX5_working_14 : decode cX5_working 14 = .ok (.iaload, 1) := by decide +kernel
theorem dX5_working_15 : decode cX5_working 15 = .ok (.isub, 1) := by decide +kernel
theorem dX5_working_16 : decode cX5_working 16 = .ok (.ireturn, 1) := by decide +kernel
theorem dX5_free_0 : decode cX5_free 0 = .ok (.aload_n 0, 1) := by decide +kernel
theorem dX5_free_1 : decode cX5_free 1 = .ok (.getfield 42, 3) := by decide +kernel
theorem dX5_free_4 : decode cX5_free 4 = .ok (.getfield 99, 3) := by decide +kernel
theorem dX5_free_7 : decode cX5_free 7 = .ok (.iload_n 1, 1) := by decide +kernel
theorem dX5_free_8 : decode cX5_free 8 = .ok (.iaload, 1) := by decide +kernel
theorem dX5_free_9 : decode cX5_free 9 = .ok (.aload_n 0, 1) := by decide +kernel
theorem dX5_free_10 : decode cX5_free 10 = .ok (.getfield 15, 3) := by decide +kernel
theorem dX5_free_13 : decode cX5_free 13 = .ok (.iload_n 1, 1) := by decide +kernel
theorem dX5_free_14 : decode cX5_free 14 = .ok (.iaload, 1) := by decide +kernel
theorem dX5_free_15 : decode cX5_free 15 = .ok (.isub, 1) := by decide +kernel
theorem dX5_free_16 : decode cX5_free 16 = .ok (.aload_n 0, 1) := by decide +kernel
theorem dX5_free_17 : decode cX5_free 17 = .ok (.getfield 9, 3) := by decide +kernel
theorem dX5_free_20 : decode cX5_free 20 = .ok (.iload_n 1, 1) := by decide +kernel
theorem dX5_free_21 : decode cX5_free 21 = .ok (.iaload, 1) := by decide +kernel
theorem dX5_free_22 : decode cX5_free 22 = .ok (.isub, 1) := by decide +kernel
theorem dX5_free_23 : decode cX5_free 23 = .ok (.ireturn, 1) := by decide +kernel
theorem dX5_mark_0 : decode cX5_mark 0 = .ok (.aload_n 0, 1) := by decide +kernel
theorem dX5_mark_1 : decode cX5_mark 1 = .ok (.iload_n 1, 1) := by decide +kernel
theorem dX5_mark_2 : decode cX5_mark 2 = .ok (.invokevirtual 102, 3) := by decide +kernel
theorem dX5_mark_5 : decode cX5_mark 5 = .ok (.aload_n 0, 1) := by decide +kernel
theorem dX5_mark_6 : decode cX5_mark 6 = .ok (.getfield 42, 3) := by decide +kernel
theorem dX5_mark_9 : decode cX5_mark 9 = .ok (.getfield 106, 3) := by decide +kernel
theorem dX5_mark_12 : decode cX5_mark 12 = .ok (.imul, 1) := by decide +kernel
theorem dX5_mark_13 : decode cX5_mark 13 = .ok (.bipush 100, 2) := by decide +kernel
theorem dX5_mark_15 : decode cX5_mark 15 = .ok (.idiv, 1) := by decide +kernel
theorem dX5_mark_16 : decode cX5_mark 16 = .ok (.ireturn, 1) := by decide +kernel
theorem dX5_missing_0 : decode cX5_missing 0 = .ok (.aload_n 0, 1) := by decide +kernel
theorem dX5_missing_1 : decode cX5_missing 1 = .ok (.iload_n 1, 1) := by decide +kernel
theorem dX5_missing_2 : decode cX5_missing 2 = .ok (.invokevirtual 109, 3) := by decide +kernel
theorem dX5_missing_5 : decode cX5_missing 5 = .ok (.istore_n 2, 1) := by decide +kernel
theorem dX5_missing_6 : decode cX5_missing 6 = .ok (.iconst 0, 1) := by decide +kernel
theorem dX5_missing_7 : decode cX5_missing 7 = .ok (.iload_n 2, 1) := by decide +kernel
theorem dX5_missing_8 : decode cX5_missing 8 = .ok (.aload_n 0, 1) := by decide +kernel
theorem dX5_missing_9 : decode cX5_missing 9 = .ok (.getfield 9, 3) := by decide +kernel
theorem dX5_missing_12 : decode cX5_missing 12 = .ok (.iload_n 1, 1) := by decide +kernel
theorem dX5_missing_13 : decode cX5_missing 13 = .ok (.iaload, 1) := by decide +kernel
theorem dX5_missing_14 : decode cX5_missing 14 = .ok (.isub, 1) := by decide +kernel
theorem dX5_missing_15 : decode cX5_missing 15 = .ok (.invokestatic 112, 3) := by decide +kernel
theorem dX5_missing_18 : decode cX5_missing 18 = .ok (.iconst 0, 1) := by decide +kernel
theorem dX5_missing_19 : decode cX5_missing 19 = .ok (.iload_n 2, 1) := by decide +kernel
theorem dX5_missing_20 : decode cX5_missing 20 = .ok (.aload_n 0, 1) := by decide +kernel
theorem dX5_missing_21 : decode cX5_missing 21 = .ok (.iload_n 1, 1) := by decide +kernel
theorem dX5_missing_22 : decode cX5_missing 22 = .ok (.invokevirtual 118, 3) := by decide +kernel
theorem dX5_missing_25 : decode cX5_missing 25 = .ok (.isub, 1) := by decide +kernel
theorem dX5_missing_26 : decode cX5_missing 26 = .ok (.invokestatic 112, 3) := by decide +kernel
theorem dX5_missing_29 : decode cX5_missing 29 = .ok (.iadd, 1) := by decide +kernel
theorem dX5_missing_30 : decode cX5_missing 30 = .ok (.ireturn, 1) := by decide +kernel
theorem dX5_isOut_0 : decode cX5_isOut 0 = .ok (.iload_n 2, 1) := by decide +kernel
theorem dX5_isOut_1 : decode cX5_isOut 1 = .ok (.ifCond .eq 11, 3) := by decide +kernel
theorem dX5_isOut_4 : decode cX5_isOut 4 = .ok (.aload_n 0, 1) := by decide +kernel
theorem dX5_isOut_5 : decode cX5_isOut 5 = .ok (.iload_n 1, 1) := by decide +kernel
theorem dX5_isOut_6 : decode cX5_isOut 6 = .ok (.invokevirtual 118, 3) := by decide +kernel
theorem dX5_isOut_9 : decode cX5_isOut 9 = .ok (.goto 9, 3) := by decide +kernel
theorem dX5_isOut_12 : decode cX5_isOut 12 = .ok (.aload_n 0, 1) := by decide +kernel
theorem dX5_isOut_13 : decode cX5_isOut 13 = .ok (.getfield 9, 3) := by decide +kernel
theorem dX5_isOut_16 : decode cX5_isOut 16 = .ok (.iload_n 1, 1) := by decide +kernel
theorem dX5_isOut_17 : decode cX5_isOut 17 = .ok (.iaload, 1) := by decide +kernel
theorem dX5_isOut_18 : decode cX5_isOut 18 = .ok (.ifCond .ne 7, 3) := by decide +kernel
theorem dX5_isOut_21 : decode cX5_isOut 21 = .ok (.iconst 1, 1) := by decide +kernel
theorem dX5_isOut_22 : decode cX5_isOut 22 = .ok (.goto 4, 3) := by decide +kernel
theorem dX5_isOut_25 : decode cX5_isOut 25 = .ok (.iconst 0, 1) := by decide +kernel
theorem dX5_isOut_26 : decode cX5_isOut 26 = .ok (.ireturn, 1) := by decide +kernel
theorem dX5_nearestOther_0 : decode cX5_nearestOther 0 = .ok (.iconst (-1), 1) := by decide +kernel
theorem dX5_nearestOther_1 : decode cX5_nearestOther 1 = .ok (.istore_n 3, 1) := by decide +kernel
theorem dX5_nearestOther_2 : decode cX5_nearestOther 2 = .ok (.iconst 0, 1) := by decide +kernel
theorem dX5_nearestOther_3 : decode cX5_nearestOther 3 = .ok (.istore 4, 2) := by decide +kernel
theorem dX5_nearestOther_5 : decode cX5_nearestOther 5 = .ok (.iconst 0, 1) := by decide +kernel
theorem dX5_nearestOther_6 : decode cX5_nearestOther 6 = .ok (.istore 5, 2) := by decide +kernel
theorem dX5_nearestOther_8 : decode cX5_nearestOther 8 = .ok (.iload 5, 2) := by decide +kernel
theorem dX5_nearestOther_10 : decode cX5_nearestOther 10 = .ok (.aload_n 0, 1) := by decide +kernel
theorem dX5_nearestOther_11 : decode cX5_nearestOther 11 = .ok (.getfield 42, 3) := by decide +kernel
theorem dX5_nearestOther_14 : decode cX5_nearestOther 14 = .ok (.getfield 121, 3) := by decide +kernel
theorem dX5_nearestOther_17 : decode cX5_nearestOther 17 = .ok (.if_icmp .ge 72, 3) := by decide +kernel
theorem dX5_nearestOther_20 : decode cX5_nearestOther 20 = .ok (.iload 5, 2) := by decide +kernel
theorem dX5_nearestOther_22 : decode cX5_nearestOther 22 = .ok (.iload_n 1, 1) := by decide +kernel
theorem dX5_nearestOther_23 : decode cX5_nearestOther 23 = .ok (.if_icmp .eq 60, 3) := by decide +kernel
theorem dX5_nearestOther_26 : decode cX5_nearestOther 26 = .ok (.iload_n 2, 1) := by decide +kernel
theorem dX5_nearestOther_27 : decode cX5_nearestOther 27 = .ok (.ifCond .eq 12, 3) := by decide +kernel
theorem dX5_nearestOther_30 : decode cX5_nearestOther 30 = .ok (.aload_n 0, 1) := by decide +kernel
theorem dX5_nearestOther_31 : decode cX5_nearestOther 31 = .ok (.iload 5, 2) := by decide +kernel
theorem dX5_nearestOther_33 : decode cX5_nearestOther 33 = .ok (.invokevirtual 118, 3) := by decide +kernel
theorem dX5_nearestOther_36 : decode cX5_nearestOther 36 = .ok (.goto 10, 3) := by decide +kernel
theorem dX5_nearestOther_39 : decode cX5_nearestOther 39 = .ok (.aload_n 0, 1) := by decide +kernel
theorem dX5_nearestOther_40 : decode cX5_nearestOther 40 = .ok (.getfield 9, 3) := by decide +kernel
theorem dX5_nearestOther_43 : decode cX5_nearestOther 43 = .ok (.iload 5, 2) := by decide +kernel
theorem dX5_nearestOther_45 : decode cX5_nearestOther 45 = .ok (.iaload, 1) := by decide +kernel
theorem dX5_nearestOther_46 : decode cX5_nearestOther 46 = .ok (.ifCond .ne 6, 3) := by decide +kernel
theorem dX5_nearestOther_49 : decode cX5_nearestOther 49 = .ok (.goto 34, 3) := by decide +kernel
theorem dX5_nearestOther_52 : decode cX5_nearestOther 52 = .ok (.aload_n 0, 1) := by decide +kernel
theorem dX5_nearestOther_53 : decode cX5_nearestOther 53 = .ok (.getfield 42, 3) := by decide +kernel
theorem dX5_nearestOther_56 : decode cX5_nearestOther 56 = .ok (.iload_n 1, 1) := by decide +kernel
theorem dX5_nearestOther_57 : decode cX5_nearestOther 57 = .ok (.iload 5, 2) := by decide +kernel
theorem dX5_nearestOther_59 : decode cX5_nearestOther 59 = .ok (.invokevirtual 124, 3) := by decide +kernel
theorem dX5_nearestOther_62 : decode cX5_nearestOther 62 = .ok (.istore 6, 2) := by decide +kernel
theorem dX5_nearestOther_64 : decode cX5_nearestOther 64 = .ok (.iload_n 3, 1) := by decide +kernel
theorem dX5_nearestOther_65 : decode cX5_nearestOther 65 = .ok (.iconst (-1), 1) := by decide +kernel
theorem dX5_nearestOther_66 : decode cX5_nearestOther 66 = .ok (.if_icmp .eq 10, 3) := by decide +kernel
theorem dX5_nearestOther_69 : decode cX5_nearestOther 69 = .ok (.iload 6, 2) := by decide +kernel
theorem dX5_nearestOther_71 : decode cX5_nearestOther 71 = .ok (.iload 4, 2) := by decide +kernel
theorem dX5_nearestOther_73 : decode cX5_nearestOther 73 = .ok (.if_icmp .ge 10, 3) := by decide +kernel
theorem dX5_nearestOther_76 : decode cX5_nearestOther 76 = .ok (.iload 5, 2) := by decide +kernel
theorem dX5_nearestOther_78 : decode cX5_nearestOther 78 = .ok (.istore_n 3, 1) := by decide +kernel
theorem dX5_nearestOther_79 : decode cX5_nearestOther 79 = .ok (.iload 6, 2) := by decide +kernel
theorem dX5_nearestOther_81 : decode cX5_nearestOther 81 = .ok (.istore 4, 2) := by decide +kernel
theorem dX5_nearestOther_83 : decode cX5_nearestOther 83 = .ok (.iinc 5 1, 3) := by decide +kernel
theorem dX5_nearestOther_86 : decode cX5_nearestOther 86 = .ok (.goto (-78), 3) := by decide +kernel
theorem dX5_nearestOther_89 : decode cX5_nearestOther 89 = .ok (.iload_n 3, 1) := by decide +kernel
theorem dX5_nearestOther_90 : decode cX5_nearestOther 90 = .ok (.ireturn, 1) := by decide +kernel
theorem dX5_bonusNow_0 : decode cX5_bonusNow 0 = .ok (.aload_n 0, 1) := by decide +kernel
theorem dX5_bonusNow_1 : decode cX5_bonusNow 1 = .ok (.getfield 9, 3) := by decide +kernel
theorem dX5_bonusNow_4 : decode cX5_bonusNow 4 = .ok (.iload_n 1, 1) := by decide +kernel
theorem dX5_bonusNow_5 : decode cX5_bonusNow 5 = .ok (.iaload, 1) := by decide +kernel
theorem dX5_bonusNow_6 : decode cX5_bonusNow 6 = .ok (.bipush 100, 2) := by decide +kernel
theorem dX5_bonusNow_8 : decode cX5_bonusNow 8 = .ok (.imul, 1) := by decide +kernel
theorem dX5_bonusNow_9 : decode cX5_bonusNow 9 = .ok (.aload_n 0, 1) := by decide +kernel
theorem dX5_bonusNow_10 : decode cX5_bonusNow 10 = .ok (.getfield 42, 3) := by decide +kernel
theorem dX5_bonusNow_13 : decode cX5_bonusNow 13 = .ok (.getfield 127, 3) := by decide +kernel
theorem dX5_bonusNow_16 : decode cX5_bonusNow 16 = .ok (.aload_n 0, 1) := by decide +kernel
theorem dX5_bonusNow_17 : decode cX5_bonusNow 17 = .ok (.iload_n 1, 1) := by decide +kernel
theorem dX5_bonusNow_18 : decode cX5_bonusNow 18 = .ok (.invokevirtual 102, 3) := by decide +kernel
theorem dX5_bonusNow_21 : decode cX5_bonusNow 21 = .ok (.imul, 1) := by decide +kernel
theorem dX5_bonusNow_22 : decode cX5_bonusNow 22 = .ok (.if_icmp .ge 13, 3) := by decide +kernel
theorem dX5_bonusNow_25 : decode cX5_bonusNow 25 = .ok (.aload_n 0, 1) := by decide +kernel
theorem dX5_bonusNow_26 : decode cX5_bonusNow 26 = .ok (.getfield 42, 3) := by decide +kernel
theorem dX5_bonusNow_29 : decode cX5_bonusNow 29 = .ok (.getfield 130, 3) := by decide +kernel
theorem dX5_bonusNow_32 : decode cX5_bonusNow 32 = .ok (.goto 4, 3) := by decide +kernel
theorem dX5_bonusNow_35 : decode cX5_bonusNow 35 = .ok (.iconst 0, 1) := by decide +kernel
theorem dX5_bonusNow_36 : decode cX5_bonusNow 36 = .ok (.ireturn, 1) := by decide +kernel
theorem dX5_sum_0 : decode cX5_sum 0 = .ok (.iload_n 1, 1) := by decide +kernel
theorem dX5_sum_1 : decode cX5_sum 1 = .ok (.tableswitch 60 0 4 #[35, 40, 45, 50, 55], 35) := by decide +kernel
theorem dX5_sum_36 : decode cX5_sum 36 = .ok (.aload_n 0, 1) := by decide +kernel
theorem dX5_sum_37 : decode cX5_sum 37 = .ok (.getfield 50, 3) := by decide +kernel
theorem dX5_sum_40 : decode cX5_sum 40 = .ok (.ireturn, 1) := by decide +kernel
theorem dX5_sum_41 : decode cX5_sum 41 = .ok (.aload_n 0, 1) := by decide +kernel
theorem dX5_sum_42 : decode cX5_sum 42 = .ok (.getfield 53, 3) := by decide +kernel
theorem dX5_sum_45 : decode cX5_sum 45 = .ok (.ireturn, 1) := by decide +kernel
theorem dX5_sum_46 : decode cX5_sum 46 = .ok (.aload_n 0, 1) := by decide +kernel
theorem dX5_sum_47 : decode cX5_sum 47 = .ok (.getfield 56, 3) := by decide +kernel
theorem dX5_sum_50 : decode cX5_sum 50 = .ok (.ireturn, 1) := by decide +kernel
theorem dX5_sum_51 : decode cX5_sum 51 = .ok (.aload_n 0, 1) := by decide +kernel
theorem dX5_sum_52 : decode cX5_sum 52 = .ok (.getfield 59, 3) := by decide +kernel
theorem dX5_sum_55 : decode cX5_sum 55 = .ok (.ireturn, 1) := by decide +kernel
theorem dX5_sum_56 : decode cX5_sum 56 = .ok (.aload_n 0, 1) := by decide +kernel
theorem dX5_sum_57 : decode cX5_sum 57 = .ok (.getfield 62, 3) := by decide +kernel
theorem dX5_sum_60 : decode cX5_sum 60 = .ok (.ireturn, 1) := by decide +kernel
theorem dX5_sum_61 : decode cX5_sum 61 = .ok (.aload_n 0, 1) := by decide +kernel
theorem dX5_sum_62 : decode cX5_sum 62 = .ok (.invokevirtual 133, 3) := by decide +kernel
theorem dX5_sum_65 : decode cX5_sum 65 = .ok (.ireturn, 1) := by decide +kernel
theorem dX5_truckBikes_0 : decode cX5_truckBikes 0 = .ok (.iconst 0, 1) := by decide +kernel
theorem dX5_truckBikes_1 : decode cX5_truckBikes 1 = .ok (.istore_n 1, 1) := by decide +kernel
theorem dX5_truckBikes_2 : decode cX5_truckBikes 2 = .ok (.iconst 0, 1) := by decide +kernel
theorem dX5_truckBikes_3 : decode cX5_truckBikes 3 = .ok (.istore_n 2, 1) := by decide +kernel
theorem dX5_truckBikes_4 : decode cX5_truckBikes 4 = .ok (.iload_n 2, 1) := by decide +kernel
theorem dX5_truckBikes_5 : decode cX5_truckBikes 5 = .ok (.aload_n 0, 1) := by decide +kernel
theorem dX5_truckBikes_6 : decode cX5_truckBikes 6 = .ok (.getfield 42, 3) := by decide +kernel
theorem dX5_truckBikes_9 : decode cX5_truckBikes 9 = .ok (.getfield 137, 3) := by decide +kernel
theorem dX5_truckBikes_12 : decode cX5_truckBikes 12 = .ok (.if_icmp .ge 21, 3) := by decide +kernel
theorem dX5_truckBikes_15 : decode cX5_truckBikes 15 = .ok (.iload_n 1, 1) := by decide +kernel
theorem dX5_truckBikes_16 : decode cX5_truckBikes 16 = .ok (.aload_n 0, 1) := by decide +kernel
theorem dX5_truckBikes_17 : decode cX5_truckBikes 17 = .ok (.getfield 26, 3) := by decide +kernel
theorem dX5_truckBikes_20 : decode cX5_truckBikes 20 = .ok (.iload_n 2, 1) := by decide +kernel
theorem dX5_truckBikes_21 : decode cX5_truckBikes 21 = .ok (.aaload, 1) := by decide +kernel
theorem dX5_truckBikes_22 : decode cX5_truckBikes 22 = .ok (.getfield 139, 3) := by decide +kernel
theorem dX5_truckBikes_25 : decode cX5_truckBikes 25 = .ok (.iadd, 1) := by decide +kernel
theorem dX5_truckBikes_26 : decode cX5_truckBikes 26 = .ok (.istore_n 1, 1) := by decide +kernel
theorem dX5_truckBikes_27 : decode cX5_truckBikes 27 = .ok (.iinc 2 1, 3) := by decide +kernel
theorem dX5_truckBikes_30 : decode cX5_truckBikes 30 = .ok (.goto (-26), 3) := by decide +kernel
theorem dX5_truckBikes_33 : decode cX5_truckBikes 33 = .ok (.iload_n 1, 1) := by decide +kernel
theorem dX5_truckBikes_34 : decode cX5_truckBikes 34 = .ok (.ireturn, 1) := by decide +kernel
theorem dX5_allBikes_0 : decode cX5_allBikes 0 = .ok (.aload_n 0, 1) := by decide +kernel
theorem dX5_allBikes_1 : decode cX5_allBikes 1 = .ok (.invokevirtual 133, 3) := by decide +kernel
theorem dX5_allBikes_4 : decode cX5_allBikes 4 = .ok (.aload_n 0, 1) := by decide +kernel
theorem dX5_allBikes_5 : decode cX5_allBikes 5 = .ok (.getfield 33, 3) := by decide +kernel
theorem dX5_allBikes_8 : decode cX5_allBikes 8 = .ok (.getfield 65, 3) := by decide +kernel
theorem dX5_allBikes_11 : decode cX5_allBikes 11 = .ok (.iadd, 1) := by decide +kernel
theorem dX5_allBikes_12 : decode cX5_allBikes 12 = .ok (.istore_n 1, 1) := by decide +kernel
theorem dX5_allBikes_13 : decode cX5_allBikes 13 = .ok (.iconst 0, 1) := by decide +kernel
theorem dX5_allBikes_14 : decode cX5_allBikes 14 = .ok (.istore_n 2, 1) := by decide +kernel
theorem dX5_allBikes_15 : decode cX5_allBikes 15 = .ok (.iload_n 2, 1) := by decide +kernel
theorem dX5_allBikes_16 : decode cX5_allBikes 16 = .ok (.aload_n 0, 1) := by decide +kernel
theorem dX5_allBikes_17 : decode cX5_allBikes 17 = .ok (.getfield 42, 3) := by decide +kernel
theorem dX5_allBikes_20 : decode cX5_allBikes 20 = .ok (.getfield 121, 3) := by decide +kernel
theorem dX5_allBikes_23 : decode cX5_allBikes 23 = .ok (.if_icmp .ge 18, 3) := by decide +kernel
theorem dX5_allBikes_26 : decode cX5_allBikes 26 = .ok (.iload_n 1, 1) := by decide +kernel
theorem dX5_allBikes_27 : decode cX5_allBikes 27 = .ok (.aload_n 0, 1) := by decide +kernel
theorem dX5_allBikes_28 : decode cX5_allBikes 28 = .ok (.getfield 9, 3) := by decide +kernel
theorem dX5_allBikes_31 : decode cX5_allBikes 31 = .ok (.iload_n 2, 1) := by decide +kernel
theorem dX5_allBikes_32 : decode cX5_allBikes 32 = .ok (.iaload, 1) := by decide +kernel
theorem dX5_allBikes_33 : decode cX5_allBikes 33 = .ok (.iadd, 1) := by decide +kernel
theorem dX5_allBikes_34 : decode cX5_allBikes 34 = .ok (.istore_n 1, 1) := by decide +kernel
theorem dX5_allBikes_35 : decode cX5_allBikes 35 = .ok (.iinc 2 1, 3) := by decide +kernel
theorem dX5_allBikes_38 : decode cX5_allBikes 38 = .ok (.goto (-23), 3) := by decide +kernel
theorem dX5_allBikes_41 : decode cX5_allBikes 41 = .ok (.iload_n 1, 1) := by decide +kernel
theorem dX5_allBikes_42 : decode cX5_allBikes 42 = .ok (.ireturn, 1) := by decide +kernel
theorem dX5_busiest_0 : decode cX5_busiest 0 = .ok (.iconst (-1), 1) := by decide +kernel
theorem dX5_busiest_1 : decode cX5_busiest 1 = .ok (.istore_n 1, 1) := by decide +kernel
theorem dX5_busiest_2 : decode cX5_busiest 2 = .ok (.iconst 0, 1) := by decide +kernel
theorem dX5_busiest_3 : decode cX5_busiest 3 = .ok (.istore_n 2, 1) := by decide +kernel
theorem dX5_busiest_4 : decode cX5_busiest 4 = .ok (.iload_n 2, 1) := by decide +kernel
theorem dX5_busiest_5 : decode cX5_busiest 5 = .ok (.aload_n 0, 1) := by decide +kernel
theorem dX5_busiest_6 : decode cX5_busiest 6 = .ok (.getfield 18, 3) := by decide +kernel
theorem dX5_busiest_9 : decode cX5_busiest 9 = .ok (.arraylength, 1) := by decide +kernel
theorem dX5_busiest_10 : decode cX5_busiest 10 = .ok (.if_icmp .ge 34, 3) := by decide +kernel
theorem dX5_busiest_13 : decode cX5_busiest 13 = .ok (.aload_n 0, 1) := by decide +kernel
theorem dX5_busiest_14 : decode cX5_busiest 14 = .ok (.getfield 18, 3) := by decide +kernel
theorem dX5_busiest_17 : decode cX5_busiest 17 = .ok (.iload_n 2, 1) := by decide +kernel
theorem dX5_busiest_18 : decode cX5_busiest 18 = .ok (.iaload, 1) := by decide +kernel
theorem dX5_busiest_19 : decode cX5_busiest 19 = .ok (.ifCond .le 19, 3) := by decide +kernel
theorem dX5_busiest_22 : decode cX5_busiest 22 = .ok (.iload_n 1, 1) := by decide +kernel
theorem dX5_busiest_23 : decode cX5_busiest 23 = .ok (.iconst (-1), 1) := by decide +kernel
theorem dX5_busiest_24 : decode cX5_busiest 24 = .ok (.if_icmp .eq 12, 3) := by decide +kernel
theorem dX5_busiest_27 : decode cX5_busiest 27 = .ok (.aload_n 0, 1) := by decide +kernel
theorem dX5_busiest_28 : decode cX5_busiest 28 = .ok (.iload_n 2, 1) := by decide +kernel
theorem dX5_busiest_29 : decode cX5_busiest 29 = .ok (.iload_n 1, 1) := by decide +kernel
theorem dX5_busiest_30 : decode cX5_busiest 30 = .ok (.invokevirtual 142, 3) := by decide +kernel
theorem dX5_busiest_33 : decode cX5_busiest 33 = .ok (.ifCond .eq 5, 3) := by decide +kernel
theorem dX5_busiest_36 : decode cX5_busiest 36 = .ok (.iload_n 2, 1) := by decide +kernel
theorem dX5_busiest_37 : decode cX5_busiest 37 = .ok (.istore_n 1, 1) := by decide +kernel
theorem dX5_busiest_38 : decode cX5_busiest 38 = .ok (.iinc 2 1, 3) := by decide +kernel
theorem dX5_busiest_41 : decode cX5_busiest 41 = .ok (.goto (-37), 3) := by decide +kernel
theorem dX5_busiest_44 : decode cX5_busiest 44 = .ok (.iload_n 1, 1) := by decide +kernel
theorem dX5_busiest_45 : decode cX5_busiest 45 = .ok (.ireturn, 1) := by decide +kernel
theorem dX5_isBusier_0 : decode cX5_isBusier 0 = .ok (.aload_n 0, 1) := by decide +kernel
theorem dX5_isBusier_1 : decode cX5_isBusier 1 = .ok (.getfield 18, 3) := by decide +kernel
theorem dX5_isBusier_4 : decode cX5_isBusier 4 = .ok (.iload_n 1, 1) := by decide +kernel
theorem dX5_isBusier_5 : decode cX5_isBusier 5 = .ok (.iaload, 1) := by decide +kernel
theorem dX5_isBusier_6 : decode cX5_isBusier 6 = .ok (.aload_n 0, 1) := by decide +kernel
theorem dX5_isBusier_7 : decode cX5_isBusier 7 = .ok (.getfield 18, 3) := by decide +kernel
theorem dX5_isBusier_10 : decode cX5_isBusier 10 = .ok (.iload_n 2, 1) := by decide +kernel
theorem dX5_isBusier_11 : decode cX5_isBusier 11 = .ok (.iaload, 1) := by decide +kernel
theorem dX5_isBusier_12 : decode cX5_isBusier 12 = .ok (.if_icmp .gt 33, 3) := by decide +kernel
theorem dX5_isBusier_15 : decode cX5_isBusier 15 = .ok (.aload_n 0, 1) := by decide +kernel
theorem dX5_isBusier_16 : decode cX5_isBusier 16 = .ok (.getfield 18, 3) := by decide +kernel
theorem dX5_isBusier_19 : decode cX5_isBusier 19 = .ok (.iload_n 1, 1) := by decide +kernel
theorem dX5_isBusier_20 : decode cX5_isBusier 20 = .ok (.iaload, 1) := by decide +kernel
theorem dX5_isBusier_21 : decode cX5_isBusier 21 = .ok (.aload_n 0, 1) := by decide +kernel
theorem dX5_isBusier_22 : decode cX5_isBusier 22 = .ok (.getfield 18, 3) := by decide +kernel
theorem dX5_isBusier_25 : decode cX5_isBusier 25 = .ok (.iload_n 2, 1) := by decide +kernel
theorem dX5_isBusier_26 : decode cX5_isBusier 26 = .ok (.iaload, 1) := by decide +kernel
theorem dX5_isBusier_27 : decode cX5_isBusier 27 = .ok (.if_icmp .ne 22, 3) := by decide +kernel
theorem dX5_isBusier_30 : decode cX5_isBusier 30 = .ok (.aload_n 0, 1) := by decide +kernel
theorem dX5_isBusier_31 : decode cX5_isBusier 31 = .ok (.getfield 21, 3) := by decide +kernel
theorem dX5_isBusier_34 : decode cX5_isBusier 34 = .ok (.iload_n 1, 1) := by decide +kernel
theorem dX5_isBusier_35 : decode cX5_isBusier 35 = .ok (.iaload, 1) := by decide +kernel
theorem dX5_isBusier_36 : decode cX5_isBusier 36 = .ok (.aload_n 0, 1) := by decide +kernel
theorem dX5_isBusier_37 : decode cX5_isBusier 37 = .ok (.getfield 21, 3) := by decide +kernel
theorem dX5_isBusier_40 : decode cX5_isBusier 40 = .ok (.iload_n 2, 1) := by decide +kernel
theorem dX5_isBusier_41 : decode cX5_isBusier 41 = .ok (.iaload, 1) := by decide +kernel
theorem dX5_isBusier_42 : decode cX5_isBusier 42 = .ok (.if_icmp .ge 7, 3) := by decide +kernel
theorem dX5_isBusier_45 : decode cX5_isBusier 45 = .ok (.iconst 1, 1) := by decide +kernel
theorem dX5_isBusier_46 : decode cX5_isBusier 46 = .ok (.goto 4, 3) := by decide +kernel
theorem dX5_isBusier_49 : decode cX5_isBusier 49 = .ok (.iconst 0, 1) := by decide +kernel
theorem dX5_isBusier_50 : decode cX5_isBusier 50 = .ok (.ireturn, 1) := by decide +kernel
theorem dX5_fareNow_0 : decode cX5_fareNow 0 = .ok (.aload_n 0, 1) := by decide +kernel
theorem dX5_fareNow_1 : decode cX5_fareNow 1 = .ok (.getfield 42, 3) := by decide +kernel
theorem dX5_fareNow_4 : decode cX5_fareNow 4 = .ok (.iload_n 1, 1) := by decide +kernel
theorem dX5_fareNow_5 : decode cX5_fareNow 5 = .ok (.iload_n 2, 1) := by decide +kernel
theorem dX5_fareNow_6 : decode cX5_fareNow 6 = .ok (.invokevirtual 146, 3) := by decide +kernel
theorem dX5_fareNow_9 : decode cX5_fareNow 9 = .ok (.istore_n 3, 1) := by decide +kernel
theorem dX5_fareNow_10 : decode cX5_fareNow 10 = .ok (.aload_n 0, 1) := by decide +kernel
theorem dX5_fareNow_11 : decode cX5_fareNow 11 = .ok (.getfield 42, 3) := by decide +kernel
theorem dX5_fareNow_14 : decode cX5_fareNow 14 = .ok (.getfield 149, 3) := by decide +kernel
theorem dX5_fareNow_17 : decode cX5_fareNow 17 = .ok (.iload_n 3, 1) := by decide +kernel
theorem dX5_fareNow_18 : decode cX5_fareNow 18 = .ok (.aload_n 0, 1) := by decide +kernel
theorem dX5_fareNow_19 : decode cX5_fareNow 19 = .ok (.getfield 9, 3) := by decide +kernel
theorem dX5_fareNow_22 : decode cX5_fareNow 22 = .ok (.iload_n 1, 1) := by decide +kernel
theorem dX5_fareNow_23 : decode cX5_fareNow 23 = .ok (.iaload, 1) := by decide +kernel
theorem dX5_fareNow_24 : decode cX5_fareNow 24 = .ok (.aload_n 0, 1) := by decide +kernel
theorem dX5_fareNow_25 : decode cX5_fareNow 25 = .ok (.iload_n 2, 1) := by decide +kernel
theorem dX5_fareNow_26 : decode cX5_fareNow 26 = .ok (.invokevirtual 118, 3) := by decide +kernel
theorem dX5_fareNow_29 : decode cX5_fareNow 29 = .ok (.aload_n 0, 1) := by decide +kernel
theorem dX5_fareNow_30 : decode cX5_fareNow 30 = .ok (.getfield 46, 3) := by decide +kernel
theorem dX5_fareNow_33 : decode cX5_fareNow 33 = .ok (.bipush 60, 2) := by decide +kernel
theorem dX5_fareNow_35 : decode cX5_fareNow 35 = .ok (.idiv, 1) := by decide +kernel
theorem dX5_fareNow_36 : decode cX5_fareNow 36 = .ok (.bipush 24, 2) := by decide +kernel
theorem dX5_fareNow_38 : decode cX5_fareNow 38 = .ok (.irem, 1) := by decide +kernel
theorem dX5_fareNow_39 : decode cX5_fareNow 39 = .ok (.invokevirtual 153, 3) := by decide +kernel
theorem dX5_fareNow_42 : decode cX5_fareNow 42 = .ok (.istore 4, 2) := by decide +kernel
theorem dX5_fareNow_44 : decode cX5_fareNow 44 = .ok (.iconst 0, 1) := by decide +kernel
theorem dX5_fareNow_45 : decode cX5_fareNow 45 = .ok (.sipush 9999, 3) := by decide +kernel
theorem dX5_fareNow_48 : decode cX5_fareNow 48 = .ok (.iload 4, 2) := by decide +kernel
theorem dX5_fareNow_50 : decode cX5_fareNow 50 = .ok (.invokestatic 159, 3) := by decide +kernel
theorem dX5_fareNow_53 : decode cX5_fareNow 53 = .ok (.invokestatic 112, 3) := by decide +kernel
theorem dX5_fareNow_56 : decode cX5_fareNow 56 = .ok (.ireturn, 1) := by decide +kernel
theorem dX5_canRide_0 : decode cX5_canRide 0 = .ok (.aload_n 0, 1) := by decide +kernel
theorem dX5_canRide_1 : decode cX5_canRide 1 = .ok (.getfield 9, 3) := by decide +kernel
theorem dX5_canRide_4 : decode cX5_canRide 4 = .ok (.iload_n 1, 1) := by decide +kernel
theorem dX5_canRide_5 : decode cX5_canRide 5 = .ok (.iaload, 1) := by decide +kernel
theorem dX5_canRide_6 : decode cX5_canRide 6 = .ok (.ifCond .le 17, 3) := by decide +kernel
theorem dX5_canRide_9 : decode cX5_canRide 9 = .ok (.aload_n 0, 1) := by decide +kernel
theorem dX5_canRide_10 : decode cX5_canRide 10 = .ok (.getfield 56, 3) := by decide +kernel
theorem dX5_canRide_13 : decode cX5_canRide 13 = .ok (.sipush 768, 3) := by decide +kernel
theorem dX5_canRide_16 : decode cX5_canRide 16 = .ok (.if_icmp .ge 7, 3) := by decide +kernel
theorem dX5_canRide_19 : decode cX5_canRide 19 = .ok (.iconst 1, 1) := by decide +kernel
theorem dX5_canRide_20 : decode cX5_canRide 20 = .ok (.goto 4, 3) := by decide +kernel
theorem dX5_canRide_23 : decode cX5_canRide 23 = .ok (.iconst 0, 1) := by decide +kernel
theorem dX5_canRide_24 : decode cX5_canRide 24 = .ok (.ireturn, 1) := by decide +kernel
theorem dX5_startRide_0 : decode cX5_startRide 0 = .ok (.bipush 8, 2) := by decide +kernel
theorem dX5_startRide_2 : decode cX5_startRide 2 = .ok (.iload_n 1, 1) := by decide +kernel
theorem dX5_startRide_3 : decode cX5_startRide 3 = .ok (.imul, 1) := by decide +kernel
theorem dX5_startRide_4 : decode cX5_startRide 4 = .ok (.iload_n 2, 1) := by decide +kernel
theorem dX5_startRide_5 : decode cX5_startRide 5 = .ok (.iadd, 1) := by decide +kernel
theorem dX5_startRide_6 : decode cX5_startRide 6 = .ok (.istore_n 3, 1) := by decide +kernel
theorem dX5_startRide_7 : decode cX5_startRide 7 = .ok (.aload_n 0, 1) := by decide +kernel
theorem dX5_startRide_8 : decode cX5_startRide 8 = .ok (.getfield 18, 3) := by decide +kernel
theorem dX5_startRide_11 : decode cX5_startRide 11 = .ok (.iload_n 3, 1) := by decide +kernel
theorem dX5_startRide_12 : decode cX5_startRide 12 = .ok (.iaload, 1) := by decide +kernel
theorem dX5_startRide_13 : decode cX5_startRide 13 = .ok (.ifCond .ne 13, 3) := by decide +kernel
theorem dX5_startRide_16 : decode cX5_startRide 16 = .ok (.aload_n 0, 1) := by decide +kernel
theorem dX5_startRide_17 : decode cX5_startRide 17 = .ok (.getfield 21, 3) := by decide +kernel
theorem dX5_startRide_20 : decode cX5_startRide 20 = .ok (.iload_n 3, 1) := by decide +kernel
theorem dX5_startRide_21 : decode cX5_startRide 21 = .ok (.aload_n 0, 1) := by decide +kernel
theorem dX5_startRide_22 : decode cX5_startRide 22 = .ok (.getfield 56, 3) := by decide +kernel
theorem dX5_startRide_25 : decode cX5_startRide 25 = .ok (.iastore, 1) := by decide +kernel
theorem dX5_startRide_26 : decode cX5_startRide 26 = .ok (.aload_n 0, 1) := by decide +kernel
theorem dX5_startRide_27 : decode cX5_startRide 27 = .ok (.getfield 18, 3) := by decide +kernel
theorem dX5_startRide_30 : decode cX5_startRide 30 = .ok (.iload_n 3, 1) := by decide +kernel
theorem dX5_startRide_31 : decode cX5_startRide 31 = .ok (.dup2, 1) := by decide +kernel
theorem dX5_startRide_32 : decode cX5_startRide 32 = .ok (.iaload, 1) := by decide +kernel
theorem dX5_startRide_33 : decode cX5_startRide 33 = .ok (.iconst 1, 1) := by decide +kernel
theorem dX5_startRide_34 : decode cX5_startRide 34 = .ok (.iadd, 1) := by decide +kernel
theorem dX5_startRide_35 : decode cX5_startRide 35 = .ok (.iastore, 1) := by decide +kernel
theorem dX5_startRide_36 : decode cX5_startRide 36 = .ok (.aload_n 0, 1) := by decide +kernel
theorem dX5_startRide_37 : decode cX5_startRide 37 = .ok (.dup, 1) := by decide +kernel
theorem dX5_startRide_38 : decode cX5_startRide 38 = .ok (.getfield 50, 3) := by decide +kernel
theorem dX5_startRide_41 : decode cX5_startRide 41 = .ok (.aload_n 0, 1) := by decide +kernel
theorem dX5_startRide_42 : decode cX5_startRide 42 = .ok (.iload_n 1, 1) := by decide +kernel
theorem dX5_startRide_43 : decode cX5_startRide 43 = .ok (.iload_n 2, 1) := by decide +kernel
theorem dX5_startRide_44 : decode cX5_startRide 44 = .ok (.invokevirtual 162, 3) := by decide +kernel
theorem dX5_startRide_47 : decode cX5_startRide 47 = .ok (.iadd, 1) := by decide +kernel
theorem dX5_startRide_48 : decode cX5_startRide 48 = .ok (.putfield 50, 3) := by decide +kernel
theorem dX5_startRide_51 : decode cX5_startRide 51 = .ok (.aload_n 0, 1) := by decide +kernel
theorem dX5_startRide_52 : decode cX5_startRide 52 = .ok (.getfield 9, 3) := by decide +kernel
theorem dX5_startRide_55 : decode cX5_startRide 55 = .ok (.iload_n 1, 1) := by decide +kernel
theorem dX5_startRide_56 : decode cX5_startRide 56 = .ok (.dup2, 1) := by decide +kernel
theorem dX5_startRide_57 : decode cX5_startRide 57 = .ok (.iaload, 1) := by decide +kernel
theorem dX5_startRide_58 : decode cX5_startRide 58 = .ok (.iconst 1, 1) := by decide +kernel
theorem dX5_startRide_59 : decode cX5_startRide 59 = .ok (.isub, 1) := by decide +kernel
theorem dX5_startRide_60 : decode cX5_startRide 60 = .ok (.iastore, 1) := by decide +kernel
theorem dX5_startRide_61 : decode cX5_startRide 61 = .ok (.aload_n 0, 1) := by decide +kernel
theorem dX5_startRide_62 : decode cX5_startRide 62 = .ok (.getfield 33, 3) := by decide +kernel
theorem dX5_startRide_65 : decode cX5_startRide 65 = .ok (.aload_n 0, 1) := by decide +kernel
theorem dX5_startRide_66 : decode cX5_startRide 66 = .ok (.getfield 46, 3) := by decide +kernel
theorem dX5_startRide_69 : decode cX5_startRide 69 = .ok (.aload_n 0, 1) := by decide +kernel
theorem dX5_startRide_70 : decode cX5_startRide 70 = .ok (.getfield 42, 3) := by decide +kernel
theorem dX5_startRide_73 : decode cX5_startRide 73 = .ok (.iload_n 1, 1) := by decide +kernel
theorem dX5_startRide_74 : decode cX5_startRide 74 = .ok (.iload_n 2, 1) := by decide +kernel
theorem dX5_startRide_75 : decode cX5_startRide 75 = .ok (.invokevirtual 146, 3) := by decide +kernel
theorem dX5_startRide_78 : decode cX5_startRide 78 = .ok (.iadd, 1) := by decide +kernel
theorem dX5_startRide_79 : decode cX5_startRide 79 = .ok (.aload_n 0, 1) := by decide +kernel
theorem dX5_startRide_80 : decode cX5_startRide 80 = .ok (.getfield 56, 3) := by decide +kernel
theorem dX5_startRide_83 : decode cX5_startRide 83 = .ok (.iload_n 1, 1) := by decide +kernel
theorem dX5_startRide_84 : decode cX5_startRide 84 = .ok (.iload_n 2, 1) := by decide +kernel
theorem dX5_startRide_85 : decode cX5_startRide 85 = .ok (.invokestatic 165, 3) := by decide +kernel
theorem dX5_startRide_88 : decode cX5_startRide 88 = .ok (.invokevirtual 168, 3) := by decide +kernel
theorem dX5_startRide_91 : decode cX5_startRide 91 = .ok (.aload_n 0, 1) := by decide +kernel
theorem dX5_startRide_92 : decode cX5_startRide 92 = .ok (.dup, 1) := by decide +kernel
theorem dX5_startRide_93 : decode cX5_startRide 93 = .ok (.getfield 56, 3) := by decide +kernel
theorem dX5_startRide_96 : decode cX5_startRide 96 = .ok (.iconst 1, 1) := by decide +kernel
theorem dX5_startRide_97 : decode cX5_startRide 97 = .ok (.iadd, 1) := by decide +kernel
theorem dX5_startRide_98 : decode cX5_startRide 98 = .ok (.putfield 56, 3) := by decide +kernel
theorem dX5_startRide_101 : decode cX5_startRide 101 = .ok (.return_, 1) := by decide +kernel
theorem dX5_landRiders_0 : decode cX5_landRiders 0 = .ok (.aload_n 0, 1) := by decide +kernel
theorem dX5_landRiders_1 : decode cX5_landRiders 1 = .ok (.getfield 33, 3) := by decide +kernel
theorem dX5_landRiders_4 : decode cX5_landRiders 4 = .ok (.aload_n 0, 1) := by decide +kernel
theorem dX5_landRiders_5 : decode cX5_landRiders 5 = .ok (.getfield 46, 3) := by decide +kernel
theorem dX5_landRiders_8 : decode cX5_landRiders 8 = .ok (.invokevirtual 172, 3) := by decide +kernel
theorem dX5_landRiders_11 : decode cX5_landRiders 11 = .ok (.istore_n 1, 1) := by decide +kernel
theorem dX5_landRiders_12 : decode cX5_landRiders 12 = .ok (.iconst 0, 1) := by decide +kernel
theorem dX5_landRiders_13 : decode cX5_landRiders 13 = .ok (.istore_n 2, 1) := by decide +kernel
theorem dX5_landRiders_14 : decode cX5_landRiders 14 = .ok (.iconst 0, 1) := by decide +kernel
theorem dX5_landRiders_15 : decode cX5_landRiders 15 = .ok (.istore_n 3, 1) := by decide +kernel
theorem dX5_landRiders_16 : decode cX5_landRiders 16 = .ok (.iload_n 3, 1) := by decide +kernel
theorem dX5_landRiders_17 : decode cX5_landRiders 17 = .ok (.iload_n 1, 1) := by decide +kernel
theorem dX5_landRiders_18 : decode cX5_landRiders 18 = .ok (.if_icmp .ge 85, 3) := by decide +kernel
theorem dX5_landRiders_21 : decode cX5_landRiders 21 = .ok (.aload_n 0, 1) := by decide +kernel
theorem dX5_landRiders_22 : decode cX5_landRiders 22 = .ok (.getfield 33, 3) := by decide +kernel
theorem dX5_landRiders_25 : decode cX5_landRiders 25 = .ok (.getfield 175, 3) := by decide +kernel
theorem dX5_landRiders_28 : decode cX5_landRiders 28 = .ok (.iload_n 3, 1) := by decide +kernel
theorem dX5_landRiders_29 : decode cX5_landRiders 29 = .ok (.iaload, 1) := by decide +kernel
theorem dX5_landRiders_30 : decode cX5_landRiders 30 = .ok (.istore 4, 2) := by decide +kernel
theorem dX5_landRiders_32 : decode cX5_landRiders 32 = .ok (.iload 4, 2) := by decide +kernel
theorem dX5_landRiders_34 : decode cX5_landRiders 34 = .ok (.invokestatic 178, 3) := by decide +kernel
theorem dX5_landRiders_37 : decode cX5_landRiders 37 = .ok (.istore 5, 2) := by decide +kernel
theorem dX5_landRiders_39 : decode cX5_landRiders 39 = .ok (.aload_n 0, 1) := by decide +kernel
theorem dX5_landRiders_40 : decode cX5_landRiders 40 = .ok (.iload 5, 2) := by decide +kernel
theorem dX5_landRiders_42 : decode cX5_landRiders 42 = .ok (.invokevirtual 118, 3) := by decide +kernel
theorem dX5_landRiders_45 : decode cX5_landRiders 45 = .ok (.ifCond .le 32, 3) := by decide +kernel
theorem dX5_landRiders_48 : decode cX5_landRiders 48 = .ok (.aload_n 0, 1) := by decide +kernel
theorem dX5_landRiders_49 : decode cX5_landRiders 49 = .ok (.dup, 1) := by decide +kernel
theorem dX5_landRiders_50 : decode cX5_landRiders 50 = .ok (.getfield 53, 3) := by decide +kernel
theorem dX5_landRiders_53 : decode cX5_landRiders 53 = .ok (.aload_n 0, 1) := by decide +kernel
theorem dX5_landRiders_54 : decode cX5_landRiders 54 = .ok (.iload 5, 2) := by decide +kernel
theorem dX5_landRiders_56 : decode cX5_landRiders 56 = .ok (.invokevirtual 181, 3) := by decide +kernel
theorem dX5_landRiders_59 : decode cX5_landRiders 59 = .ok (.iadd, 1) := by decide +kernel
theorem dX5_landRiders_60 : decode cX5_landRiders 60 = .ok (.putfield 53, 3) := by decide +kernel
theorem dX5_landRiders_63 : decode cX5_landRiders 63 = .ok (.aload_n 0, 1) := by decide +kernel
theorem dX5_landRiders_64 : decode cX5_landRiders 64 = .ok (.getfield 9, 3) := by decide +kernel
theorem dX5_landRiders_67 : decode cX5_landRiders 67 = .ok (.iload 5, 2) := by decide +kernel
theorem dX5_landRiders_69 : decode cX5_landRiders 69 = .ok (.dup2, 1) := by decide +kernel
theorem dX5_landRiders_70 : decode cX5_landRiders 70 = .ok (.iaload, 1) := by decide +kernel
theorem dX5_landRiders_71 : decode cX5_landRiders 71 = .ok (.iconst 1, 1) := by decide +kernel
theorem dX5_landRiders_72 : decode cX5_landRiders 72 = .ok (.iadd, 1) := by decide +kernel
theorem dX5_landRiders_73 : decode cX5_landRiders 73 = .ok (.iastore, 1) := by decide +kernel
theorem dX5_landRiders_74 : decode cX5_landRiders 74 = .ok (.goto 23, 3) := by decide +kernel
theorem dX5_landRiders_77 : decode cX5_landRiders 77 = .ok (.aload_n 0, 1) := by decide +kernel
theorem dX5_landRiders_78 : decode cX5_landRiders 78 = .ok (.getfield 33, 3) := by decide +kernel
theorem dX5_landRiders_81 : decode cX5_landRiders 81 = .ok (.getfield 175, 3) := by decide +kernel
theorem dX5_landRiders_84 : decode cX5_landRiders 84 = .ok (.iload_n 2, 1) := by decide +kernel
theorem dX5_landRiders_85 : decode cX5_landRiders 85 = .ok (.aload_n 0, 1) := by decide +kernel
theorem dX5_landRiders_86 : decode cX5_landRiders 86 = .ok (.iload 4, 2) := by decide +kernel
theorem dX5_landRiders_88 : decode cX5_landRiders 88 = .ok (.iload 5, 2) := by decide +kernel
theorem dX5_landRiders_90 : decode cX5_landRiders 90 = .ok (.invokevirtual 184, 3) := by decide +kernel
theorem dX5_landRiders_93 : decode cX5_landRiders 93 = .ok (.iastore, 1) := by decide +kernel
theorem dX5_landRiders_94 : decode cX5_landRiders 94 = .ok (.iinc 2 1, 3) := by decide +kernel
theorem dX5_landRiders_97 : decode cX5_landRiders 97 = .ok (.iinc 3 1, 3) := by decide +kernel
theorem dX5_landRiders_100 : decode cX5_landRiders 100 = .ok (.goto (-84), 3) := by decide +kernel
theorem dX5_landRiders_103 : decode cX5_landRiders 103 = .ok (.aload_n 0, 1) := by decide +kernel
theorem dX5_landRiders_104 : decode cX5_landRiders 104 = .ok (.getfield 33, 3) := by decide +kernel
theorem dX5_landRiders_107 : decode cX5_landRiders 107 = .ok (.iload_n 1, 1) := by decide +kernel
theorem dX5_landRiders_108 : decode cX5_landRiders 108 = .ok (.iload_n 2, 1) := by decide +kernel
theorem dX5_landRiders_109 : decode cX5_landRiders 109 = .ok (.invokevirtual 187, 3) := by decide +kernel
theorem dX5_landRiders_112 : decode cX5_landRiders 112 = .ok (.iload_n 1, 1) := by decide +kernel
theorem dX5_landRiders_113 : decode cX5_landRiders 113 = .ok (.iload_n 2, 1) := by decide +kernel
theorem dX5_landRiders_114 : decode cX5_landRiders 114 = .ok (.isub, 1) := by decide +kernel
theorem dX5_landRiders_115 : decode cX5_landRiders 115 = .ok (.ireturn, 1) := by decide +kernel
theorem dX5_turnAway_0 : decode cX5_turnAway 0 = .ok (.aload_n 0, 1) := by decide +kernel
theorem dX5_turnAway_1 : decode cX5_turnAway 1 = .ok (.dup, 1) := by decide +kernel
theorem dX5_turnAway_2 : decode cX5_turnAway 2 = .ok (.getfield 62, 3) := by decide +kernel
theorem dX5_turnAway_5 : decode cX5_turnAway 5 = .ok (.iconst 1, 1) := by decide +kernel
theorem dX5_turnAway_6 : decode cX5_turnAway 6 = .ok (.iadd, 1) := by decide +kernel
theorem dX5_turnAway_7 : decode cX5_turnAway 7 = .ok (.putfield 62, 3) := by decide +kernel
theorem dX5_turnAway_10 : decode cX5_turnAway 10 = .ok (.aload_n 0, 1) := by decide +kernel
theorem dX5_turnAway_11 : decode cX5_turnAway 11 = .ok (.iload_n 2, 1) := by decide +kernel
theorem dX5_turnAway_12 : decode cX5_turnAway 12 = .ok (.iconst 1, 1) := by decide +kernel
theorem dX5_turnAway_13 : decode cX5_turnAway 13 = .ok (.invokevirtual 190, 3) := by decide +kernel
theorem dX5_turnAway_16 : decode cX5_turnAway 16 = .ok (.istore_n 3, 1) := by decide +kernel
theorem dX5_turnAway_17 : decode cX5_turnAway 17 = .ok (.iload_n 3, 1) := by decide +kernel
theorem dX5_turnAway_18 : decode cX5_turnAway 18 = .ok (.iconst (-1), 1) := by decide +kernel
theorem dX5_turnAway_19 : decode cX5_turnAway 19 = .ok (.if_icmp .ne 15, 3) := by decide +kernel
theorem dX5_turnAway_22 : decode cX5_turnAway 22 = .ok (.iload_n 1, 1) := by decide +kernel
theorem dX5_turnAway_23 : decode cX5_turnAway 23 = .ok (.aload_n 0, 1) := by decide +kernel
theorem dX5_turnAway_24 : decode cX5_turnAway 24 = .ok (.getfield 46, 3) := by decide +kernel
theorem dX5_turnAway_27 : decode cX5_turnAway 27 = .ok (.iconst 1, 1) := by decide +kernel
theorem dX5_turnAway_28 : decode cX5_turnAway 28 = .ok (.iadd, 1) := by decide +kernel
theorem dX5_turnAway_29 : decode cX5_turnAway 29 = .ok (.iload_n 2, 1) := by decide +kernel
theorem dX5_turnAway_30 : decode cX5_turnAway 30 = .ok (.invokestatic 194, 3) := by decide +kernel
theorem dX5_turnAway_33 : decode cX5_turnAway 33 = .ok (.ireturn, 1) := by decide +kernel
theorem dX5_turnAway_34 : decode cX5_turnAway 34 = .ok (.iload_n 1, 1) := by decide +kernel
theorem dX5_turnAway_35 : decode cX5_turnAway 35 = .ok (.aload_n 0, 1) := by decide +kernel
theorem dX5_turnAway_36 : decode cX5_turnAway 36 = .ok (.getfield 46, 3) := by decide +kernel
theorem dX5_turnAway_39 : decode cX5_turnAway 39 = .ok (.aload_n 0, 1) := by decide +kernel
theorem dX5_turnAway_40 : decode cX5_turnAway 40 = .ok (.getfield 42, 3) := by decide +kernel
theorem dX5_turnAway_43 : decode cX5_turnAway 43 = .ok (.iload_n 2, 1) := by decide +kernel
theorem dX5_turnAway_44 : decode cX5_turnAway 44 = .ok (.iload_n 3, 1) := by decide +kernel
theorem dX5_turnAway_45 : decode cX5_turnAway 45 = .ok (.invokevirtual 146, 3) := by decide +kernel
theorem dX5_turnAway_48 : decode cX5_turnAway 48 = .ok (.iadd, 1) := by decide +kernel
theorem dX5_turnAway_49 : decode cX5_turnAway 49 = .ok (.iload_n 3, 1) := by decide +kernel
theorem dX5_turnAway_50 : decode cX5_turnAway 50 = .ok (.invokestatic 194, 3) := by decide +kernel
theorem dX5_turnAway_53 : decode cX5_turnAway 53 = .ok (.ireturn, 1) := by decide +kernel
theorem dX5_goOn_0 : decode cX5_goOn 0 = .ok (.aload_n 1, 1) := by decide +kernel
theorem dX5_goOn_1 : decode cX5_goOn 1 = .ok (.getfield 198, 3) := by decide +kernel
theorem dX5_goOn_4 : decode cX5_goOn 4 = .ok (.istore_n 2, 1) := by decide +kernel
theorem dX5_goOn_5 : decode cX5_goOn 5 = .ok (.iload_n 2, 1) := by decide +kernel
theorem dX5_goOn_6 : decode cX5_goOn 6 = .ok (.ifCond .le 85, 3) := by decide +kernel
theorem dX5_goOn_9 : decode cX5_goOn 9 = .ok (.aload_n 1, 1) := by decide +kernel
theorem dX5_goOn_10 : decode cX5_goOn 10 = .ok (.invokevirtual 201, 3) := by decide +kernel
theorem dX5_goOn_13 : decode cX5_goOn 13 = .ok (.ifCond .ne 78, 3) := by decide +kernel
theorem dX5_goOn_16 : decode cX5_goOn 16 = .ok (.aload_n 1, 1) := by decide +kernel
theorem dX5_goOn_17 : decode cX5_goOn 17 = .ok (.getfield 205, 3) := by decide +kernel
theorem dX5_goOn_20 : decode cX5_goOn 20 = .ok (.iconst 0, 1) := by decide +kernel
theorem dX5_goOn_21 : decode cX5_goOn 21 = .ok (.iaload, 1) := by decide +kernel
theorem dX5_goOn_22 : decode cX5_goOn 22 = .ok (.istore_n 3, 1) := by decide +kernel
theorem dX5_goOn_23 : decode cX5_goOn 23 = .ok (.aload_n 1, 1) := by decide +kernel
theorem dX5_goOn_24 : decode cX5_goOn 24 = .ok (.getfield 208, 3) := by decide +kernel
theorem dX5_goOn_27 : decode cX5_goOn 27 = .ok (.iconst 0, 1) := by decide +kernel
theorem dX5_goOn_28 : decode cX5_goOn 28 = .ok (.iaload, 1) := by decide +kernel
theorem dX5_goOn_29 : decode cX5_goOn 29 = .ok (.istore 4, 2) := by decide +kernel
theorem dX5_goOn_31 : decode cX5_goOn 31 = .ok (.aload_n 1, 1) := by decide +kernel
theorem dX5_goOn_32 : decode cX5_goOn 32 = .ok (.invokevirtual 211, 3) := by decide +kernel
theorem dX5_goOn_35 : decode cX5_goOn 35 = .ok (.iload_n 3, 1) := by decide +kernel
theorem dX5_goOn_36 : decode cX5_goOn 36 = .ok (.aload_n 1, 1) := by decide +kernel
theorem dX5_goOn_37 : decode cX5_goOn 37 = .ok (.getfield 214, 3) := by decide +kernel
theorem dX5_goOn_40 : decode cX5_goOn 40 = .ok (.if_icmp .ne 13, 3) := by decide +kernel
theorem dX5_goOn_43 : decode cX5_goOn 43 = .ok (.aload_n 0, 1) := by decide +kernel
theorem dX5_goOn_44 : decode cX5_goOn 44 = .ok (.aload_n 1, 1) := by decide +kernel
theorem dX5_goOn_45 : decode cX5_goOn 45 = .ok (.iload 4, 2) := by decide +kernel
theorem dX5_goOn_47 : decode cX5_goOn 47 = .ok (.invokevirtual 217, 3) := by decide +kernel
theorem dX5_goOn_50 : decode cX5_goOn 50 = .ok (.goto 35, 3) := by decide +kernel
theorem dX5_goOn_53 : decode cX5_goOn 53 = .ok (.aload_n 1, 1) := by decide +kernel
theorem dX5_goOn_54 : decode cX5_goOn 54 = .ok (.aload_n 0, 1) := by decide +kernel
theorem dX5_goOn_55 : decode cX5_goOn 55 = .ok (.getfield 46, 3) := by decide +kernel
theorem dX5_goOn_58 : decode cX5_goOn 58 = .ok (.aload_n 0, 1) := by decide +kernel
theorem dX5_goOn_59 : decode cX5_goOn 59 = .ok (.getfield 42, 3) := by decide +kernel
theorem dX5_goOn_62 : decode cX5_goOn 62 = .ok (.aload_n 1, 1) := by decide +kernel
theorem dX5_goOn_63 : decode cX5_goOn 63 = .ok (.getfield 214, 3) := by decide +kernel
theorem dX5_goOn_66 : decode cX5_goOn 66 = .ok (.iload_n 3, 1) := by decide +kernel
theorem dX5_goOn_67 : decode cX5_goOn 67 = .ok (.invokevirtual 221, 3) := by decide +kernel
theorem dX5_goOn_70 : decode cX5_goOn 70 = .ok (.iadd, 1) := by decide +kernel
theorem dX5_goOn_71 : decode cX5_goOn 71 = .ok (.putfield 224, 3) := by decide +kernel
theorem dX5_goOn_74 : decode cX5_goOn 74 = .ok (.aload_n 1, 1) := by decide +kernel
theorem dX5_goOn_75 : decode cX5_goOn 75 = .ok (.iload_n 3, 1) := by decide +kernel
theorem dX5_goOn_76 : decode cX5_goOn 76 = .ok (.putfield 214, 3) := by decide +kernel
theorem dX5_goOn_79 : decode cX5_goOn 79 = .ok (.aload_n 1, 1) := by decide +kernel
theorem dX5_goOn_80 : decode cX5_goOn 80 = .ok (.iload 4, 2) := by decide +kernel
theorem dX5_goOn_82 : decode cX5_goOn 82 = .ok (.putfield 227, 3) := by decide +kernel
theorem dX5_goOn_85 : decode cX5_goOn 85 = .ok (.iinc 2 (-1), 3) := by decide +kernel
theorem dX5_goOn_88 : decode cX5_goOn 88 = .ok (.goto (-83), 3) := by decide +kernel
theorem dX5_goOn_91 : decode cX5_goOn 91 = .ok (.return_, 1) := by decide +kernel
theorem dX5_carryOut_0 : decode cX5_carryOut 0 = .ok (.aload_n 1, 1) := by decide +kernel
theorem dX5_carryOut_1 : decode cX5_carryOut 1 = .ok (.getfield 214, 3) := by decide +kernel
theorem dX5_carryOut_4 : decode cX5_carryOut 4 = .ok (.istore_n 3, 1) := by decide +kernel
theorem dX5_carryOut_5 : decode cX5_carryOut 5 = .ok (.iload_n 2, 1) := by decide +kernel
theorem dX5_carryOut_6 : decode cX5_carryOut 6 = .ok (.aload_n 0, 1) := by decide +kernel
theorem dX5_carryOut_7 : decode cX5_carryOut 7 = .ok (.getfield 9, 3) := by decide +kernel
theorem dX5_carryOut_10 : decode cX5_carryOut 10 = .ok (.iload_n 3, 1) := by decide +kernel
theorem dX5_carryOut_11 : decode cX5_carryOut 11 = .ok (.iaload, 1) := by decide +kernel
theorem dX5_carryOut_12 : decode cX5_carryOut 12 = .ok (.isub, 1) := by decide +kernel
theorem dX5_carryOut_13 : decode cX5_carryOut 13 = .ok (.istore 4, 2) := by decide +kernel
theorem dX5_carryOut_15 : decode cX5_carryOut 15 = .ok (.iload 4, 2) := by decide +kernel
theorem dX5_carryOut_17 : decode cX5_carryOut 17 = .ok (.ifCond .le 23, 3) := by decide +kernel
theorem dX5_carryOut_20 : decode cX5_carryOut 20 = .ok (.iload 4, 2) := by decide +kernel
theorem dX5_carryOut_22 : decode cX5_carryOut 22 = .ok (.aload_n 1, 1) := by decide +kernel
theorem dX5_carryOut_23 : decode cX5_carryOut 23 = .ok (.getfield 139, 3) := by decide +kernel
theorem dX5_carryOut_26 : decode cX5_carryOut 26 = .ok (.aload_n 0, 1) := by decide +kernel
theorem dX5_carryOut_27 : decode cX5_carryOut 27 = .ok (.iload_n 3, 1) := by decide +kernel
theorem dX5_carryOut_28 : decode cX5_carryOut 28 = .ok (.invokevirtual 118, 3) := by decide +kernel
theorem dX5_carryOut_31 : decode cX5_carryOut 31 = .ok (.invokestatic 159, 3) := by decide +kernel
theorem dX5_carryOut_34 : decode cX5_carryOut 34 = .ok (.invokestatic 159, 3) := by decide +kernel
theorem dX5_carryOut_37 : decode cX5_carryOut 37 = .ok (.goto 19, 3) := by decide +kernel
theorem dX5_carryOut_40 : decode cX5_carryOut 40 = .ok (.iload 4, 2) := by decide +kernel
theorem dX5_carryOut_42 : decode cX5_carryOut 42 = .ok (.ineg, 1) := by decide +kernel
theorem dX5_carryOut_43 : decode cX5_carryOut 43 = .ok (.aload_n 1, 1) := by decide +kernel
theorem dX5_carryOut_44 : decode cX5_carryOut 44 = .ok (.getfield 230, 3) := by decide +kernel
theorem dX5_carryOut_47 : decode cX5_carryOut 47 = .ok (.aload_n 1, 1) := by decide +kernel
theorem dX5_carryOut_48 : decode cX5_carryOut 48 = .ok (.getfield 139, 3) := by decide +kernel
theorem dX5_carryOut_51 : decode cX5_carryOut 51 = .ok (.isub, 1) := by decide +kernel
theorem dX5_carryOut_52 : decode cX5_carryOut 52 = .ok (.invokestatic 159, 3) := by decide +kernel
theorem dX5_carryOut_55 : decode cX5_carryOut 55 = .ok (.ineg, 1) := by decide +kernel
theorem dX5_carryOut_56 : decode cX5_carryOut 56 = .ok (.istore 5, 2) := by decide +kernel
theorem dX5_carryOut_58 : decode cX5_carryOut 58 = .ok (.aload_n 0, 1) := by decide +kernel
theorem dX5_carryOut_59 : decode cX5_carryOut 59 = .ok (.getfield 9, 3) := by decide +kernel
theorem dX5_carryOut_62 : decode cX5_carryOut 62 = .ok (.iload_n 3, 1) := by decide +kernel
theorem dX5_carryOut_63 : decode cX5_carryOut 63 = .ok (.dup2, 1) := by decide +kernel
theorem dX5_carryOut_64 : decode cX5_carryOut 64 = .ok (.iaload, 1) := by decide +kernel
theorem dX5_carryOut_65 : decode cX5_carryOut 65 = .ok (.iload 5, 2) := by decide +kernel
theorem dX5_carryOut_67 : decode cX5_carryOut 67 = .ok (.iadd, 1) := by decide +kernel
theorem dX5_carryOut_68 : decode cX5_carryOut 68 = .ok (.iastore, 1) := by decide +kernel
theorem dX5_carryOut_69 : decode cX5_carryOut 69 = .ok (.aload_n 1, 1) := by decide +kernel
theorem dX5_carryOut_70 : decode cX5_carryOut 70 = .ok (.dup, 1) := by decide +kernel
theorem dX5_carryOut_71 : decode cX5_carryOut 71 = .ok (.getfield 139, 3) := by decide +kernel
theorem dX5_carryOut_74 : decode cX5_carryOut 74 = .ok (.iload 5, 2) := by decide +kernel
theorem dX5_carryOut_76 : decode cX5_carryOut 76 = .ok (.isub, 1) := by decide +kernel
theorem dX5_carryOut_77 : decode cX5_carryOut 77 = .ok (.putfield 139, 3) := by decide +kernel
theorem dX5_carryOut_80 : decode cX5_carryOut 80 = .ok (.return_, 1) := by decide +kernel
theorem dX5_arrive_0 : decode cX5_arrive 0 = .ok (.aload_n 1, 1) := by decide +kernel
theorem dX5_arrive_1 : decode cX5_arrive 1 = .ok (.iconst (-1), 1) := by decide +kernel
theorem dX5_arrive_2 : decode cX5_arrive 2 = .ok (.putfield 224, 3) := by decide +kernel
theorem dX5_arrive_5 : decode cX5_arrive 5 = .ok (.aload_n 0, 1) := by decide +kernel
theorem dX5_arrive_6 : decode cX5_arrive 6 = .ok (.aload_n 1, 1) := by decide +kernel
theorem dX5_arrive_7 : decode cX5_arrive 7 = .ok (.aload_n 1, 1) := by decide +kernel
theorem dX5_arrive_8 : decode cX5_arrive 8 = .ok (.getfield 227, 3) := by decide +kernel
theorem dX5_arrive_11 : decode cX5_arrive 11 = .ok (.invokevirtual 217, 3) := by decide +kernel
theorem dX5_arrive_14 : decode cX5_arrive 14 = .ok (.aload_n 0, 1) := by decide +kernel
theorem dX5_arrive_15 : decode cX5_arrive 15 = .ok (.aload_n 1, 1) := by decide +kernel
theorem dX5_arrive_16 : decode cX5_arrive 16 = .ok (.invokevirtual 233, 3) := by decide +kernel
theorem dX5_arrive_19 : decode cX5_arrive 19 = .ok (.return_, 1) := by decide +kernel
theorem dX5_advance_0 : decode cX5_advance 0 = .ok (.iconst 0, 1) := by decide +kernel
theorem dX5_advance_1 : decode cX5_advance 1 = .ok (.istore_n 2, 1) := by decide +kernel
theorem dX5_advance_2 : decode cX5_advance 2 = .ok (.aload_n 0, 1) := by decide +kernel
theorem dX5_advance_3 : decode cX5_advance 3 = .ok (.invokevirtual 236, 3) := by decide +kernel
theorem dX5_advance_6 : decode cX5_advance 6 = .ok (.istore_n 3, 1) := by decide +kernel
theorem dX5_advance_7 : decode cX5_advance 7 = .ok (.iload_n 1, 1) := by decide +kernel
theorem dX5_advance_8 : decode cX5_advance 8 = .ok (.istore 4, 2) := by decide +kernel
theorem dX5_advance_10 : decode cX5_advance 10 = .ok (.iload 4, 2) := by decide +kernel
theorem dX5_advance_12 : decode cX5_advance 12 = .ok (.ifCond .le 39, 3) := by decide +kernel
theorem dX5_advance_15 : decode cX5_advance 15 = .ok (.aload_n 0, 1) := by decide +kernel
theorem dX5_advance_16 : decode cX5_advance 16 = .ok (.dup, 1) := by decide +kernel
theorem dX5_advance_17 : decode cX5_advance 17 = .ok (.getfield 46, 3) := by decide +kernel
theorem dX5_advance_20 : decode cX5_advance 20 = .ok (.iconst 1, 1) := by decide +kernel
theorem dX5_advance_21 : decode cX5_advance 21 = .ok (.iadd, 1) := by decide +kernel
theorem dX5_advance_22 : decode cX5_advance 22 = .ok (.putfield 46, 3) := by decide +kernel
theorem dX5_advance_25 : decode cX5_advance 25 = .ok (.aload_n 0, 1) := by decide +kernel
theorem dX5_advance_26 : decode cX5_advance 26 = .ok (.getfield 46, 3) := by decide +kernel
theorem dX5_advance_29 : decode cX5_advance 29 = .ok (.iload_n 3, 1) := by decide +kernel
theorem dX5_advance_30 : decode cX5_advance 30 = .ok (.if_icmp .lt 15, 3) := by decide +kernel
theorem dX5_advance_33 : decode cX5_advance 33 = .ok (.iload_n 2, 1) := by decide +kernel
theorem dX5_advance_34 : decode cX5_advance 34 = .ok (.aload_n 0, 1) := by decide +kernel
theorem dX5_advance_35 : decode cX5_advance 35 = .ok (.invokevirtual 239, 3) := by decide +kernel
theorem dX5_advance_38 : decode cX5_advance 38 = .ok (.iadd, 1) := by decide +kernel
theorem dX5_advance_39 : decode cX5_advance 39 = .ok (.istore_n 2, 1) := by decide +kernel
theorem dX5_advance_40 : decode cX5_advance 40 = .ok (.aload_n 0, 1) := by decide +kernel
theorem dX5_advance_41 : decode cX5_advance 41 = .ok (.invokevirtual 236, 3) := by decide +kernel
theorem dX5_advance_44 : decode cX5_advance 44 = .ok (.istore_n 3, 1) := by decide +kernel
theorem dX5_advance_45 : decode cX5_advance 45 = .ok (.iinc 4 (-1), 3) := by decide +kernel
theorem dX5_advance_48 : decode cX5_advance 48 = .ok (.goto (-38), 3) := by decide +kernel
theorem dX5_advance_51 : decode cX5_advance 51 = .ok (.iload_n 2, 1) := by decide +kernel
theorem dX5_advance_52 : decode cX5_advance 52 = .ok (.ireturn, 1) := by decide +kernel
theorem dX5_minutesUntilOut_0 : decode cX5_minutesUntilOut 0 = .ok (.aload_n 0, 1) := by decide +kernel
theorem dX5_minutesUntilOut_1 : decode cX5_minutesUntilOut 1 = .ok (.iload_n 1, 1) := by decide +kernel
theorem dX5_minutesUntilOut_2 : decode cX5_minutesUntilOut 2 = .ok (.iload_n 2, 1) := by decide +kernel
theorem dX5_minutesUntilOut_3 : decode cX5_minutesUntilOut 3 = .ok (.invokevirtual 242, 3) := by decide +kernel
theorem dX5_minutesUntilOut_6 : decode cX5_minutesUntilOut 6 = .ok (.ifCond .eq 5, 3) := by decide +kernel
theorem dX5_minutesUntilOut_9 : decode cX5_minutesUntilOut 9 = .ok (.iconst 0, 1) := by decide +kernel
theorem dX5_minutesUntilOut_10 : decode cX5_minutesUntilOut 10 = .ok (.ireturn, 1) := by decide +kernel
theorem dX5_minutesUntilOut_11 : decode cX5_minutesUntilOut 11 = .ok (.aload_n 0, 1) := by decide +kernel
theorem dX5_minutesUntilOut_12 : decode cX5_minutesUntilOut 12 = .ok (.invokevirtual 236, 3) := by decide +kernel
theorem dX5_minutesUntilOut_15 : decode cX5_minutesUntilOut 15 = .ok (.istore_n 3, 1) := by decide +kernel
theorem dX5_minutesUntilOut_16 : decode cX5_minutesUntilOut 16 = .ok (.iconst 1, 1) := by decide +kernel
theorem dX5_minutesUntilOut_17 : decode cX5_minutesUntilOut 17 = .ok (.istore 4, 2) := by decide +kernel
theorem dX5_minutesUntilOut_19 : decode cX5_minutesUntilOut 19 = .ok (.iload 4, 2) := by decide +kernel
theorem dX5_minutesUntilOut_21 : decode cX5_minutesUntilOut 21 = .ok (.sipush 1440, 3) := by decide +kernel
theorem dX5_minutesUntilOut_24 : decode cX5_minutesUntilOut 24 = .ok (.if_icmp .gt 49, 3) := by decide +kernel
theorem dX5_minutesUntilOut_27 : decode cX5_minutesUntilOut 27 = .ok (.aload_n 0, 1) := by decide +kernel
theorem dX5_minutesUntilOut_28 : decode cX5_minutesUntilOut 28 = .ok (.dup, 1) := by decide +kernel
theorem dX5_minutesUntilOut_29 : decode cX5_minutesUntilOut 29 = .ok (.getfield 46, 3) := by decide +kernel
theorem dX5_minutesUntilOut_32 : decode cX5_minutesUntilOut 32 = .ok (.iconst 1, 1) := by decide +kernel
theorem dX5_minutesUntilOut_33 : decode cX5_minutesUntilOut 33 = .ok (.iadd, 1) := by decide +kernel
theorem dX5_minutesUntilOut_34 : decode cX5_minutesUntilOut 34 = .ok (.putfield 46, 3) := by decide +kernel
theorem dX5_minutesUntilOut_37 : decode cX5_minutesUntilOut 37 = .ok (.aload_n 0, 1) := by decide +kernel
theorem dX5_minutesUntilOut_38 : decode cX5_minutesUntilOut 38 = .ok (.getfield 46, 3) := by decide +kernel
theorem dX5_minutesUntilOut_41 : decode cX5_minutesUntilOut 41 = .ok (.iload_n 3, 1) := by decide +kernel
theorem dX5_minutesUntilOut_42 : decode cX5_minutesUntilOut 42 = .ok (.if_icmp .lt 25, 3) := by decide +kernel
theorem dX5_minutesUntilOut_45 : decode cX5_minutesUntilOut 45 = .ok (.aload_n 0, 1) := by decide +kernel
theorem dX5_minutesUntilOut_46 : decode cX5_minutesUntilOut 46 = .ok (.invokevirtual 239, 3) := by decide +kernel
theorem dX5_minutesUntilOut_49 : decode cX5_minutesUntilOut 49 = .ok (.pop, 1) := by decide +kernel
theorem dX5_minutesUntilOut_50 : decode cX5_minutesUntilOut 50 = .ok (.aload_n 0, 1) := by decide +kernel
theorem dX5_minutesUntilOut_51 : decode cX5_minutesUntilOut 51 = .ok (.iload_n 1, 1) := by decide +kernel
theorem dX5_minutesUntilOut_52 : decode cX5_minutesUntilOut 52 = .ok (.iload_n 2, 1) := by decide +kernel
theorem dX5_minutesUntilOut_53 : decode cX5_minutesUntilOut 53 = .ok (.invokevirtual 242, 3) := by decide +kernel
theorem dX5_minutesUntilOut_56 : decode cX5_minutesUntilOut 56 = .ok (.ifCond .eq 6, 3) := by decide +kernel
theorem dX5_minutesUntilOut_59 : decode cX5_minutesUntilOut 59 = .ok (.iload 4, 2) := by decide +kernel
theorem dX5_minutesUntilOut_61 : decode cX5_minutesUntilOut 61 = .ok (.ireturn, 1) := by decide +kernel
theorem dX5_minutesUntilOut_62 : decode cX5_minutesUntilOut 62 = .ok (.aload_n 0, 1) := by decide +kernel
theorem dX5_minutesUntilOut_63 : decode cX5_minutesUntilOut 63 = .ok (.invokevirtual 236, 3) := by decide +kernel
theorem dX5_minutesUntilOut_66 : decode cX5_minutesUntilOut 66 = .ok (.istore_n 3, 1) := by decide +kernel
theorem dX5_minutesUntilOut_67 : decode cX5_minutesUntilOut 67 = .ok (.iinc 4 1, 3) := by decide +kernel
theorem dX5_minutesUntilOut_70 : decode cX5_minutesUntilOut 70 = .ok (.goto (-51), 3) := by decide +kernel
theorem dX5_minutesUntilOut_73 : decode cX5_minutesUntilOut 73 = .ok (.iconst (-1), 1) := by decide +kernel
theorem dX5_minutesUntilOut_74 : decode cX5_minutesUntilOut 74 = .ok (.ireturn, 1) := by decide +kernel
theorem dX5_nextEvent_0 : decode cX5_nextEvent 0 = .ok (.aload_n 0, 1) := by decide +kernel
theorem dX5_nextEvent_1 : decode cX5_nextEvent 1 = .ok (.getfield 33, 3) := by decide +kernel
theorem dX5_nextEvent_4 : decode cX5_nextEvent 4 = .ok (.getfield 65, 3) := by decide +kernel
theorem dX5_nextEvent_7 : decode cX5_nextEvent 7 = .ok (.ifCond .le 18, 3) := by decide +kernel
theorem dX5_nextEvent_10 : decode cX5_nextEvent 10 = .ok (.aload_n 0, 1) := by decide +kernel
theorem dX5_nextEvent_11 : decode cX5_nextEvent 11 = .ok (.getfield 33, 3) := by decide +kernel
theorem dX5_nextEvent_14 : decode cX5_nextEvent 14 = .ok (.getfield 175, 3) := by decide +kernel
theorem dX5_nextEvent_17 : decode cX5_nextEvent 17 = .ok (.iconst 0, 1) := by decide +kernel
theorem dX5_nextEvent_18 : decode cX5_nextEvent 18 = .ok (.iaload, 1) := by decide +kernel
theorem dX5_nextEvent_19 : decode cX5_nextEvent 19 = .ok (.invokestatic 246, 3) := by decide +kernel
theorem dX5_nextEvent_22 : decode cX5_nextEvent 22 = .ok (.goto 5, 3) := by decide +kernel
theorem dX5_nextEvent_25 : decode cX5_nextEvent 25 = .ok (.ldc 249, 2) := by decide +kernel
theorem dX5_nextEvent_27 : decode cX5_nextEvent 27 = .ok (.istore_n 1, 1) := by decide +kernel
theorem dX5_nextEvent_28 : decode cX5_nextEvent 28 = .ok (.iconst 0, 1) := by decide +kernel
theorem dX5_nextEvent_29 : decode cX5_nextEvent 29 = .ok (.istore_n 2, 1) := by decide +kernel
theorem dX5_nextEvent_30 : decode cX5_nextEvent 30 = .ok (.iload_n 2, 1) := by decide +kernel
theorem dX5_nextEvent_31 : decode cX5_nextEvent 31 = .ok (.aload_n 0, 1) := by decide +kernel
theorem dX5_nextEvent_32 : decode cX5_nextEvent 32 = .ok (.getfield 42, 3) := by decide +kernel
theorem dX5_nextEvent_35 : decode cX5_nextEvent 35 = .ok (.getfield 137, 3) := by decide +kernel
theorem dX5_nextEvent_38 : decode cX5_nextEvent 38 = .ok (.if_icmp .ge 35, 3) := by decide +kernel
theorem dX5_nextEvent_41 : decode cX5_nextEvent 41 = .ok (.aload_n 0, 1) := by decide +kernel
theorem dX5_nextEvent_42 : decode cX5_nextEvent 42 = .ok (.getfield 26, 3) := by decide +kernel
theorem dX5_nextEvent_45 : decode cX5_nextEvent 45 = .ok (.iload_n 2, 1) := by decide +kernel
theorem dX5_nextEvent_46 : decode cX5_nextEvent 46 = .ok (.aaload, 1) := by decide +kernel
theorem dX5_nextEvent_47 : decode cX5_nextEvent 47 = .ok (.invokevirtual 201, 3) := by decide +kernel
theorem dX5_nextEvent_50 : decode cX5_nextEvent 50 = .ok (.ifCond .eq 17, 3) := by decide +kernel
theorem dX5_nextEvent_53 : decode cX5_nextEvent 53 = .ok (.iload_n 1, 1) := by decide +kernel
theorem dX5_nextEvent_54 : decode cX5_nextEvent 54 = .ok (.aload_n 0, 1) := by decide +kernel
theorem dX5_nextEvent_55 : decode cX5_nextEvent 55 = .ok (.getfield 26, 3) := by decide +kernel
theorem dX5_nextEvent_58 : decode cX5_nextEvent 58 = .ok (.iload_n 2, 1) := by decide +kernel
theorem dX5_nextEvent_59 : decode cX5_nextEvent 59 = .ok (.aaload, 1) := by decide +kernel
theorem dX5_nextEvent_60 : decode cX5_nextEvent 60 = .ok (.getfield 224, 3) := by decide +kernel
theorem dX5_nextEvent_63 : decode cX5_nextEvent 63 = .ok (.invokestatic 159, 3) := by decide +kernel
theorem dX5_nextEvent_66 : decode cX5_nextEvent 66 = .ok (.istore_n 1, 1) := by decide +kernel
theorem dX5_nextEvent_67 : decode cX5_nextEvent 67 = .ok (.iinc 2 1, 3) := by decide +kernel
theorem dX5_nextEvent_70 : decode cX5_nextEvent 70 = .ok (.goto (-40), 3) := by decide +kernel
theorem dX5_nextEvent_73 : decode cX5_nextEvent 73 = .ok (.aload_n 0, 1) := by decide +kernel
theorem dX5_nextEvent_74 : decode cX5_nextEvent 74 = .ok (.getfield 46, 3) := by decide +kernel
theorem dX5_nextEvent_77 : decode cX5_nextEvent 77 = .ok (.iconst 1, 1) := by decide +kernel
theorem dX5_nextEvent_78 : decode cX5_nextEvent 78 = .ok (.iadd, 1) := by decide +kernel
theorem dX5_nextEvent_79 : decode cX5_nextEvent 79 = .ok (.istore_n 2, 1) := by decide +kernel
theorem dX5_nextEvent_80 : decode cX5_nextEvent 80 = .ok (.iload_n 2, 1) := by decide +kernel
theorem dX5_nextEvent_81 : decode cX5_nextEvent 81 = .ok (.sipush 1440, 3) := by decide +kernel
theorem dX5_nextEvent_84 : decode cX5_nextEvent 84 = .ok (.irem, 1) := by decide +kernel
theorem dX5_nextEvent_85 : decode cX5_nextEvent 85 = .ok (.istore_n 3, 1) := by decide +kernel
theorem dX5_nextEvent_86 : decode cX5_nextEvent 86 = .ok (.iconst 0, 1) := by decide +kernel
theorem dX5_nextEvent_87 : decode cX5_nextEvent 87 = .ok (.istore 4, 2) := by decide +kernel
theorem dX5_nextEvent_89 : decode cX5_nextEvent 89 = .ok (.iload 4, 2) := by decide +kernel
theorem dX5_nextEvent_91 : decode cX5_nextEvent 91 = .ok (.aload_n 0, 1) := by decide +kernel
theorem dX5_nextEvent_92 : decode cX5_nextEvent 92 = .ok (.getfield 42, 3) := by decide +kernel
theorem dX5_nextEvent_95 : decode cX5_nextEvent 95 = .ok (.getfield 250, 3) := by decide +kernel
theorem dX5_nextEvent_98 : decode cX5_nextEvent 98 = .ok (.if_icmp .ge 46, 3) := by decide +kernel
theorem dX5_nextEvent_101 : decode cX5_nextEvent 101 = .ok (.aload_n 0, 1) := by decide +kernel
theorem dX5_nextEvent_102 : decode cX5_nextEvent 102 = .ok (.getfield 42, 3) := by decide +kernel
theorem dX5_nextEvent_105 : decode cX5_nextEvent 105 = .ok (.getfield 253, 3) := by decide +kernel
theorem dX5_nextEvent_108 : decode cX5_nextEvent 108 = .ok (.iload 4, 2) := by decide +kernel
theorem dX5_nextEvent_110 : decode cX5_nextEvent 110 = .ok (.iaload, 1) := by decide +kernel
theorem dX5_nextEvent_111 : decode cX5_nextEvent 111 = .ok (.iload_n 3, 1) := by decide +kernel
theorem dX5_nextEvent_112 : decode cX5_nextEvent 112 = .ok (.isub, 1) := by decide +kernel
theorem dX5_nextEvent_113 : decode cX5_nextEvent 113 = .ok (.istore 5, 2) := by decide +kernel
theorem dX5_nextEvent_115 : decode cX5_nextEvent 115 = .ok (.iload_n 1, 1) := by decide +kernel
theorem dX5_nextEvent_116 : decode cX5_nextEvent 116 = .ok (.iload_n 2, 1) := by decide +kernel
theorem dX5_nextEvent_117 : decode cX5_nextEvent 117 = .ok (.iload 5, 2) := by decide +kernel
theorem dX5_nextEvent_119 : decode cX5_nextEvent 119 = .ok (.ifCond .ge 12, 3) := by decide +kernel
theorem dX5_nextEvent_122 : decode cX5_nextEvent 122 = .ok (.iload 5, 2) := by decide +kernel
theorem dX5_nextEvent_124 : decode cX5_nextEvent 124 = .ok (.sipush 1440, 3) := by decide +kernel
theorem dX5_nextEvent_127 : decode cX5_nextEvent 127 = .ok (.iadd, 1) := by decide +kernel
theorem dX5_nextEvent_128 : decode cX5_nextEvent 128 = .ok (.goto 5, 3) := by decide +kernel
theorem dX5_nextEvent_131 : decode cX5_nextEvent 131 = .ok (.iload 5, 2) := by decide +kernel
theorem dX5_nextEvent_133 : decode cX5_nextEvent 133 = .ok (.iadd, 1) := by decide +kernel
theorem dX5_nextEvent_134 : decode cX5_nextEvent 134 = .ok (.invokestatic 159, 3) := by decide +kernel
theorem dX5_nextEvent_137 : decode cX5_nextEvent 137 = .ok (.istore_n 1, 1) := by decide +kernel
theorem dX5_nextEvent_138 : decode cX5_nextEvent 138 = .ok (.iinc 4 1, 3) := by decide +kernel
theorem dX5_nextEvent_141 : decode cX5_nextEvent 141 = .ok (.goto (-52), 3) := by decide +kernel
theorem dX5_nextEvent_144 : decode cX5_nextEvent 144 = .ok (.iload_n 1, 1) := by decide +kernel
theorem dX5_nextEvent_145 : decode cX5_nextEvent 145 = .ok (.ireturn, 1) := by decide +kernel
theorem dX5_happen_0 : decode cX5_happen 0 = .ok (.iconst 0, 1) := by decide +kernel
theorem dX5_happen_1 : decode cX5_happen 1 = .ok (.istore_n 1, 1) := by decide +kernel
theorem dX5_happen_2 : decode cX5_happen 2 = .ok (.iload_n 1, 1) := by decide +kernel
theorem dX5_happen_3 : decode cX5_happen 3 = .ok (.aload_n 0, 1) := by decide +kernel
theorem dX5_happen_4 : decode cX5_happen 4 = .ok (.getfield 42, 3) := by decide +kernel
theorem dX5_happen_7 : decode cX5_happen 7 = .ok (.getfield 137, 3) := by decide +kernel
theorem dX5_happen_10 : decode cX5_happen 10 = .ok (.if_icmp .ge 35, 3) := by decide +kernel
theorem dX5_happen_13 : decode cX5_happen 13 = .ok (.aload_n 0, 1) := by decide +kernel
theorem dX5_happen_14 : decode cX5_happen 14 = .ok (.getfield 26, 3) := by decide +kernel
theorem dX5_happen_17 : decode cX5_happen 17 = .ok (.iload_n 1, 1) := by decide +kernel
theorem dX5_happen_18 : decode cX5_happen 18 = .ok (.aaload, 1) := by decide +kernel
theorem dX5_happen_19 : decode cX5_happen 19 = .ok (.getfield 224, 3) := by decide +kernel
theorem dX5_happen_22 : decode cX5_happen 22 = .ok (.aload_n 0, 1) := by decide +kernel
theorem dX5_happen_23 : decode cX5_happen 23 = .ok (.getfield 46, 3) := by decide +kernel
theorem dX5_happen_26 : decode cX5_happen 26 = .ok (.if_icmp .ne 13, 3) := by decide +kernel
theorem dX5_happen_29 : decode cX5_happen 29 = .ok (.aload_n 0, 1) := by decide +kernel
theorem dX5_happen_30 : decode cX5_happen 30 = .ok (.aload_n 0, 1) := by decide +kernel
theorem dX5_happen_31 : decode cX5_happen 31 = .ok (.getfield 26, 3) := by decide +kernel
theorem dX5_happen_34 : decode cX5_happen 34 = .ok (.iload_n 1, 1) := by decide +kernel
theorem dX5_happen_35 : decode cX5_happen 35 = .ok (.aaload, 1) := by decide +kernel
theorem dX5_happen_36 : decode cX5_happen 36 = .ok (.invokevirtual 256, 3) := by decide +kernel
theorem dX5_happen_39 : decode cX5_happen 39 = .ok (.iinc 1 1, 3) := by decide +kernel
theorem dX5_happen_42 : decode cX5_happen 42 = .ok (.goto (-40), 3) := by decide +kernel
theorem dX5_happen_45 : decode cX5_happen 45 = .ok (.aload_n 0, 1) := by decide +kernel
theorem dX5_happen_46 : decode cX5_happen 46 = .ok (.invokevirtual 259, 3) := by decide +kernel
theorem dX5_happen_49 : decode cX5_happen 49 = .ok (.istore_n 1, 1) := by decide +kernel
theorem dX5_happen_50 : decode cX5_happen 50 = .ok (.aload_n 0, 1) := by decide +kernel
theorem dX5_happen_51 : decode cX5_happen 51 = .ok (.getfield 46, 3) := by decide +kernel
theorem dX5_happen_54 : decode cX5_happen 54 = .ok (.sipush 1440, 3) := by decide +kernel
theorem dX5_happen_57 : decode cX5_happen 57 = .ok (.irem, 1) := by decide +kernel
theorem dX5_happen_58 : decode cX5_happen 58 = .ok (.istore_n 2, 1) := by decide +kernel
theorem dX5_happen_59 : decode cX5_happen 59 = .ok (.iconst 0, 1) := by decide +kernel
theorem dX5_happen_60 : decode cX5_happen 60 = .ok (.istore_n 3, 1) := by decide +kernel
theorem dX5_happen_61 : decode cX5_happen 61 = .ok (.iload_n 3, 1) := by decide +kernel
theorem dX5_happen_62 : decode cX5_happen 62 = .ok (.aload_n 0, 1) := by decide +kernel
theorem dX5_happen_63 : decode cX5_happen 63 = .ok (.getfield 42, 3) := by decide +kernel
theorem dX5_happen_66 : decode cX5_happen 66 = .ok (.getfield 250, 3) := by decide +kernel
theorem dX5_happen_69 : decode cX5_happen 69 = .ok (.if_icmp .ge 76, 3) := by decide +kernel
theorem dX5_happen_72 : decode cX5_happen 72 = .ok (.aload_n 0, 1) := by decide +kernel
theorem dX5_happen_73 : decode cX5_happen 73 = .ok (.getfield 42, 3) := by decide +kernel
theorem dX5_happen_76 : decode cX5_happen 76 = .ok (.getfield 253, 3) := by decide +kernel
theorem dX5_happen_79 : decode cX5_happen 79 = .ok (.iload_n 3, 1) := by decide +kernel
theorem dX5_happen_80 : decode cX5_happen 80 = .ok (.iaload, 1) := by decide +kernel
theorem dX5_happen_81 : decode cX5_happen 81 = .ok (.iload_n 2, 1) := by decide +kernel
theorem dX5_happen_82 : decode cX5_happen 82 = .ok (.if_icmp .eq 6, 3) := by decide +kernel
theorem dX5_happen_85 : decode cX5_happen 85 = .ok (.goto 54, 3) := by decide +kernel
theorem dX5_happen_88 : decode cX5_happen 88 = .ok (.aload_n 0, 1) := by decide +kernel
theorem dX5_happen_89 : decode cX5_happen 89 = .ok (.aload_n 0, 1) := by decide +kernel
theorem dX5_happen_90 : decode cX5_happen 90 = .ok (.getfield 42, 3) := by decide +kernel
theorem dX5_happen_93 : decode cX5_happen 93 = .ok (.getfield 262, 3) := by decide +kernel
theorem dX5_happen_96 : decode cX5_happen 96 = .ok (.iload_n 3, 1) := by decide +kernel
theorem dX5_happen_97 : decode cX5_happen 97 = .ok (.iaload, 1) := by decide +kernel
theorem dX5_happen_98 : decode cX5_happen 98 = .ok (.invokevirtual 265, 3) := by decide +kernel
theorem dX5_happen_101 : decode cX5_happen 101 = .ok (.ifCond .eq 28, 3) := by decide +kernel
theorem dX5_happen_104 : decode cX5_happen 104 = .ok (.aload_n 0, 1) := by decide +kernel
theorem dX5_happen_105 : decode cX5_happen 105 = .ok (.aload_n 0, 1) := by decide +kernel
theorem dX5_happen_106 : decode cX5_happen 106 = .ok (.getfield 42, 3) := by decide +kernel
theorem dX5_happen_109 : decode cX5_happen 109 = .ok (.getfield 262, 3) := by decide +kernel
theorem dX5_happen_112 : decode cX5_happen 112 = .ok (.iload_n 3, 1) := by decide +kernel
theorem dX5_happen_113 : decode cX5_happen 113 = .ok (.iaload, 1) := by decide +kernel
theorem dX5_happen_114 : decode cX5_happen 114 = .ok (.aload_n 0, 1) := by decide +kernel
theorem dX5_happen_115 : decode cX5_happen 115 = .ok (.getfield 42, 3) := by decide +kernel
theorem dX5_happen_118 : decode cX5_happen 118 = .ok (.getfield 269, 3) := by decide +kernel
theorem dX5_happen_121 : decode cX5_happen 121 = .ok (.iload_n 3, 1) := by decide +kernel
theorem dX5_happen_122 : decode cX5_happen 122 = .ok (.iaload, 1) := by decide +kernel
theorem dX5_happen_123 : decode cX5_happen 123 = .ok (.invokevirtual 272, 3) := by decide +kernel
theorem dX5_happen_126 : decode cX5_happen 126 = .ok (.goto 13, 3) := by decide +kernel
theorem dX5_happen_129 : decode cX5_happen 129 = .ok (.aload_n 0, 1) := by decide +kernel
theorem dX5_happen_130 : decode cX5_happen 130 = .ok (.dup, 1) := by decide +kernel
theorem dX5_happen_131 : decode cX5_happen 131 = .ok (.getfield 59, 3) := by decide +kernel
theorem dX5_happen_134 : decode cX5_happen 134 = .ok (.iconst 1, 1) := by decide +kernel
theorem dX5_happen_135 : decode cX5_happen 135 = .ok (.iadd, 1) := by decide +kernel
theorem dX5_happen_136 : decode cX5_happen 136 = .ok (.putfield 59, 3) := by decide +kernel
theorem dX5_happen_139 : decode cX5_happen 139 = .ok (.iinc 3 1, 3) := by decide +kernel
theorem dX5_happen_142 : decode cX5_happen 142 = .ok (.goto (-81), 3) := by decide +kernel
theorem dX5_happen_145 : decode cX5_happen 145 = .ok (.iload_n 1, 1) := by decide +kernel
theorem dX5_happen_146 : decode cX5_happen 146 = .ok (.ireturn, 1) := by decide +kernel
theorem dX6_init_0 : decode cX6_init 0 = .ok (.aload_n 0, 1) := by decide +kernel
theorem dX6_init_1 : decode cX6_init 1 = .ok (.invokespecial 3, 3) := by decide +kernel
theorem dX6_init_4 : decode cX6_init 4 = .ok (.aload_n 0, 1) := by decide +kernel
theorem dX6_init_5 : decode cX6_init 5 = .ok (.bipush 8, 2) := by decide +kernel
theorem dX6_init_7 : decode cX6_init 7 = .ok (.newarray .int, 2) := by decide +kernel
theorem dX6_init_9 : decode cX6_init 9 = .ok (.putfield 9, 3) := by decide +kernel
theorem dX6_init_12 : decode cX6_init 12 = .ok (.aload_n 0, 1) := by decide +kernel
theorem dX6_init_13 : decode cX6_init 13 = .ok (.bipush 8, 2) := by decide +kernel
theorem dX6_init_15 : decode cX6_init 15 = .ok (.newarray .int, 2) := by decide +kernel
theorem dX6_init_17 : decode cX6_init 17 = .ok (.putfield 15, 3) := by decide +kernel
theorem dX6_init_20 : decode cX6_init 20 = .ok (.aload_n 0, 1) := by decide +kernel
theorem dX6_init_21 : decode cX6_init 21 = .ok (.bipush 8, 2) := by decide +kernel
theorem dX6_init_23 : decode cX6_init 23 = .ok (.newarray .int, 2) := by decide +kernel
theorem dX6_init_25 : decode cX6_init 25 = .ok (.putfield 18, 3) := by decide +kernel
theorem dX6_init_28 : decode cX6_init 28 = .ok (.aload_n 0, 1) := by decide +kernel
theorem dX6_init_29 : decode cX6_init 29 = .ok (.bipush 8, 2) := by decide +kernel
theorem dX6_init_31 : decode cX6_init 31 = .ok (.newarray .int, 2) := by decide +kernel
theorem dX6_init_33 : decode cX6_init 33 = .ok (.putfield 21, 3) := by decide +kernel
theorem dX6_init_36 : decode cX6_init 36 = .ok (.aload_n 0, 1) := by decide +kernel
theorem dX6_init_37 : decode cX6_init 37 = .ok (.bipush 8, 2) := by decide +kernel
theorem dX6_init_39 : decode cX6_init 39 = .ok (.newarray .int, 2) := by decide +kernel
theorem dX6_init_41 : decode cX6_init 41 = .ok (.putfield 24, 3) := by decide +kernel
theorem dX6_init_44 : decode cX6_init 44 = .ok (.aload_n 0, 1) := by decide +kernel
theorem dX6_init_45 : decode cX6_init 45 = .ok (.sipush 256, 3) := by decide +kernel
theorem dX6_init_48 : decode cX6_init 48 = .ok (.newarray .int, 2) := by decide +kernel
theorem dX6_init_50 : decode cX6_init 50 = .ok (.putfield 27, 3) := by decide +kernel
theorem dX6_init_53 : decode cX6_init 53 = .ok (.return_, 1) := by decide +kernel
theorem dX6_search_0 : decode cX6_search 0 = .ok (.aload_n 0, 1) := by decide +kernel
theorem dX6_search_1 : decode cX6_search 1 = .ok (.aload_n 1, 1) := by decide +kernel
theorem dX6_search_2 : decode cX6_search 2 = .ok (.getfield 30, 3) := by decide +kernel
theorem dX6_search_5 : decode cX6_search 5 = .ok (.putfield 36, 3) := by decide +kernel
theorem dX6_search_8 : decode cX6_search 8 = .ok (.aload_n 0, 1) := by decide +kernel
theorem dX6_search_9 : decode cX6_search 9 = .ok (.aload_n 2, 1) := by decide +kernel
theorem dX6_search_10 : decode cX6_search 10 = .ok (.getfield 37, 3) := by decide +kernel
theorem dX6_search_13 : decode cX6_search 13 = .ok (.putfield 43, 3) := by decide +kernel
theorem dX6_search_16 : decode cX6_search 16 = .ok (.aload_n 0, 1) := by decide +kernel
theorem dX6_search_17 : decode cX6_search 17 = .ok (.aload_n 2, 1) := by decide +kernel
theorem dX6_search_18 : decode cX6_search 18 = .ok (.getfield 46, 3) := by decide +kernel
theorem dX6_search_21 : decode cX6_search 21 = .ok (.putfield 49, 3) := by decide +kernel
theorem dX6_search_24 : decode cX6_search 24 = .ok (.aload_n 0, 1) := by decide +kernel
theorem dX6_search_25 : decode cX6_search 25 = .ok (.iconst 0, 1) := by decide +kernel
theorem dX6_search_26 : decode cX6_search 26 = .ok (.putfield 50, 3) := by decide +kernel
theorem dX6_search_29 : decode cX6_search 29 = .ok (.aload_n 0, 1) := by decide +kernel
theorem dX6_search_30 : decode cX6_search 30 = .ok (.iconst (-1), 1) := by decide +kernel
theorem dX6_search_31 : decode cX6_search 31 = .ok (.putfield 53, 3) := by decide +kernel
theorem dX6_search_34 : decode cX6_search 34 = .ok (.aload_n 0, 1) := by decide +kernel
theorem dX6_search_35 : decode cX6_search 35 = .ok (.iconst 0, 1) := by decide +kernel
theorem dX6_search_36 : decode cX6_search 36 = .ok (.putfield 56, 3) := by decide +kernel
theorem dX6_search_39 : decode cX6_search 39 = .ok (.aload_n 0, 1) := by decide +kernel
theorem dX6_search_40 : decode cX6_search 40 = .ok (.getfield 27, 3) := by decide +kernel
theorem dX6_search_43 : decode cX6_search 43 = .ok (.iconst 0, 1) := by decide +kernel
theorem dX6_search_44 : decode cX6_search 44 = .ok (.invokestatic 59, 3) := by decide +kernel
theorem dX6_search_47 : decode cX6_search 47 = .ok (.iconst 0, 1) := by decide +kernel
theorem dX6_search_48 : decode cX6_search 48 = .ok (.istore_n 3, 1) := by decide +kernel
theorem dX6_search_49 : decode cX6_search 49 = .ok (.iconst 0, 1) := by decide +kernel
theorem dX6_search_50 : decode cX6_search 50 = .ok (.istore 4, 2) := by decide +kernel
theorem dX6_search_52 : decode cX6_search 52 = .ok (.iload 4, 2) := by decide +kernel
theorem dX6_search_54 : decode cX6_search 54 = .ok (.aload_n 0, 1) := by decide +kernel
theorem dX6_search_55 : decode cX6_search 55 = .ok (.getfield 36, 3) := by decide +kernel
theorem dX6_search_58 : decode cX6_search 58 = .ok (.getfield 65, 3) := by decide +kernel
theorem dX6_search_61 : decode cX6_search 61 = .ok (.if_icmp .ge 26, 3) := by decide +kernel
theorem dX6_search_64 : decode cX6_search 64 = .ok (.aload_n 0, 1) := by decide +kernel
theorem dX6_search_65 : decode cX6_search 65 = .ok (.aload_n 1, 1) := by decide +kernel
theorem dX6_search_66 : decode cX6_search 66 = .ok (.iload 4, 2) := by decide +kernel
theorem dX6_search_68 : decode cX6_search 68 = .ok (.invokevirtual 70, 3) := by decide +kernel
theorem dX6_search_71 : decode cX6_search 71 = .ok (.iload_n 3, 1) := by decide +kernel
theorem dX6_search_72 : decode cX6_search 72 = .ok (.aload_n 0, 1) := by decide +kernel
theorem dX6_search_73 : decode cX6_search 73 = .ok (.getfield 24, 3) := by decide +kernel
theorem dX6_search_76 : decode cX6_search 76 = .ok (.iload 4, 2) := by decide +kernel
theorem dX6_search_78 : decode cX6_search 78 = .ok (.iaload, 1) := by decide +kernel
theorem dX6_search_79 : decode cX6_search 79 = .ok (.iadd, 1) := by decide +kernel
theorem dX6_search_80 : decode cX6_search 80 = .ok (.istore_n 3, 1) := by decide +kernel
theorem dX6_search_81 : decode cX6_search 81 = .ok (.iinc 4 1, 3) := by decide +kernel
theorem dX6_search_84 : decode cX6_search 84 = .ok (.goto (-32), 3) := by decide +kernel
theorem dX6_search_87 : decode cX6_search 87 = .ok (.aload_n 0, 1) := by decide +kernel
theorem dX6_search_88 : decode cX6_search 88 = .ok (.iconst 0, 1) := by decide +kernel
theorem dX6_search_89 : decode cX6_search 89 = .ok (.aload_n 0, 1) := by decide +kernel
theorem dX6_search_90 : decode cX6_search 90 = .ok (.getfield 43, 3) := by decide +kernel
theorem dX6_search_93 : decode cX6_search 93 = .ok (.iconst 0, 1) := by decide +kernel
theorem dX6_search_94 : decode cX6_search 94 = .ok (.aload_n 2, 1) := by decide +kernel
theorem dX6_search_95 : decode cX6_search 95 = .ok (.getfield 74, 3) := by decide +kernel
theorem dX6_search_98 : decode cX6_search 98 = .ok (.aload_n 2, 1) := by decide +kernel
theorem dX6_search_99 : decode cX6_search 99 = .ok (.getfield 74, 3) := by decide +kernel
theorem dX6_search_102 : decode cX6_search 102 = .ok (.iload_n 3, 1) := by decide +kernel
theorem dX6_search_103 : decode cX6_search 103 = .ok (.invokevirtual 77, 3) := by decide +kernel
theorem dX6_search_106 : decode cX6_search 106 = .ok (.return_, 1) := by decide +kernel
theorem dX6_prepare_0 : decode cX6_prepare 0 = .ok (.aload_n 1, 1) := by decide +kernel
theorem dX6_prepare_1 : decode cX6_prepare 1 = .ok (.iload_n 2, 1) := by decide +kernel
theorem dX6_prepare_2 : decode cX6_prepare 2 = .ok (.invokevirtual 81, 3) := by decide +kernel
theorem dX6_prepare_5 : decode cX6_prepare 5 = .ok (.istore_n 3, 1) := by decide +kernel
theorem dX6_prepare_6 : decode cX6_prepare 6 = .ok (.aload_n 0, 1) := by decide +kernel
theorem dX6_prepare_7 : decode cX6_prepare 7 = .ok (.getfield 18, 3) := by decide +kernel
theorem dX6_prepare_10 : decode cX6_prepare 10 = .ok (.iload_n 2, 1) := by decide +kernel
theorem dX6_prepare_11 : decode cX6_prepare 11 = .ok (.iload_n 3, 1) := by decide +kernel
theorem dX6_prepare_12 : decode cX6_prepare 12 = .ok (.aload_n 1, 1) := by decide +kernel
theorem dX6_prepare_13 : decode cX6_prepare 13 = .ok (.iload_n 2, 1) := by decide +kernel
theorem dX6_prepare_14 : decode cX6_prepare 14 = .ok (.invokevirtual 85, 3) := by decide +kernel
theorem dX6_prepare_17 : decode cX6_prepare 17 = .ok (.isub, 1) := by decide +kernel
theorem dX6_prepare_18 : decode cX6_prepare 18 = .ok (.iastore, 1) := by decide +kernel
theorem dX6_prepare_19 : decode cX6_prepare 19 = .ok (.aload_n 0, 1) := by decide +kernel
theorem dX6_prepare_20 : decode cX6_prepare 20 = .ok (.getfield 21, 3) := by decide +kernel
theorem dX6_prepare_23 : decode cX6_prepare 23 = .ok (.iload_n 2, 1) := by decide +kernel
theorem dX6_prepare_24 : decode cX6_prepare 24 = .ok (.aload_n 1, 1) := by decide +kernel
theorem dX6_prepare_25 : decode cX6_prepare 25 = .ok (.getfield 88, 3) := by decide +kernel
theorem dX6_prepare_28 : decode cX6_prepare 28 = .ok (.iload_n 2, 1) := by decide +kernel
theorem dX6_prepare_29 : decode cX6_prepare 29 = .ok (.iaload, 1) := by decide +kernel
theorem dX6_prepare_30 : decode cX6_prepare 30 = .ok (.iload_n 3, 1) := by decide +kernel
theorem dX6_prepare_31 : decode cX6_prepare 31 = .ok (.isub, 1) := by decide +kernel
theorem dX6_prepare_32 : decode cX6_prepare 32 = .ok (.iastore, 1) := by decide +kernel
theorem dX6_prepare_33 : decode cX6_prepare 33 = .ok (.aload_n 0, 1) := by decide +kernel
theorem dX6_prepare_34 : decode cX6_prepare 34 = .ok (.getfield 24, 3) := by decide +kernel
theorem dX6_prepare_37 : decode cX6_prepare 37 = .ok (.iload_n 2, 1) := by decide +kernel
theorem dX6_prepare_38 : decode cX6_prepare 38 = .ok (.iconst 0, 1) := by decide +kernel
theorem dX6_prepare_39 : decode cX6_prepare 39 = .ok (.iastore, 1) := by decide +kernel
theorem dX6_prepare_40 : decode cX6_prepare 40 = .ok (.aload_n 1, 1) := by decide +kernel
theorem dX6_prepare_41 : decode cX6_prepare 41 = .ok (.iload_n 2, 1) := by decide +kernel
theorem dX6_prepare_42 : decode cX6_prepare 42 = .ok (.invokevirtual 91, 3) := by decide +kernel
theorem dX6_prepare_45 : decode cX6_prepare 45 = .ok (.ifCond .le 26, 3) := by decide +kernel
theorem dX6_prepare_48 : decode cX6_prepare 48 = .ok (.aload_n 0, 1) := by decide +kernel
theorem dX6_prepare_49 : decode cX6_prepare 49 = .ok (.dup, 1) := by decide +kernel
theorem dX6_prepare_50 : decode cX6_prepare 50 = .ok (.getfield 50, 3) := by decide +kernel
theorem dX6_prepare_53 : decode cX6_prepare 53 = .ok (.iconst 1, 1) := by decide +kernel
theorem dX6_prepare_54 : decode cX6_prepare 54 = .ok (.iload_n 2, 1) := by decide +kernel
theorem dX6_prepare_55 : decode cX6_prepare 55 = .ok (.ishl, 1) := by decide +kernel
theorem dX6_prepare_56 : decode cX6_prepare 56 = .ok (.ior, 1) := by decide +kernel
theorem dX6_prepare_57 : decode cX6_prepare 57 = .ok (.putfield 50, 3) := by decide +kernel
theorem dX6_prepare_60 : decode cX6_prepare 60 = .ok (.aload_n 0, 1) := by decide +kernel
theorem dX6_prepare_61 : decode cX6_prepare 61 = .ok (.getfield 24, 3) := by decide +kernel
theorem dX6_prepare_64 : decode cX6_prepare 64 = .ok (.iload_n 2, 1) := by decide +kernel
theorem dX6_prepare_65 : decode cX6_prepare 65 = .ok (.aload_n 0, 1) := by decide +kernel
theorem dX6_prepare_66 : decode cX6_prepare 66 = .ok (.iload_n 2, 1) := by decide +kernel
theorem dX6_prepare_67 : decode cX6_prepare 67 = .ok (.invokevirtual 94, 3) := by decide +kernel
theorem dX6_prepare_70 : decode cX6_prepare 70 = .ok (.iastore, 1) := by decide +kernel
theorem dX6_prepare_71 : decode cX6_prepare 71 = .ok (.return_, 1) := by decide +kernel
theorem dX6_leastMinutesTo_0 : decode cX6_leastMinutesTo 0 = .ok (.iconst 0, 1) := by decide +kernel
theorem dX6_leastMinutesTo_1 : decode cX6_leastMinutesTo 1 = .ok (.istore_n 2, 1) := by decide +kernel
theorem dX6_leastMinutesTo_2 : decode cX6_leastMinutesTo 2 = .ok (.iconst 0, 1) := by decide +kernel
theorem dX6_leastMinutesTo_3 : decode cX6_leastMinutesTo 3 = .ok (.istore_n 3, 1) := by decide +kernel
theorem dX6_leastMinutesTo_4 : decode cX6_leastMinutesTo 4 = .ok (.iload_n 3, 1) := by decide +kernel
theorem dX6_leastMinutesTo_5 : decode cX6_leastMinutesTo 5 = .ok (.aload_n 0, 1) := by decide +kernel
theorem dX6_leastMinutesTo_6 : decode cX6_leastMinutesTo 6 = .ok (.getfield 36, 3) := by decide +kernel
theorem dX6_leastMinutesTo_9 : decode cX6_leastMinutesTo 9 = .ok (.getfield 65, 3) := by decide +kernel
theorem dX6_leastMinutesTo_12 : decode cX6_leastMinutesTo 12 = .ok (.if_icmp .ge 41, 3) := by decide +kernel
theorem dX6_leastMinutesTo_15 : decode cX6_leastMinutesTo 15 = .ok (.iload_n 3, 1) := by decide +kernel
theorem dX6_leastMinutesTo_16 : decode cX6_leastMinutesTo 16 = .ok (.iload_n 1, 1) := by decide +kernel
theorem dX6_leastMinutesTo_17 : decode cX6_leastMinutesTo 17 = .ok (.if_icmp .eq 30, 3) := by decide +kernel
theorem dX6_leastMinutesTo_20 : decode cX6_leastMinutesTo 20 = .ok (.iload_n 2, 1) := by decide +kernel
theorem dX6_leastMinutesTo_21 : decode cX6_leastMinutesTo 21 = .ok (.ifCond .eq 16, 3) := by decide +kernel
theorem dX6_leastMinutesTo_24 : decode cX6_leastMinutesTo 24 = .ok (.aload_n 0, 1) := by decide +kernel
theorem dX6_leastMinutesTo_25 : decode cX6_leastMinutesTo 25 = .ok (.getfield 36, 3) := by decide +kernel
theorem dX6_leastMinutesTo_28 : decode cX6_leastMinutesTo 28 = .ok (.iload_n 3, 1) := by decide +kernel
theorem dX6_leastMinutesTo_29 : decode cX6_leastMinutesTo 29 = .ok (.iload_n 1, 1) := by decide +kernel
theorem dX6_leastMinutesTo_30 : decode cX6_leastMinutesTo 30 = .ok (.invokevirtual 97, 3) := by decide +kernel
theorem dX6_leastMinutesTo_33 : decode cX6_leastMinutesTo 33 = .ok (.iload_n 2, 1) := by decide +kernel
theorem dX6_leastMinutesTo_34 : decode cX6_leastMinutesTo 34 = .ok (.if_icmp .ge 13, 3) := by decide +kernel
theorem dX6_leastMinutesTo_37 : decode cX6_leastMinutesTo 37 = .ok (.aload_n 0, 1) := by decide +kernel
theorem dX6_leastMinutesTo_38 : decode cX6_leastMinutesTo 38 = .ok (.getfield 36, 3) := by decide +kernel
theorem dX6_leastMinutesTo_41 : decode cX6_leastMinutesTo 41 = .ok (.iload_n 3, 1) := by decide +kernel
theorem dX6_leastMinutesTo_42 : decode cX6_leastMinutesTo 42 = .ok (.iload_n 1, 1) := by decide +kernel
theorem dX6_leastMinutesTo_43 : decode cX6_leastMinutesTo 43 = .ok (.invokevirtual 97, 3) := by decide +kernel
theorem dX6_leastMinutesTo_46 : decode cX6_leastMinutesTo 46 = .ok (.istore_n 2, 1) := by decide +kernel
theorem dX6_leastMinutesTo_47 : decode cX6_leastMinutesTo 47 = .ok (.iinc 3 1, 3) := by decide +kernel
theorem dX6_leastMinutesTo_50 : decode cX6_leastMinutesTo 50 = .ok (.goto (-46), 3) := by decide +kernel
theorem dX6_leastMinutesTo_53 : decode cX6_leastMinutesTo 53 = .ok (.iload_n 2, 1) := by decide +kernel
theorem dX6_leastMinutesTo_54 : decode cX6_leastMinutesTo 54 = .ok (.ireturn, 1) := by decide +kernel
theorem dX6_visit_0 : decode cX6_visit 0 = .ok (.aload_n 0, 1) := by decide +kernel
theorem dX6_visit_1 : decode cX6_visit 1 = .ok (.getfield 50, 3) := by decide +kernel
theorem dX6_visit_4 : decode cX6_visit 4 = .ok (.iload_n 3, 1) := by decide +kernel
theorem dX6_visit_5 : decode cX6_visit 5 = .ok (.iconst (-1), 1) := by decide +kernel
theorem dX6_visit_6 : decode cX6_visit 6 = .ok (.ixor, 1) := by decide +kernel
theorem dX6_visit_7 : decode cX6_visit 7 = .ok (.iand, 1) := by decide +kernel
theorem dX6_visit_8 : decode cX6_visit 8 = .ok (.ifCond .ne 11, 3) := by decide +kernel
theorem dX6_visit_11 : decode cX6_visit 11 = .ok (.aload_n 0, 1) := by decide +kernel
theorem dX6_visit_12 : decode cX6_visit 12 = .ok (.iload_n 1, 1) := by decide +kernel
theorem dX6_visit_13 : decode cX6_visit 13 = .ok (.iload 6, 2) := by decide +kernel
theorem dX6_visit_15 : decode cX6_visit 15 = .ok (.invokevirtual 101, 3) := by decide +kernel
theorem dX6_visit_18 : decode cX6_visit 18 = .ok (.return_, 1) := by decide +kernel
theorem dX6_visit_19 : decode cX6_visit 19 = .ok (.iconst 0, 1) := by decide +kernel
theorem dX6_visit_20 : decode cX6_visit 20 = .ok (.istore 7, 2) := by decide +kernel
theorem dX6_visit_22 : decode cX6_visit 22 = .ok (.iload 7, 2) := by decide +kernel
theorem dX6_visit_24 : decode cX6_visit 24 = .ok (.aload_n 0, 1) := by decide +kernel
theorem dX6_visit_25 : decode cX6_visit 25 = .ok (.getfield 36, 3) := by decide +kernel
theorem dX6_visit_28 : decode cX6_visit 28 = .ok (.getfield 65, 3) := by decide +kernel
theorem dX6_visit_31 : decode cX6_visit 31 = .ok (.if_icmp .ge 154, 3) := by decide +kernel
theorem dX6_visit_34 : decode cX6_visit 34 = .ok (.iload_n 1, 1) := by decide +kernel
theorem dX6_visit_35 : decode cX6_visit 35 = .ok (.bipush 8, 2) := by decide +kernel
theorem dX6_visit_37 : decode cX6_visit 37 = .ok (.if_icmp .ge 148, 3) := by decide +kernel
theorem dX6_visit_40 : decode cX6_visit 40 = .ok (.iload_n 3, 1) := by decide +kernel
theorem dX6_visit_41 : decode cX6_visit 41 = .ok (.iconst 1, 1) := by decide +kernel
theorem dX6_visit_42 : decode cX6_visit 42 = .ok (.iload 7, 2) := by decide +kernel
theorem dX6_visit_44 : decode cX6_visit 44 = .ok (.ishl, 1) := by decide +kernel
theorem dX6_visit_45 : decode cX6_visit 45 = .ok (.ior, 1) := by decide +kernel
theorem dX6_visit_46 : decode cX6_visit 46 = .ok (.istore 8, 2) := by decide +kernel
theorem dX6_visit_48 : decode cX6_visit 48 = .ok (.iconst 0, 1) := by decide +kernel
theorem dX6_visit_49 : decode cX6_visit 49 = .ok (.iload 4, 2) := by decide +kernel
theorem dX6_visit_51 : decode cX6_visit 51 = .ok (.aload_n 0, 1) := by decide +kernel
theorem dX6_visit_52 : decode cX6_visit 52 = .ok (.getfield 18, 3) := by decide +kernel
theorem dX6_visit_55 : decode cX6_visit 55 = .ok (.iload 7, 2) := by decide +kernel
theorem dX6_visit_57 : decode cX6_visit 57 = .ok (.iaload, 1) := by decide +kernel
theorem dX6_visit_58 : decode cX6_visit 58 = .ok (.iadd, 1) := by decide +kernel
theorem dX6_visit_59 : decode cX6_visit 59 = .ok (.invokestatic 105, 3) := by decide +kernel
theorem dX6_visit_62 : decode cX6_visit 62 = .ok (.istore 9, 2) := by decide +kernel
theorem dX6_visit_64 : decode cX6_visit 64 = .ok (.aload_n 0, 1) := by decide +kernel
theorem dX6_visit_65 : decode cX6_visit 65 = .ok (.getfield 49, 3) := by decide +kernel
theorem dX6_visit_68 : decode cX6_visit 68 = .ok (.iload 5, 2) := by decide +kernel
theorem dX6_visit_70 : decode cX6_visit 70 = .ok (.aload_n 0, 1) := by decide +kernel
theorem dX6_visit_71 : decode cX6_visit 71 = .ok (.getfield 21, 3) := by decide +kernel
theorem dX6_visit_74 : decode cX6_visit 74 = .ok (.iload 7, 2) := by decide +kernel
theorem dX6_visit_76 : decode cX6_visit 76 = .ok (.iaload, 1) := by decide +kernel
theorem dX6_visit_77 : decode cX6_visit 77 = .ok (.iadd, 1) := by decide +kernel
theorem dX6_visit_78 : decode cX6_visit 78 = .ok (.invokestatic 110, 3) := by decide +kernel
theorem dX6_visit_81 : decode cX6_visit 81 = .ok (.istore 10, 2) := by decide +kernel
theorem dX6_visit_83 : decode cX6_visit 83 = .ok (.iload 8, 2) := by decide +kernel
theorem dX6_visit_85 : decode cX6_visit 85 = .ok (.iload_n 3, 1) := by decide +kernel
theorem dX6_visit_86 : decode cX6_visit 86 = .ok (.if_icmp .eq 93, 3) := by decide +kernel
theorem dX6_visit_89 : decode cX6_visit 89 = .ok (.iload 9, 2) := by decide +kernel
theorem dX6_visit_91 : decode cX6_visit 91 = .ok (.iload 10, 2) := by decide +kernel
theorem dX6_visit_93 : decode cX6_visit 93 = .ok (.if_icmp .gt 86, 3) := by decide +kernel
theorem dX6_visit_96 : decode cX6_visit 96 = .ok (.iload 9, 2) := by decide +kernel
theorem dX6_visit_98 : decode cX6_visit 98 = .ok (.iload 10, 2) := by decide +kernel
theorem dX6_visit_100 : decode cX6_visit 100 = .ok (.invokestatic 113, 3) := by decide +kernel
theorem dX6_visit_103 : decode cX6_visit 103 = .ok (.aload_n 0, 1) := by decide +kernel
theorem dX6_visit_104 : decode cX6_visit 104 = .ok (.getfield 27, 3) := by decide +kernel
theorem dX6_visit_107 : decode cX6_visit 107 = .ok (.iload 8, 2) := by decide +kernel
theorem dX6_visit_109 : decode cX6_visit 109 = .ok (.iaload, 1) := by decide +kernel
theorem dX6_visit_110 : decode cX6_visit 110 = .ok (.iconst (-1), 1) := by decide +kernel
theorem dX6_visit_111 : decode cX6_visit 111 = .ok (.ixor, 1) := by decide +kernel
theorem dX6_visit_112 : decode cX6_visit 112 = .ok (.iand, 1) := by decide +kernel
theorem dX6_visit_113 : decode cX6_visit 113 = .ok (.ifCond .ne 6, 3) := by decide +kernel
theorem dX6_visit_116 : decode cX6_visit 116 = .ok (.goto 63, 3) := by decide +kernel
theorem dX6_visit_119 : decode cX6_visit 119 = .ok (.iload 6, 2) := by decide +kernel
theorem dX6_visit_121 : decode cX6_visit 121 = .ok (.aload_n 0, 1) := by decide +kernel
theorem dX6_visit_122 : decode cX6_visit 122 = .ok (.iload_n 1, 1) := by decide +kernel
theorem dX6_visit_123 : decode cX6_visit 123 = .ok (.iload_n 2, 1) := by decide +kernel
theorem dX6_visit_124 : decode cX6_visit 124 = .ok (.iload 7, 2) := by decide +kernel
theorem dX6_visit_126 : decode cX6_visit 126 = .ok (.invokevirtual 116, 3) := by decide +kernel
theorem dX6_visit_129 : decode cX6_visit 129 = .ok (.iadd, 1) := by decide +kernel
theorem dX6_visit_130 : decode cX6_visit 130 = .ok (.aload_n 0, 1) := by decide +kernel
theorem dX6_visit_131 : decode cX6_visit 131 = .ok (.getfield 24, 3) := by decide +kernel
theorem dX6_visit_134 : decode cX6_visit 134 = .ok (.iload 7, 2) := by decide +kernel
theorem dX6_visit_136 : decode cX6_visit 136 = .ok (.iaload, 1) := by decide +kernel
theorem dX6_visit_137 : decode cX6_visit 137 = .ok (.isub, 1) := by decide +kernel
theorem dX6_visit_138 : decode cX6_visit 138 = .ok (.istore 11, 2) := by decide +kernel
theorem dX6_visit_140 : decode cX6_visit 140 = .ok (.aload_n 0, 1) := by decide +kernel
theorem dX6_visit_141 : decode cX6_visit 141 = .ok (.iload_n 1, 1) := by decide +kernel
theorem dX6_visit_142 : decode cX6_visit 142 = .ok (.iconst 1, 1) := by decide +kernel
theorem dX6_visit_143 : decode cX6_visit 143 = .ok (.iadd, 1) := by decide +kernel
theorem dX6_visit_144 : decode cX6_visit 144 = .ok (.iload 8, 2) := by decide +kernel
theorem dX6_visit_146 : decode cX6_visit 146 = .ok (.iload 11, 2) := by decide +kernel
theorem dX6_visit_148 : decode cX6_visit 148 = .ok (.invokevirtual 120, 3) := by decide +kernel
theorem dX6_visit_151 : decode cX6_visit 151 = .ok (.ifCond .eq 28, 3) := by decide +kernel
theorem dX6_visit_154 : decode cX6_visit 154 = .ok (.aload_n 0, 1) := by decide +kernel
theorem dX6_visit_155 : decode cX6_visit 155 = .ok (.getfield 15, 3) := by decide +kernel
theorem dX6_visit_158 : decode cX6_visit 158 = .ok (.iload_n 1, 1) := by decide +kernel
theorem dX6_visit_159 : decode cX6_visit 159 = .ok (.iload 7, 2) := by decide +kernel
theorem dX6_visit_161 : decode cX6_visit 161 = .ok (.iastore, 1) := by decide +kernel
theorem dX6_visit_162 : decode cX6_visit 162 = .ok (.aload_n 0, 1) := by decide +kernel
theorem dX6_visit_163 : decode cX6_visit 163 = .ok (.iload_n 1, 1) := by decide +kernel
theorem dX6_visit_164 : decode cX6_visit 164 = .ok (.iconst 1, 1) := by decide +kernel
theorem dX6_visit_165 : decode cX6_visit 165 = .ok (.iadd, 1) := by decide +kernel
theorem dX6_visit_166 : decode cX6_visit 166 = .ok (.iload 7, 2) := by decide +kernel
theorem dX6_visit_168 : decode cX6_visit 168 = .ok (.iload 8, 2) := by decide +kernel
theorem dX6_visit_170 : decode cX6_visit 170 = .ok (.iload 9, 2) := by decide +kernel
theorem dX6_visit_172 : decode cX6_visit 172 = .ok (.iload 10, 2) := by decide +kernel
theorem dX6_visit_174 : decode cX6_visit 174 = .ok (.iload 11, 2) := by decide +kernel
theorem dX6_visit_176 : decode cX6_visit 176 = .ok (.invokevirtual 77, 3) := by decide +kernel
theorem dX6_visit_179 : decode cX6_visit 179 = .ok (.iinc 7 1, 3) := by decide +kernel
theorem dX6_visit_182 : decode cX6_visit 182 = .ok (.goto (-160), 3) := by decide +kernel
theorem dX6_visit_185 : decode cX6_visit 185 = .ok (.aload_n 0, 1) := by decide +kernel
theorem dX6_visit_186 : decode cX6_visit 186 = .ok (.getfield 53, 3) := by decide +kernel
theorem dX6_visit_189 : decode cX6_visit 189 = .ok (.iconst (-1), 1) := by decide +kernel
theorem dX6_visit_190 : decode cX6_visit 190 = .ok (.if_icmp .ne 19, 3) := by decide +kernel
theorem dX6_visit_193 : decode cX6_visit 193 = .ok (.aload_n 0, 1) := by decide +kernel
theorem dX6_visit_194 : decode cX6_visit 194 = .ok (.getfield 27, 3) := by decide +kernel
theorem dX6_visit_197 : decode cX6_visit 197 = .ok (.iload_n 3, 1) := by decide +kernel
theorem dX6_visit_198 : decode cX6_visit 198 = .ok (.dup2, 1) := by decide +kernel
theorem dX6_visit_199 : decode cX6_visit 199 = .ok (.iaload, 1) := by decide +kernel
theorem dX6_visit_200 : decode cX6_visit 200 = .ok (.iload 4, 2) := by decide +kernel
theorem dX6_visit_202 : decode cX6_visit 202 = .ok (.iload 5, 2) := by decide +kernel
theorem dX6_visit_204 : decode cX6_visit 204 = .ok (.invokestatic 113, 3) := by decide +kernel
theorem dX6_visit_207 : decode cX6_visit 207 = .ok (.ior, 1) := by decide +kernel
theorem dX6_visit_208 : decode cX6_visit 208 = .ok (.iastore, 1) := by decide +kernel
theorem dX6_visit_209 : decode cX6_visit 209 = .ok (.return_, 1) := by decide +kernel
theorem dX6_minutesTo_0 : decode cX6_minutesTo 0 = .ok (.iload_n 1, 1) := by decide +kernel
theorem dX6_minutesTo_1 : decode cX6_minutesTo 1 = .ok (.ifCond .ne 15, 3) := by decide +kernel
theorem dX6_minutesTo_4 : decode cX6_minutesTo 4 = .ok (.iload_n 3, 1) := by decide +kernel
theorem dX6_minutesTo_5 : decode cX6_minutesTo 5 = .ok (.aload_n 0, 1) := by decide +kernel
theorem dX6_minutesTo_6 : decode cX6_minutesTo 6 = .ok (.getfield 43, 3) := by decide +kernel
theorem dX6_minutesTo_9 : decode cX6_minutesTo 9 = .ok (.if_icmp .ne 7, 3) := by decide +kernel
theorem dX6_minutesTo_12 : decode cX6_minutesTo 12 = .ok (.iconst 0, 1) := by decide +kernel
theorem dX6_minutesTo_13 : decode cX6_minutesTo 13 = .ok (.goto 12, 3) := by decide +kernel
theorem dX6_minutesTo_16 : decode cX6_minutesTo 16 = .ok (.aload_n 0, 1) := by decide +kernel
theorem dX6_minutesTo_17 : decode cX6_minutesTo 17 = .ok (.getfield 36, 3) := by decide +kernel
theorem dX6_minutesTo_20 : decode cX6_minutesTo 20 = .ok (.iload_n 2, 1) := by decide +kernel
theorem dX6_minutesTo_21 : decode cX6_minutesTo 21 = .ok (.iload_n 3, 1) := by decide +kernel
theorem dX6_minutesTo_22 : decode cX6_minutesTo 22 = .ok (.invokevirtual 97, 3) := by decide +kernel
theorem dX6_minutesTo_25 : decode cX6_minutesTo 25 = .ok (.ireturn, 1) := by decide +kernel
theorem dX6_loads_0 : decode cX6_loads 0 = .ok (.iconst 2, 1) := by decide +kernel
theorem dX6_loads_1 : decode cX6_loads 1 = .ok (.iload_n 1, 1) := by decide +kernel
theorem dX6_loads_2 : decode cX6_loads 2 = .ok (.ishl, 1) := by decide +kernel
theorem dX6_loads_3 : decode cX6_loads 3 = .ok (.iconst 1, 1) := by decide +kernel
theorem dX6_loads_4 : decode cX6_loads 4 = .ok (.iload_n 0, 1) := by decide +kernel
theorem dX6_loads_5 : decode cX6_loads 5 = .ok (.ishl, 1) := by decide +kernel
theorem dX6_loads_6 : decode cX6_loads 6 = .ok (.isub, 1) := by decide +kernel
theorem dX6_loads_7 : decode cX6_loads 7 = .ok (.ireturn, 1) := by decide +kernel
theorem dX6_mayBeBest_0 : decode cX6_mayBeBest 0 = .ok (.iload_n 1, 1) := by decide +kernel
theorem dX6_mayBeBest_1 : decode cX6_mayBeBest 1 = .ok (.aload_n 0, 1) := by decide +kernel
theorem dX6_mayBeBest_2 : decode cX6_mayBeBest 2 = .ok (.getfield 50, 3) := by decide +kernel
theorem dX6_mayBeBest_5 : decode cX6_mayBeBest 5 = .ok (.iload_n 2, 1) := by decide +kernel
theorem dX6_mayBeBest_6 : decode cX6_mayBeBest 6 = .ok (.iconst (-1), 1) := by decide +kernel
theorem dX6_mayBeBest_7 : decode cX6_mayBeBest 7 = .ok (.ixor, 1) := by decide +kernel
theorem dX6_mayBeBest_8 : decode cX6_mayBeBest 8 = .ok (.iand, 1) := by decide +kernel
theorem dX6_mayBeBest_9 : decode cX6_mayBeBest 9 = .ok (.invokestatic 124, 3) := by decide +kernel
theorem dX6_mayBeBest_12 : decode cX6_mayBeBest 12 = .ok (.iadd, 1) := by decide +kernel
theorem dX6_mayBeBest_13 : decode cX6_mayBeBest 13 = .ok (.istore 4, 2) := by decide +kernel
theorem dX6_mayBeBest_15 : decode cX6_mayBeBest 15 = .ok (.aload_n 0, 1) := by decide +kernel
theorem dX6_mayBeBest_16 : decode cX6_mayBeBest 16 = .ok (.getfield 53, 3) := by decide +kernel
theorem dX6_mayBeBest_19 : decode cX6_mayBeBest 19 = .ok (.iconst (-1), 1) := by decide +kernel
theorem dX6_mayBeBest_20 : decode cX6_mayBeBest 20 = .ok (.if_icmp .eq 28, 3) := by decide +kernel
theorem dX6_mayBeBest_23 : decode cX6_mayBeBest 23 = .ok (.iload_n 3, 1) := by decide +kernel
theorem dX6_mayBeBest_24 : decode cX6_mayBeBest 24 = .ok (.aload_n 0, 1) := by decide +kernel
theorem dX6_mayBeBest_25 : decode cX6_mayBeBest 25 = .ok (.getfield 53, 3) := by decide +kernel
theorem dX6_mayBeBest_28 : decode cX6_mayBeBest 28 = .ok (.if_icmp .lt 20, 3) := by decide +kernel
theorem dX6_mayBeBest_31 : decode cX6_mayBeBest 31 = .ok (.iload_n 3, 1) := by decide +kernel
theorem dX6_mayBeBest_32 : decode cX6_mayBeBest 32 = .ok (.aload_n 0, 1) := by decide +kernel
theorem dX6_mayBeBest_33 : decode cX6_mayBeBest 33 = .ok (.getfield 53, 3) := by decide +kernel
theorem dX6_mayBeBest_36 : decode cX6_mayBeBest 36 = .ok (.if_icmp .ne 16, 3) := by decide +kernel
theorem dX6_mayBeBest_39 : decode cX6_mayBeBest 39 = .ok (.iload 4, 2) := by decide +kernel
theorem dX6_mayBeBest_41 : decode cX6_mayBeBest 41 = .ok (.aload_n 0, 1) := by decide +kernel
theorem dX6_mayBeBest_42 : decode cX6_mayBeBest 42 = .ok (.getfield 56, 3) := by decide +kernel
theorem dX6_mayBeBest_45 : decode cX6_mayBeBest 45 = .ok (.if_icmp .ge 7, 3) := by decide +kernel
theorem dX6_mayBeBest_48 : decode cX6_mayBeBest 48 = .ok (.iconst 1, 1) := by decide +kernel
theorem dX6_mayBeBest_49 : decode cX6_mayBeBest 49 = .ok (.goto 4, 3) := by decide +kernel
theorem dX6_mayBeBest_52 : decode cX6_mayBeBest 52 = .ok (.iconst 0, 1) := by decide +kernel
theorem dX6_mayBeBest_53 : decode cX6_mayBeBest 53 = .ok (.ireturn, 1) := by decide +kernel
theorem dX6_keepPath_0 : decode cX6_keepPath 0 = .ok (.aload_n 0, 1) := by decide +kernel
theorem dX6_keepPath_1 : decode cX6_keepPath 1 = .ok (.iload_n 2, 1) := by decide +kernel
theorem dX6_keepPath_2 : decode cX6_keepPath 2 = .ok (.putfield 53, 3) := by decide +kernel
theorem dX6_keepPath_5 : decode cX6_keepPath 5 = .ok (.aload_n 0, 1) := by decide +kernel
theorem dX6_keepPath_6 : decode cX6_keepPath 6 = .ok (.iload_n 1, 1) := by decide +kernel
theorem dX6_keepPath_7 : decode cX6_keepPath 7 = .ok (.putfield 56, 3) := by decide +kernel
theorem dX6_keepPath_10 : decode cX6_keepPath 10 = .ok (.aload_n 0, 1) := by decide +kernel
theorem dX6_keepPath_11 : decode cX6_keepPath 11 = .ok (.getfield 15, 3) := by decide +kernel
theorem dX6_keepPath_14 : decode cX6_keepPath 14 = .ok (.iconst 0, 1) := by decide +kernel
theorem dX6_keepPath_15 : decode cX6_keepPath 15 = .ok (.aload_n 0, 1) := by decide +kernel
theorem dX6_keepPath_16 : decode cX6_keepPath 16 = .ok (.getfield 9, 3) := by decide +kernel
theorem dX6_keepPath_19 : decode cX6_keepPath 19 = .ok (.iconst 0, 1) := by decide +kernel
theorem dX6_keepPath_20 : decode cX6_keepPath 20 = .ok (.iload_n 1, 1) := by decide +kernel
theorem dX6_keepPath_21 : decode cX6_keepPath 21 = .ok (.invokestatic 129, 3) := by decide +kernel
theorem dX6_keepPath_24 : decode cX6_keepPath 24 = .ok (.return_, 1) := by decide +kernel
theorem dX7_init_0 : decode cX7_init 0 = .ok (.aload_n 0, 1) := by decide +kernel
theorem dX7_init_1 : decode cX7_init 1 = .ok (.invokespecial 3, 3) := by decide +kernel
theorem dX7_init_4 : decode cX7_init 4 = .ok (.aload_n 0, 1) := by decide +kernel
theorem dX7_init_5 : decode cX7_init 5 = .ok (.bipush 6, 2) := by decide +kernel
theorem dX7_init_7 : decode cX7_init 7 = .ok (.newarray .int, 2) := by decide +kernel
theorem dX7_init_9 : decode cX7_init 9 = .ok (.putfield 9, 3) := by decide +kernel
theorem dX7_init_12 : decode cX7_init 12 = .ok (.aload_n 0, 1) := by decide +kernel
theorem dX7_init_13 : decode cX7_init 13 = .ok (.bipush 6, 2) := by decide +kernel
theorem dX7_init_15 : decode cX7_init 15 = .ok (.newarray .int, 2) := by decide +kernel
theorem dX7_init_17 : decode cX7_init 17 = .ok (.putfield 15, 3) := by decide +kernel
theorem dX7_init_20 : decode cX7_init 20 = .ok (.return_, 1) := by decide +kernel
theorem dX7_begin_0 : decode cX7_begin 0 = .ok (.aload_n 0, 1) := by decide +kernel
theorem dX7_begin_1 : decode cX7_begin 1 = .ok (.iconst 0, 1) := by decide +kernel
theorem dX7_begin_2 : decode cX7_begin 2 = .ok (.putfield 18, 3) := by decide +kernel
theorem dX7_begin_5 : decode cX7_begin 5 = .ok (.aload_n 0, 1) := by decide +kernel
theorem dX7_begin_6 : decode cX7_begin 6 = .ok (.iload_n 2, 1) := by decide +kernel
theorem dX7_begin_7 : decode cX7_begin 7 = .ok (.putfield 22, 3) := by decide +kernel
theorem dX7_begin_10 : decode cX7_begin 10 = .ok (.aload_n 0, 1) := by decide +kernel
theorem dX7_begin_11 : decode cX7_begin 11 = .ok (.iconst 0, 1) := by decide +kernel
theorem dX7_begin_12 : decode cX7_begin 12 = .ok (.putfield 25, 3) := by decide +kernel
theorem dX7_begin_15 : decode cX7_begin 15 = .ok (.aload_n 0, 1) := by decide +kernel
theorem dX7_begin_16 : decode cX7_begin 16 = .ok (.iload_n 1, 1) := by decide +kernel
theorem dX7_begin_17 : decode cX7_begin 17 = .ok (.putfield 28, 3) := by decide +kernel
theorem dX7_begin_20 : decode cX7_begin 20 = .ok (.aload_n 0, 1) := by decide +kernel
theorem dX7_begin_21 : decode cX7_begin 21 = .ok (.iconst (-1), 1) := by decide +kernel
theorem dX7_begin_22 : decode cX7_begin 22 = .ok (.putfield 31, 3) := by decide +kernel
theorem dX7_begin_25 : decode cX7_begin 25 = .ok (.aload_n 0, 1) := by decide +kernel
theorem dX7_begin_26 : decode cX7_begin 26 = .ok (.iconst 0, 1) := by decide +kernel
theorem dX7_begin_27 : decode cX7_begin 27 = .ok (.putfield 34, 3) := by decide +kernel
theorem dX7_begin_30 : decode cX7_begin 30 = .ok (.return_, 1) := by decide +kernel
theorem dX7_copy_0 : decode cX7_copy 0 = .ok (.aload_n 0, 1) := by decide +kernel
theorem dX7_copy_1 : decode cX7_copy 1 = .ok (.aload_n 1, 1) := by decide +kernel
theorem dX7_copy_2 : decode cX7_copy 2 = .ok (.getfield 18, 3) := by decide +kernel
theorem dX7_copy_5 : decode cX7_copy 5 = .ok (.putfield 18, 3) := by decide +kernel
theorem dX7_copy_8 : decode cX7_copy 8 = .ok (.aload_n 0, 1) := by decide +kernel
theorem dX7_copy_9 : decode cX7_copy 9 = .ok (.aload_n 1, 1) := by decide +kernel
theorem dX7_copy_10 : decode cX7_copy 10 = .ok (.getfield 22, 3) := by decide +kernel
theorem dX7_copy_13 : decode cX7_copy 13 = .ok (.putfield 22, 3) := by decide +kernel
theorem dX7_copy_16 : decode cX7_copy 16 = .ok (.aload_n 0, 1) := by decide +kernel
theorem dX7_copy_17 : decode cX7_copy 17 = .ok (.aload_n 1, 1) := by decide +kernel
theorem dX7_copy_18 : decode cX7_copy 18 = .ok (.getfield 25, 3) := by decide +kernel
theorem dX7_copy_21 : decode cX7_copy 21 = .ok (.putfield 25, 3) := by decide +kernel
theorem dX7_copy_24 : decode cX7_copy 24 = .ok (.aload_n 0, 1) := by decide +kernel
theorem dX7_copy_25 : decode cX7_copy 25 = .ok (.aload_n 1, 1) := by decide +kernel
theorem dX7_copy_26 : decode cX7_copy 26 = .ok (.getfield 28, 3) := by decide +kernel
theorem dX7_copy_29 : decode cX7_copy 29 = .ok (.putfield 28, 3) := by decide +kernel
theorem dX7_copy_32 : decode cX7_copy 32 = .ok (.aload_n 0, 1) := by decide +kernel
theorem dX7_copy_33 : decode cX7_copy 33 = .ok (.aload_n 1, 1) := by decide +kernel
theorem dX7_copy_34 : decode cX7_copy 34 = .ok (.getfield 31, 3) := by decide +kernel
theorem dX7_copy_37 : decode cX7_copy 37 = .ok (.putfield 31, 3) := by decide +kernel
theorem dX7_copy_40 : decode cX7_copy 40 = .ok (.aload_n 0, 1) := by decide +kernel
theorem dX7_copy_41 : decode cX7_copy 41 = .ok (.aload_n 1, 1) := by decide +kernel
theorem dX7_copy_42 : decode cX7_copy 42 = .ok (.getfield 34, 3) := by decide +kernel
theorem dX7_copy_45 : decode cX7_copy 45 = .ok (.putfield 34, 3) := by decide +kernel
theorem dX7_copy_48 : decode cX7_copy 48 = .ok (.aload_n 1, 1) := by decide +kernel
theorem dX7_copy_49 : decode cX7_copy 49 = .ok (.getfield 9, 3) := by decide +kernel
theorem dX7_copy_52 : decode cX7_copy 52 = .ok (.iconst 0, 1) := by decide +kernel
theorem dX7_copy_53 : decode cX7_copy 53 = .ok (.aload_n 0, 1) := by decide +kernel
theorem dX7_copy_54 : decode cX7_copy 54 = .ok (.getfield 9, 3) := by decide +kernel
theorem dX7_copy_57 : decode cX7_copy 57 = .ok (.iconst 0, 1) := by decide +kernel
theorem dX7_copy_58 : decode cX7_copy 58 = .ok (.bipush 6, 2) := by decide +kernel
theorem dX7_copy_60 : decode cX7_copy 60 = .ok (.invokestatic 37, 3) := by decide +kernel
theorem dX7_copy_63 : decode cX7_copy 63 = .ok (.aload_n 1, 1) := by decide +kernel
theorem dX7_copy_64 : decode cX7_copy 64 = .ok (.getfield 15, 3) := by decide +kernel
theorem dX7_copy_67 : decode cX7_copy 67 = .ok (.iconst 0, 1) := by decide +kernel
theorem dX7_copy_68 : decode cX7_copy 68 = .ok (.aload_n 0, 1) := by decide +kernel
theorem dX7_copy_69 : decode cX7_copy 69 = .ok (.getfield 15, 3) := by decide +kernel
theorem dX7_copy_72 : decode cX7_copy 72 = .ok (.iconst 0, 1) := by decide +kernel
theorem dX7_copy_73 : decode cX7_copy 73 = .ok (.bipush 6, 2) := by decide +kernel
theorem dX7_copy_75 : decode cX7_copy 75 = .ok (.invokestatic 37, 3) := by decide +kernel
theorem dX7_copy_78 : decode cX7_copy 78 = .ok (.return_, 1) := by decide +kernel
theorem dX7_drives_0 : decode cX7_drives 0 = .ok (.aload_n 0, 1) := by decide +kernel
theorem dX7_drives_1 : decode cX7_drives 1 = .ok (.getfield 31, 3) := by decide +kernel
theorem dX7_drives_4 : decode cX7_drives 4 = .ok (.iconst (-1), 1) := by decide +kernel
theorem dX7_drives_5 : decode cX7_drives 5 = .ok (.if_icmp .eq 7, 3) := by decide +kernel
theorem dX7_drives_8 : decode cX7_drives 8 = .ok (.iconst 1, 1) := by decide +kernel
theorem dX7_drives_9 : decode cX7_drives 9 = .ok (.goto 4, 3) := by decide +kernel
theorem dX7_drives_12 : decode cX7_drives 12 = .ok (.iconst 0, 1) := by decide +kernel
theorem dX7_drives_13 : decode cX7_drives 13 = .ok (.ireturn, 1) := by decide +kernel
theorem dX7_addOrder_0 : decode cX7_addOrder 0 = .ok (.aload_n 0, 1) := by decide +kernel
theorem dX7_addOrder_1 : decode cX7_addOrder 1 = .ok (.getfield 18, 3) := by decide +kernel
theorem dX7_addOrder_4 : decode cX7_addOrder 4 = .ok (.bipush 6, 2) := by decide +kernel
theorem dX7_addOrder_6 : decode cX7_addOrder 6 = .ok (.if_icmp .ge 33, 3) := by decide +kernel
theorem dX7_addOrder_9 : decode cX7_addOrder 9 = .ok (.aload_n 0, 1) := by decide +kernel
theorem dX7_addOrder_10 : decode cX7_addOrder 10 = .ok (.getfield 9, 3) := by decide +kernel
theorem dX7_addOrder_13 : decode cX7_addOrder 13 = .ok (.aload_n 0, 1) := by decide +kernel
theorem dX7_addOrder_14 : decode cX7_addOrder 14 = .ok (.getfield 18, 3) := by decide +kernel
theorem dX7_addOrder_17 : decode cX7_addOrder 17 = .ok (.iload_n 1, 1) := by decide +kernel
theorem dX7_addOrder_18 : decode cX7_addOrder 18 = .ok (.iastore, 1) := by decide +kernel
theorem dX7_addOrder_19 : decode cX7_addOrder 19 = .ok (.aload_n 0, 1) := by decide +kernel
theorem dX7_addOrder_20 : decode cX7_addOrder 20 = .ok (.getfield 15, 3) := by decide +kernel
theorem dX7_addOrder_23 : decode cX7_addOrder 23 = .ok (.aload_n 0, 1) := by decide +kernel
theorem dX7_addOrder_24 : decode cX7_addOrder 24 = .ok (.getfield 18, 3) := by decide +kernel
theorem dX7_addOrder_27 : decode cX7_addOrder 27 = .ok (.iload_n 2, 1) := by decide +kernel
theorem dX7_addOrder_28 : decode cX7_addOrder 28 = .ok (.iastore, 1) := by decide +kernel
theorem dX7_addOrder_29 : decode cX7_addOrder 29 = .ok (.aload_n 0, 1) := by decide +kernel
theorem dX7_addOrder_30 : decode cX7_addOrder 30 = .ok (.dup, 1) := by decide +kernel
theorem dX7_addOrder_31 : decode cX7_addOrder 31 = .ok (.getfield 18, 3) := by decide +kernel
theorem dX7_addOrder_34 : decode cX7_addOrder 34 = .ok (.iconst 1, 1) := by decide +kernel
theorem dX7_addOrder_35 : decode cX7_addOrder 35 = .ok (.iadd, 1) := by decide +kernel
theorem dX7_addOrder_36 : decode cX7_addOrder 36 = .ok (.putfield 18, 3) := by decide +kernel
theorem dX7_addOrder_39 : decode cX7_addOrder 39 = .ok (.return_, 1) := by decide +kernel
theorem dX7_dropFirstOrder_0 : decode cX7_dropFirstOrder 0 = .ok (.aload_n 0, 1) := by decide +kernel
theorem dX7_dropFirstOrder_1 : decode cX7_dropFirstOrder 1 = .ok (.getfield 18, 3) := by decide +kernel
theorem dX7_dropFirstOrder_4 : decode cX7_dropFirstOrder 4 = .ok (.ifCond .le 41, 3) := by decide +kernel
theorem dX7_dropFirstOrder_7 : decode cX7_dropFirstOrder 7 = .ok (.aload_n 0, 1) := by decide +kernel
theorem dX7_dropFirstOrder_8 : decode cX7_dropFirstOrder 8 = .ok (.dup, 1) := by decide +kernel
theorem dX7_dropFirstOrder_9 : decode cX7_dropFirstOrder 9 = .ok (.getfield 18, 3) := by decide +kernel
theorem dX7_dropFirstOrder_12 : decode cX7_dropFirstOrder 12 = .ok (.iconst 1, 1) := by decide +kernel
theorem dX7_dropFirstOrder_13 : decode cX7_dropFirstOrder 13 = .ok (.isub, 1) := by decide +kernel
theorem dX7_dropFirstOrder_14 : decode cX7_dropFirstOrder 14 = .ok (.putfield 18, 3) := by decide +kernel
theorem dX7_dropFirstOrder_17 : decode cX7_dropFirstOrder 17 = .ok (.aload_n 0, 1) := by decide +kernel
theorem dX7_dropFirstOrder_18 : decode cX7_dropFirstOrder 18 = .ok (.getfield 9, 3) := by decide +kernel
theorem dX7_dropFirstOrder_21 : decode cX7_dropFirstOrder 21 = .ok (.iconst 1, 1) := by decide +kernel
theorem dX7_dropFirstOrder_22 : decode cX7_dropFirstOrder 22 = .ok (.aload_n 0, 1) := by decide +kernel
theorem dX7_dropFirstOrder_23 : decode cX7_dropFirstOrder 23 = .ok (.getfield 9, 3) := by decide +kernel
theorem dX7_dropFirstOrder_26 : decode cX7_dropFirstOrder 26 = .ok (.iconst 0, 1) := by decide +kernel
theorem dX7_dropFirstOrder_27 : decode cX7_dropFirstOrder 27 = .ok (.iconst 5, 1) := by decide +kernel
theorem dX7_dropFirstOrder_28 : decode cX7_dropFirstOrder 28 = .ok (.invokestatic 37, 3) := by decide +kernel
theorem dX7_dropFirstOrder_31 : decode cX7_dropFirstOrder 31 = .ok (.aload_n 0, 1) := by decide +kernel
theorem dX7_dropFirstOrder_32 : decode cX7_dropFirstOrder 32 = .ok (.getfield 15, 3) := by decide +kernel
theorem dX7_dropFirstOrder_35 : decode cX7_dropFirstOrder 35 = .ok (.iconst 1, 1) := by decide +kernel
theorem dX7_dropFirstOrder_36 : decode cX7_dropFirstOrder 36 = .ok (.aload_n 0, 1) := by decide +kernel
theorem dX7_dropFirstOrder_37 : decode cX7_dropFirstOrder 37 = .ok (.getfield 15, 3) := by decide +kernel
theorem dX7_dropFirstOrder_40 : decode cX7_dropFirstOrder 40 = .ok (.iconst 0, 1) := by decide +kernel
theorem dX7_dropFirstOrder_41 : decode cX7_dropFirstOrder 41 = .ok (.iconst 5, 1) := by decide +kernel
theorem dX7_dropFirstOrder_42 : decode cX7_dropFirstOrder 42 = .ok (.invokestatic 37, 3) := by decide +kernel
theorem dX7_dropFirstOrder_45 : decode cX7_dropFirstOrder 45 = .ok (.return_, 1) := by decide +kernel
theorem dJ6_bitCount_0f7a4_0 : decode cJ6_bitCount_0f7a4 0 = .ok (.iload_n 0, 1) := by decide +kernel
theorem dJ6_bitCount_0f7a4_1 : decode cJ6_bitCount_0f7a4 1 = .ok (.iload_n 0, 1) := by decide +kernel
theorem dJ6_bitCount_0f7a4_2 : decode cJ6_bitCount_0f7a4 2 = .ok (.iconst 1, 1) := by decide +kernel
theorem dJ6_bitCount_0f7a4_3 : decode cJ6_bitCount_0f7a4 3 = .ok (.iushr, 1) := by decide +kernel
theorem dJ6_bitCount_0f7a4_4 : decode cJ6_bitCount_0f7a4 4 = .ok (.ldc_w 265, 3) := by decide +kernel
theorem dJ6_bitCount_0f7a4_7 : decode cJ6_bitCount_0f7a4 7 = .ok (.iand, 1) := by decide +kernel
theorem dJ6_bitCount_0f7a4_8 : decode cJ6_bitCount_0f7a4 8 = .ok (.isub, 1) := by decide +kernel
theorem dJ6_bitCount_0f7a4_9 : decode cJ6_bitCount_0f7a4 9 = .ok (.istore_n 0, 1) := by decide +kernel
theorem dJ6_bitCount_0f7a4_10 : decode cJ6_bitCount_0f7a4 10 = .ok (.iload_n 0, 1) := by decide +kernel
theorem dJ6_bitCount_0f7a4_11 : decode cJ6_bitCount_0f7a4 11 = .ok (.ldc_w 266, 3) := by decide +kernel
theorem dJ6_bitCount_0f7a4_14 : decode cJ6_bitCount_0f7a4 14 = .ok (.iand, 1) := by decide +kernel
theorem dJ6_bitCount_0f7a4_15 : decode cJ6_bitCount_0f7a4 15 = .ok (.iload_n 0, 1) := by decide +kernel
theorem dJ6_bitCount_0f7a4_16 : decode cJ6_bitCount_0f7a4 16 = .ok (.iconst 2, 1) := by decide +kernel
theorem dJ6_bitCount_0f7a4_17 : decode cJ6_bitCount_0f7a4 17 = .ok (.iushr, 1) := by decide +kernel
theorem dJ6_bitCount_0f7a4_18 : decode cJ6_bitCount_0f7a4 18 = .ok (.ldc_w 266, 3) := by decide +kernel
theorem dJ6_bitCount_0f7a4_21 : decode cJ6_bitCount_0f7a4 21 = .ok (.iand, 1) := by decide +kernel
theorem dJ6_bitCount_0f7a4_22 : decode cJ6_bitCount_0f7a4 22 = .ok (.iadd, 1) := by decide +kernel
theorem dJ6_bitCount_0f7a4_23 : decode cJ6_bitCount_0f7a4 23 = .ok (.istore_n 0, 1) := by decide +kernel
theorem dJ6_bitCount_0f7a4_24 : decode cJ6_bitCount_0f7a4 24 = .ok (.iload_n 0, 1) := by decide +kernel
theorem dJ6_bitCount_0f7a4_25 : decode cJ6_bitCount_0f7a4 25 = .ok (.iload_n 0, 1) := by decide +kernel
theorem dJ6_bitCount_0f7a4_26 : decode cJ6_bitCount_0f7a4 26 = .ok (.iconst 4, 1) := by decide +kernel
theorem dJ6_bitCount_0f7a4_27 : decode cJ6_bitCount_0f7a4 27 = .ok (.iushr, 1) := by decide +kernel
theorem dJ6_bitCount_0f7a4_28 : decode cJ6_bitCount_0f7a4 28 = .ok (.iadd, 1) := by decide +kernel
theorem dJ6_bitCount_0f7a4_29 : decode cJ6_bitCount_0f7a4 29 = .ok (.ldc_w 267, 3) := by decide +kernel
theorem dJ6_bitCount_0f7a4_32 : decode cJ6_bitCount_0f7a4 32 = .ok (.iand, 1) := by decide +kernel
theorem dJ6_bitCount_0f7a4_33 : decode cJ6_bitCount_0f7a4 33 = .ok (.istore_n 0, 1) := by decide +kernel
theorem dJ6_bitCount_0f7a4_34 : decode cJ6_bitCount_0f7a4 34 = .ok (.iload_n 0, 1) := by decide +kernel
theorem dJ6_bitCount_0f7a4_35 : decode cJ6_bitCount_0f7a4 35 = .ok (.iload_n 0, 1) := by decide +kernel
theorem dJ6_bitCount_0f7a4_36 : decode cJ6_bitCount_0f7a4 36 = .ok (.bipush 8, 2) := by decide +kernel
theorem dJ6_bitCount_0f7a4_38 : decode cJ6_bitCount_0f7a4 38 = .ok (.iushr, 1) := by decide +kernel
theorem dJ6_bitCount_0f7a4_39 : decode cJ6_bitCount_0f7a4 39 = .ok (.iadd, 1) := by decide +kernel
theorem dJ6_bitCount_0f7a4_40 : decode cJ6_bitCount_0f7a4 40 = .ok (.istore_n 0, 1) := by decide +kernel
theorem dJ6_bitCount_0f7a4_41 : decode cJ6_bitCount_0f7a4 41 = .ok (.iload_n 0, 1) := by decide +kernel
theorem dJ6_bitCount_0f7a4_42 : decode cJ6_bitCount_0f7a4 42 = .ok (.iload_n 0, 1) := by decide +kernel
theorem dJ6_bitCount_0f7a4_43 : decode cJ6_bitCount_0f7a4 43 = .ok (.bipush 16, 2) := by decide +kernel
theorem dJ6_bitCount_0f7a4_45 : decode cJ6_bitCount_0f7a4 45 = .ok (.iushr, 1) := by decide +kernel
theorem dJ6_bitCount_0f7a4_46 : decode cJ6_bitCount_0f7a4 46 = .ok (.iadd, 1) := by decide +kernel
theorem dJ6_bitCount_0f7a4_47 : decode cJ6_bitCount_0f7a4 47 = .ok (.istore_n 0, 1) := by decide +kernel
theorem dJ6_bitCount_0f7a4_48 : decode cJ6_bitCount_0f7a4 48 = .ok (.iload_n 0, 1) := by decide +kernel
theorem dJ6_bitCount_0f7a4_49 : decode cJ6_bitCount_0f7a4 49 = .ok (.bipush 63, 2) := by decide +kernel
theorem dJ6_bitCount_0f7a4_51 : decode cJ6_bitCount_0f7a4 51 = .ok (.iand, 1) := by decide +kernel
theorem dJ6_bitCount_0f7a4_52 : decode cJ6_bitCount_0f7a4 52 = .ok (.ireturn, 1) := by decide +kernel
theorem dJ9_max_7cf53_0 : decode cJ9_max_7cf53 0 = .ok (.iload_n 0, 1) := by decide +kernel
theorem dJ9_max_7cf53_1 : decode cJ9_max_7cf53 1 = .ok (.iload_n 1, 1) := by decide +kernel
theorem dJ9_max_7cf53_2 : decode cJ9_max_7cf53 2 = .ok (.if_icmp .lt 7, 3) := by decide +kernel
theorem dJ9_max_7cf53_5 : decode cJ9_max_7cf53 5 = .ok (.iload_n 0, 1) := by decide +kernel
theorem dJ9_max_7cf53_6 : decode cJ9_max_7cf53 6 = .ok (.goto 4, 3) := by decide +kernel
theorem dJ9_max_7cf53_9 : decode cJ9_max_7cf53 9 = .ok (.iload_n 1, 1) := by decide +kernel
theorem dJ9_max_7cf53_10 : decode cJ9_max_7cf53 10 = .ok (.ireturn, 1) := by decide +kernel
theorem dJ9_min_7cf53_0 : decode cJ9_min_7cf53 0 = .ok (.iload_n 0, 1) := by decide +kernel
theorem dJ9_min_7cf53_1 : decode cJ9_min_7cf53 1 = .ok (.iload_n 1, 1) := by decide +kernel
theorem dJ9_min_7cf53_2 : decode cJ9_min_7cf53 2 = .ok (.if_icmp .gt 7, 3) := by decide +kernel
theorem dJ9_min_7cf53_5 : decode cJ9_min_7cf53 5 = .ok (.iload_n 0, 1) := by decide +kernel
theorem dJ9_min_7cf53_6 : decode cJ9_min_7cf53 6 = .ok (.goto 4, 3) := by decide +kernel
theorem dJ9_min_7cf53_9 : decode cJ9_min_7cf53 9 = .ok (.iload_n 1, 1) := by decide +kernel
theorem dJ9_min_7cf53_10 : decode cJ9_min_7cf53 10 = .ok (.ireturn, 1) := by decide +kernel
theorem dJ0_length_8abf5_0 : decode cJ0_length_8abf5 0 = .ok (.aload_n 0, 1) := by decide +kernel
theorem dJ0_length_8abf5_1 : decode cJ0_length_8abf5 1 = .ok (.getfield 9, 3) := by decide +kernel
theorem dJ0_length_8abf5_4 : decode cJ0_length_8abf5 4 = .ok (.arraylength, 1) := by decide +kernel
theorem dJ0_length_8abf5_5 : decode cJ0_length_8abf5 5 = .ok (.aload_n 0, 1) := by decide +kernel
theorem dJ0_length_8abf5_6 : decode cJ0_length_8abf5 6 = .ok (.invokevirtual 335, 3) := by decide +kernel
theorem dJ0_length_8abf5_9 : decode cJ0_length_8abf5 9 = .ok (.ishr, 1) := by decide +kernel
theorem dJ0_length_8abf5_10 : decode cJ0_length_8abf5 10 = .ok (.ireturn, 1) := by decide +kernel
theorem dJ0_charAt_5068e_0 : decode cJ0_charAt_5068e 0 = .ok (.aload_n 0, 1) := by decide +kernel
theorem dJ0_charAt_5068e_1 : decode cJ0_charAt_5068e 1 = .ok (.invokevirtual 492, 3) := by decide +kernel
theorem dJ0_charAt_5068e_4 : decode cJ0_charAt_5068e 4 = .ok (.ifCond .eq 12, 3) := by decide +kernel
theorem dJ0_charAt_5068e_7 : decode cJ0_charAt_5068e 7 = .ok (.aload_n 0, 1) := by decide +kernel
theorem dJ0_charAt_5068e_8 : decode cJ0_charAt_5068e 8 = .ok (.getfield 9, 3) := by decide +kernel
theorem dJ0_charAt_5068e_11 : decode cJ0_charAt_5068e 11 = .ok (.iload_n 1, 1) := by decide +kernel
theorem dJ0_charAt_5068e_12 : decode cJ0_charAt_5068e 12 = .ok (.invokestatic 495, 3) := by decide +kernel
theorem dJ0_charAt_5068e_15 : decode cJ0_charAt_5068e 15 = .ok (.ireturn, 1) := by decide +kernel
theorem dJ0_charAt_5068e_16 : decode cJ0_charAt_5068e 16 = .ok (.aload_n 0, 1) := by decide +kernel
theorem dJ0_charAt_5068e_17 : decode cJ0_charAt_5068e 17 = .ok (.getfield 9, 3) := by decide +kernel
theorem dJ0_charAt_5068e_20 : decode cJ0_charAt_5068e 20 = .ok (.iload_n 1, 1) := by decide +kernel
theorem dJ0_charAt_5068e_21 : decode cJ0_charAt_5068e 21 = .ok (.invokestatic 498, 3) := by decide +kernel
theorem dJ0_charAt_5068e_24 : decode cJ0_charAt_5068e 24 = .ok (.ireturn, 1) := by decide +kernel
theorem dJ0_coder_7d493_0 : decode cJ0_coder_7d493 0 = .ok (.getstatic 38, 3) := by decide +kernel
theorem dJ0_coder_7d493_3 : decode cJ0_coder_7d493 3 = .ok (.ifCond .eq 10, 3) := by decide +kernel
theorem dJ0_coder_7d493_6 : decode cJ0_coder_7d493 6 = .ok (.aload_n 0, 1) := by decide +kernel
theorem dJ0_coder_7d493_7 : decode cJ0_coder_7d493 7 = .ok (.getfield 15, 3) := by decide +kernel
theorem dJ0_coder_7d493_10 : decode cJ0_coder_7d493 10 = .ok (.goto 4, 3) := by decide +kernel
theorem dJ0_coder_7d493_13 : decode cJ0_coder_7d493 13 = .ok (.iconst 1, 1) := by decide +kernel
theorem dJ0_coder_7d493_14 : decode cJ0_coder_7d493 14 = .ok (.ireturn, 1) := by decide +kernel
theorem dJ0_isLatin1_aae02_0 : decode cJ0_isLatin1_aae02 0 = .ok (.getstatic 38, 3) := by decide +kernel
theorem dJ0_isLatin1_aae02_3 : decode cJ0_isLatin1_aae02 3 = .ok (.ifCond .eq 14, 3) := by decide +kernel
theorem dJ0_isLatin1_aae02_6 : decode cJ0_isLatin1_aae02 6 = .ok (.aload_n 0, 1) := by decide +kernel
theorem dJ0_isLatin1_aae02_7 : decode cJ0_isLatin1_aae02 7 = .ok (.getfield 15, 3) := by decide +kernel
theorem dJ0_isLatin1_aae02_10 : decode cJ0_isLatin1_aae02 10 = .ok (.ifCond .ne 7, 3) := by decide +kernel
theorem dJ0_isLatin1_aae02_13 : decode cJ0_isLatin1_aae02 13 = .ok (.iconst 1, 1) := by decide +kernel
theorem dJ0_isLatin1_aae02_14 : decode cJ0_isLatin1_aae02 14 = .ok (.goto 4, 3) := by decide +kernel
theorem dJ0_isLatin1_aae02_17 : decode cJ0_isLatin1_aae02 17 = .ok (.iconst 0, 1) := by decide +kernel
theorem dJ0_isLatin1_aae02_18 : decode cJ0_isLatin1_aae02 18 = .ok (.ireturn, 1) := by decide +kernel
theorem dJ0_checkIndex_df160_0 : decode cJ0_checkIndex_df160 0 = .ok (.iload_n 0, 1) := by decide +kernel
theorem dJ0_checkIndex_df160_1 : decode cJ0_checkIndex_df160 1 = .ok (.iload_n 1, 1) := by decide +kernel
theorem dJ0_checkIndex_df160_2 : decode cJ0_checkIndex_df160 2 = .ok (.getstatic 1053, 3) := by decide +kernel
theorem dJ0_checkIndex_df160_5 : decode cJ0_checkIndex_df160 5 = .ok (.invokestatic 1059, 3) := by decide +kernel
theorem dJ0_checkIndex_df160_8 : decode cJ0_checkIndex_df160 8 = .ok (.pop, 1) := by decide +kernel
theorem dJ0_checkIndex_df160_9 : decode cJ0_checkIndex_df160 9 = .ok (.return_, 1) := by decide +kernel
theorem dJ1_charAt_3b067_0 : decode cJ1_charAt_3b067 0 = .ok (.iload_n 1, 1) := by decide +kernel
theorem dJ1_charAt_3b067_1 : decode cJ1_charAt_3b067 1 = .ok (.aload_n 0, 1) := by decide +kernel
theorem dJ1_charAt_3b067_2 : decode cJ1_charAt_3b067 2 = .ok (.arraylength, 1) := by decide +kernel
theorem dJ1_charAt_3b067_3 : decode cJ1_charAt_3b067 3 = .ok (.invokestatic 9, 3) := by decide +kernel
theorem dJ1_charAt_3b067_6 : decode cJ1_charAt_3b067 6 = .ok (.aload_n 0, 1) := by decide +kernel
theorem dJ1_charAt_3b067_7 : decode cJ1_charAt_3b067 7 = .ok (.iload_n 1, 1) := by decide +kernel
theorem dJ1_charAt_3b067_8 : decode cJ1_charAt_3b067 8 = .ok (.baload, 1) := by decide +kernel
theorem dJ1_charAt_3b067_9 : decode cJ1_charAt_3b067 9 = .ok (.sipush 255, 3) := by decide +kernel
theorem dJ1_charAt_3b067_12 : decode cJ1_charAt_3b067 12 = .ok (.iand, 1) := by decide +kernel
theorem dJ1_charAt_3b067_13 : decode cJ1_charAt_3b067 13 = .ok (.i2c, 1) := by decide +kernel
theorem dJ1_charAt_3b067_14 : decode cJ1_charAt_3b067 14 = .ok (.ireturn, 1) := by decide +kernel
theorem dJ2_getChar_3b067_0 : decode cJ2_getChar_3b067 0 = .ok (.getstatic 44, 3) := by decide +kernel
theorem dJ2_getChar_3b067_3 : decode cJ2_getChar_3b067 3 = .ok (.ifCond .ne 25, 3) := by decide +kernel
theorem dJ2_getChar_3b067_6 : decode cJ2_getChar_3b067 6 = .ok (.iload_n 1, 1) := by decide +kernel
theorem dJ2_getChar_3b067_7 : decode cJ2_getChar_3b067 7 = .ok (.ifCond .lt 11, 3) := by decide +kernel
theorem dJ2_getChar_3b067_10 : decode cJ2_getChar_3b067 10 = .ok (.iload_n 1, 1) := by decide +kernel
theorem dJ2_getChar_3b067_11 : decode cJ2_getChar_3b067 11 = .ok (.aload_n 0, 1) := by decide +kernel
theorem dJ2_getChar_3b067_12 : decode cJ2_getChar_3b067 12 = .ok (.invokestatic 48, 3) := by decide +kernel
theorem dJ2_getChar_3b067_15 : decode cJ2_getChar_3b067 15 = .ok (.if_icmp .lt 13, 3) := by decide +kernel
theorem dJ2_getChar_3b067_18 : decode cJ2_getChar_3b067 18 = .ok (.new 52, 3) := by decide +kernel
theorem dJ2_getChar_3b067_21 : decode cJ2_getChar_3b067 21 = .ok (.dup, 1) := by decide +kernel
theorem dJ2_getChar_3b067_22 : decode cJ2_getChar_3b067 22 = .ok (.ldc 54, 2) := by decide +kernel
theorem dJ2_getChar_3b067_24 : decode cJ2_getChar_3b067 24 = .ok (.invokespecial 56, 3) := by decide +kernel
theorem dJ2_getChar_3b067_27 : decode cJ2_getChar_3b067 27 = .ok (.athrow, 1) := by decide +kernel
theorem dJ2_getChar_3b067_28 : decode cJ2_getChar_3b067 28 = .ok (.iload_n 1, 1) := by decide +kernel
theorem dJ2_getChar_3b067_29 : decode cJ2_getChar_3b067 29 = .ok (.iconst 1, 1) := by decide +kernel
theorem dJ2_getChar_3b067_30 : decode cJ2_getChar_3b067 30 = .ok (.ishl, 1) := by decide +kernel
theorem dJ2_getChar_3b067_31 : decode cJ2_getChar_3b067 31 = .ok (.istore_n 1, 1) := by decide +kernel
theorem dJ2_getChar_3b067_32 : decode cJ2_getChar_3b067 32 = .ok (.aload_n 0, 1) := by decide +kernel
theorem dJ2_getChar_3b067_33 : decode cJ2_getChar_3b067 33 = .ok (.iload_n 1, 1) := by decide +kernel
theorem dJ2_getChar_3b067_34 : decode cJ2_getChar_3b067 34 = .ok (.iinc 1 1, 3) := by decide +kernel
theorem dJ2_getChar_3b067_37 : decode cJ2_getChar_3b067 37 = .ok (.baload, 1) := by decide +kernel
theorem dJ2_getChar_3b067_38 : decode cJ2_getChar_3b067 38 = .ok (.sipush 255, 3) := by decide +kernel
theorem dJ2_getChar_3b067_41 : decode cJ2_getChar_3b067 41 = .ok (.iand, 1) := by decide +kernel
theorem dJ2_getChar_3b067_42 : decode cJ2_getChar_3b067 42 = .ok (.getstatic 59, 3) := by decide +kernel
theorem dJ2_getChar_3b067_45 : decode cJ2_getChar_3b067 45 = .ok (.ishl, 1) := by decide +kernel
theorem dJ2_getChar_3b067_46 : decode cJ2_getChar_3b067 46 = .ok (.aload_n 0, 1) := by decide +kernel
theorem dJ2_getChar_3b067_47 : decode cJ2_getChar_3b067 47 = .ok (.iload_n 1, 1) := by decide +kernel
theorem dJ2_getChar_3b067_48 : decode cJ2_getChar_3b067 48 = .ok (.baload, 1) := by decide +kernel
theorem dJ2_getChar_3b067_49 : decode cJ2_getChar_3b067 49 = .ok (.sipush 255, 3) := by decide +kernel
theorem dJ2_getChar_3b067_52 : decode cJ2_getChar_3b067 52 = .ok (.iand, 1) := by decide +kernel
theorem dJ2_getChar_3b067_53 : decode cJ2_getChar_3b067 53 = .ok (.getstatic 63, 3) := by decide +kernel
theorem dJ2_getChar_3b067_56 : decode cJ2_getChar_3b067 56 = .ok (.ishl, 1) := by decide +kernel
theorem dJ2_getChar_3b067_57 : decode cJ2_getChar_3b067 57 = .ok (.ior, 1) := by decide +kernel
theorem dJ2_getChar_3b067_58 : decode cJ2_getChar_3b067 58 = .ok (.i2c, 1) := by decide +kernel
theorem dJ2_getChar_3b067_59 : decode cJ2_getChar_3b067 59 = .ok (.ireturn, 1) := by decide +kernel
theorem dJ2_length_9d52b_0 : decode cJ2_length_9d52b 0 = .ok (.aload_n 0, 1) := by decide +kernel
theorem dJ2_length_9d52b_1 : decode cJ2_length_9d52b 1 = .ok (.arraylength, 1) := by decide +kernel
theorem dJ2_length_9d52b_2 : decode cJ2_length_9d52b 2 = .ok (.iconst 1, 1) := by decide +kernel
theorem dJ2_length_9d52b_3 : decode cJ2_length_9d52b 3 = .ok (.ishr, 1) := by decide +kernel
theorem dJ2_length_9d52b_4 : decode cJ2_length_9d52b 4 = .ok (.ireturn, 1) := by decide +kernel
theorem dJ2_charAt_3b067_0 : decode cJ2_charAt_3b067 0 = .ok (.iload_n 1, 1) := by decide +kernel
theorem dJ2_charAt_3b067_1 : decode cJ2_charAt_3b067 1 = .ok (.aload_n 0, 1) := by decide +kernel
theorem dJ2_charAt_3b067_2 : decode cJ2_charAt_3b067 2 = .ok (.invokestatic 67, 3) := by decide +kernel
theorem dJ2_charAt_3b067_5 : decode cJ2_charAt_3b067 5 = .ok (.aload_n 0, 1) := by decide +kernel
theorem dJ2_charAt_3b067_6 : decode cJ2_charAt_3b067 6 = .ok (.iload_n 1, 1) := by decide +kernel
theorem dJ2_charAt_3b067_7 : decode cJ2_charAt_3b067 7 = .ok (.invokestatic 71, 3) := by decide +kernel
theorem dJ2_charAt_3b067_10 : decode cJ2_charAt_3b067 10 = .ok (.ireturn, 1) := by decide +kernel
theorem dJ2_checkIndex_2214a_0 : decode cJ2_checkIndex_2214a 0 = .ok (.iload_n 0, 1) := by decide +kernel
theorem dJ2_checkIndex_2214a_1 : decode cJ2_checkIndex_2214a 1 = .ok (.aload_n 1, 1) := by decide +kernel
theorem dJ2_checkIndex_2214a_2 : decode cJ2_checkIndex_2214a 2 = .ok (.invokestatic 48, 3) := by decide +kernel
theorem dJ2_checkIndex_2214a_5 : decode cJ2_checkIndex_2214a 5 = .ok (.invokestatic 414, 3) := by decide +kernel
theorem dJ2_checkIndex_2214a_8 : decode cJ2_checkIndex_2214a 8 = .ok (.return_, 1) := by decide +kernel
theorem dJ7_fill_53178_0 : decode cJ7_fill_53178 0 = .ok (.iconst 0, 1) := by decide +kernel
theorem dJ7_fill_53178_1 : decode cJ7_fill_53178 1 = .ok (.istore_n 2, 1) := by decide +kernel
theorem dJ7_fill_53178_2 : decode cJ7_fill_53178 2 = .ok (.aload_n 0, 1) := by decide +kernel
theorem dJ7_fill_53178_3 : decode cJ7_fill_53178 3 = .ok (.arraylength, 1) := by decide +kernel
theorem dJ7_fill_53178_4 : decode cJ7_fill_53178 4 = .ok (.istore_n 3, 1) := by decide +kernel
theorem dJ7_fill_53178_5 : decode cJ7_fill_53178 5 = .ok (.iload_n 2, 1) := by decide +kernel
theorem dJ7_fill_53178_6 : decode cJ7_fill_53178 6 = .ok (.iload_n 3, 1) := by decide +kernel
theorem dJ7_fill_53178_7 : decode cJ7_fill_53178 7 = .ok (.if_icmp .ge 13, 3) := by decide +kernel
theorem dJ7_fill_53178_10 : decode cJ7_fill_53178 10 = .ok (.aload_n 0, 1) := by decide +kernel
theorem dJ7_fill_53178_11 : decode cJ7_fill_53178 11 = .ok (.iload_n 2, 1) := by decide +kernel
theorem dJ7_fill_53178_12 : decode cJ7_fill_53178 12 = .ok (.iload_n 1, 1) := by decide +kernel
theorem dJ7_fill_53178_13 : decode cJ7_fill_53178 13 = .ok (.iastore, 1) := by decide +kernel
theorem dJ7_fill_53178_14 : decode cJ7_fill_53178 14 = .ok (.iinc 2 1, 3) := by decide +kernel
theorem dJ7_fill_53178_17 : decode cJ7_fill_53178 17 = .ok (.goto (-12), 3) := by decide +kernel
theorem dJ7_fill_53178_20 : decode cJ7_fill_53178 20 = .ok (.return_, 1) := by decide +kernel
theorem dJ3_checkIndex_8e157_0 : decode cJ3_checkIndex_8e157 0 = .ok (.iload_n 0, 1) := by decide +kernel
theorem dJ3_checkIndex_8e157_1 : decode cJ3_checkIndex_8e157 1 = .ok (.ifCond .lt 8, 3) := by decide +kernel
theorem dJ3_checkIndex_8e157_4 : decode cJ3_checkIndex_8e157 4 = .ok (.iload_n 0, 1) := by decide +kernel
theorem dJ3_checkIndex_8e157_5 : decode cJ3_checkIndex_8e157 5 = .ok (.iload_n 1, 1) := by decide +kernel
theorem dJ3_checkIndex_8e157_6 : decode cJ3_checkIndex_8e157 6 = .ok (.if_icmp .lt 10, 3) := by decide +kernel
theorem dJ3_checkIndex_8e157_9 : decode cJ3_checkIndex_8e157 9 = .ok (.aload_n 2, 1) := by decide +kernel
theorem dJ3_checkIndex_8e157_10 : decode cJ3_checkIndex_8e157 10 = .ok (.iload_n 0, 1) := by decide +kernel
theorem dJ3_checkIndex_8e157_11 : decode cJ3_checkIndex_8e157 11 = .ok (.iload_n 1, 1) := by decide +kernel
theorem dJ3_checkIndex_8e157_12 : decode cJ3_checkIndex_8e157 12 = .ok (.invokestatic 95, 3) := by decide +kernel
theorem dJ3_checkIndex_8e157_15 : decode cJ3_checkIndex_8e157 15 = .ok (.athrow, 1) := by decide +kernel
theorem dJ3_checkIndex_8e157_16 : decode cJ3_checkIndex_8e157 16 = .ok (.iload_n 0, 1) := by decide +kernel
theorem dJ3_checkIndex_8e157_17 : decode cJ3_checkIndex_8e157 17 = .ok (.ireturn, 1) := by decide +kernel
