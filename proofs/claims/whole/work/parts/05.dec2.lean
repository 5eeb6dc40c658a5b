theorem dX8_init_0 : decode cX8_init 0 = .ok (.aload_n 0, 1) := by decide +kernel
theorem dX8_init_1 : decode cX8_init 1 = .ok (.invokespecial 1, 3) := by decide +kernel
theorem dX8_init_4 : decode cX8_init 4 = .ok (.aload_n 0, 1) := by decide +kernel
theorem dX8_init_5 : decode cX8_init 5 = .ok (.sipush 700, 3) := by decide +kernel
theorem dX8_init_8 : decode cX8_init 8 = .ok (.newarray .byte, 2) := by decide +kernel
theorem dX8_init_10 : decode cX8_init 10 = .ok (.putfield 9, 3) := by decide +kernel
theorem dX8_init_13 : decode cX8_init 13 = .ok (.aload_n 0, 1) := by decide +kernel
theorem dX8_init_14 : decode cX8_init 14 = .ok (.new 13, 3) := by decide +kernel
theorem dX8_init_17 : decode cX8_init 17 = .ok (.dup, 1) := by decide +kernel
theorem dX8_init_18 : decode cX8_init 18 = .ok (.invokespecial 15, 3) := by decide +kernel
theorem dX8_init_21 : decode cX8_init 21 = .ok (.putfield 16, 3) := by decide +kernel
theorem dX8_init_24 : decode cX8_init 24 = .ok (.aload_n 0, 1) := by decide +kernel
theorem dX8_init_25 : decode cX8_init 25 = .ok (.new 20, 3) := by decide +kernel
theorem dX8_init_28 : decode cX8_init 28 = .ok (.dup, 1) := by decide +kernel
theorem dX8_init_29 : decode cX8_init 29 = .ok (.invokespecial 22, 3) := by decide +kernel
theorem dX8_init_32 : decode cX8_init 32 = .ok (.putfield 23, 3) := by decide +kernel
theorem dX8_init_35 : decode cX8_init 35 = .ok (.aload_n 0, 1) := by decide +kernel
theorem dX8_init_36 : decode cX8_init 36 = .ok (.new 27, 3) := by decide +kernel
theorem dX8_init_39 : decode cX8_init 39 = .ok (.dup, 1) := by decide +kernel
theorem dX8_init_40 : decode cX8_init 40 = .ok (.invokespecial 29, 3) := by decide +kernel
theorem dX8_init_43 : decode cX8_init 43 = .ok (.putfield 30, 3) := by decide +kernel
theorem dX8_init_46 : decode cX8_init 46 = .ok (.aload_n 0, 1) := by decide +kernel
theorem dX8_init_47 : decode cX8_init 47 = .ok (.iconst 2, 1) := by decide +kernel
theorem dX8_init_48 : decode cX8_init 48 = .ok (.anewarray 34, 3) := by decide +kernel
theorem dX8_init_51 : decode cX8_init 51 = .ok (.putfield 36, 3) := by decide +kernel
theorem dX8_init_54 : decode cX8_init 54 = .ok (.aload_n 0, 1) := by decide +kernel
theorem dX8_init_55 : decode cX8_init 55 = .ok (.iconst 2, 1) := by decide +kernel
theorem dX8_init_56 : decode cX8_init 56 = .ok (.newarray .boolean, 2) := by decide +kernel
theorem dX8_init_58 : decode cX8_init 58 = .ok (.putfield 40, 3) := by decide +kernel
theorem dX8_init_61 : decode cX8_init 61 = .ok (.new 44, 3) := by decide +kernel
theorem dX8_init_64 : decode cX8_init 64 = .ok (.dup, 1) := by decide +kernel
theorem dX8_init_65 : decode cX8_init 65 = .ok (.invokespecial 46, 3) := by decide +kernel
theorem dX8_init_68 : decode cX8_init 68 = .ok (.astore_n 1, 1) := by decide +kernel
theorem dX8_init_69 : decode cX8_init 69 = .ok (.aload_n 0, 1) := by decide +kernel
theorem dX8_init_70 : decode cX8_init 70 = .ok (.aload_n 1, 1) := by decide +kernel
theorem dX8_init_71 : decode cX8_init 71 = .ok (.putfield 47, 3) := by decide +kernel
theorem dX8_init_74 : decode cX8_init 74 = .ok (.aload_n 0, 1) := by decide +kernel
theorem dX8_init_75 : decode cX8_init 75 = .ok (.new 44, 3) := by decide +kernel
theorem dX8_init_78 : decode cX8_init 78 = .ok (.dup, 1) := by decide +kernel
theorem dX8_init_79 : decode cX8_init 79 = .ok (.invokespecial 46, 3) := by decide +kernel
theorem dX8_init_82 : decode cX8_init 82 = .ok (.putfield 51, 3) := by decide +kernel
theorem dX8_init_85 : decode cX8_init 85 = .ok (.aload_n 0, 1) := by decide +kernel
theorem dX8_init_86 : decode cX8_init 86 = .ok (.new 34, 3) := by decide +kernel
theorem dX8_init_89 : decode cX8_init 89 = .ok (.dup, 1) := by decide +kernel
theorem dX8_init_90 : decode cX8_init 90 = .ok (.aload_n 1, 1) := by decide +kernel
theorem dX8_init_91 : decode cX8_init 91 = .ok (.invokespecial 54, 3) := by decide +kernel
theorem dX8_init_94 : decode cX8_init 94 = .ok (.putfield 57, 3) := by decide +kernel
theorem dX8_init_97 : decode cX8_init 97 = .ok (.aload_n 0, 1) := by decide +kernel
theorem dX8_init_98 : decode cX8_init 98 = .ok (.new 34, 3) := by decide +kernel
theorem dX8_init_101 : decode cX8_init 101 = .ok (.dup, 1) := by decide +kernel
theorem dX8_init_102 : decode cX8_init 102 = .ok (.aload_n 1, 1) := by decide +kernel
theorem dX8_init_103 : decode cX8_init 103 = .ok (.invokespecial 54, 3) := by decide +kernel
theorem dX8_init_106 : decode cX8_init 106 = .ok (.putfield 61, 3) := by decide +kernel
theorem dX8_init_109 : decode cX8_init 109 = .ok (.return_, 1) := by decide +kernel
theorem dX8_append_0 : decode cX8_append 0 = .ok (.aload_n 0, 1) := by decide +kernel
theorem dX8_append_1 : decode cX8_append 1 = .ok (.getfield 64, 3) := by decide +kernel
theorem dX8_append_4 : decode cX8_append 4 = .ok (.bipush 20, 2) := by decide +kernel
theorem dX8_append_6 : decode cX8_append 6 = .ok (.iadd, 1) := by decide +kernel
theorem dX8_append_7 : decode cX8_append 7 = .ok (.sipush 700, 3) := by decide +kernel
theorem dX8_append_10 : decode cX8_append 10 = .ok (.if_icmp .le 5, 3) := by decide +kernel
theorem dX8_append_13 : decode cX8_append 13 = .ok (.iconst (-1), 1) := by decide +kernel
theorem dX8_append_14 : decode cX8_append 14 = .ok (.ireturn, 1) := by decide +kernel
theorem dX8_append_15 : decode cX8_append 15 = .ok (.aload_n 0, 1) := by decide +kernel
theorem dX8_append_16 : decode cX8_append 16 = .ok (.iload_n 1, 1) := by decide +kernel
theorem dX8_append_17 : decode cX8_append 17 = .ok (.invokevirtual 68, 3) := by decide +kernel
theorem dX8_append_20 : decode cX8_append 20 = .ok (.aload_n 0, 1) := by decide +kernel
theorem dX8_append_21 : decode cX8_append 21 = .ok (.iload_n 2, 1) := by decide +kernel
theorem dX8_append_22 : decode cX8_append 22 = .ok (.invokevirtual 68, 3) := by decide +kernel
theorem dX8_append_25 : decode cX8_append 25 = .ok (.aload_n 0, 1) := by decide +kernel
theorem dX8_append_26 : decode cX8_append 26 = .ok (.iload_n 3, 1) := by decide +kernel
theorem dX8_append_27 : decode cX8_append 27 = .ok (.invokevirtual 68, 3) := by decide +kernel
theorem dX8_append_30 : decode cX8_append 30 = .ok (.aload_n 0, 1) := by decide +kernel
theorem dX8_append_31 : decode cX8_append 31 = .ok (.iload 4, 2) := by decide +kernel
theorem dX8_append_33 : decode cX8_append 33 = .ok (.invokevirtual 68, 3) := by decide +kernel
theorem dX8_append_36 : decode cX8_append 36 = .ok (.aload_n 0, 1) := by decide +kernel
theorem dX8_append_37 : decode cX8_append 37 = .ok (.iload 5, 2) := by decide +kernel
theorem dX8_append_39 : decode cX8_append 39 = .ok (.invokevirtual 68, 3) := by decide +kernel
theorem dX8_append_42 : decode cX8_append 42 = .ok (.aload_n 0, 1) := by decide +kernel
theorem dX8_append_43 : decode cX8_append 43 = .ok (.getfield 64, 3) := by decide +kernel
theorem dX8_append_46 : decode cX8_append 46 = .ok (.ireturn, 1) := by decide +kernel
theorem dX8_parse_0 : decode cX8_parse 0 = .ok (.iload_n 1, 1) := by decide +kernel
theorem dX8_parse_1 : decode cX8_parse 1 = .ok (.ifCond .lt 11, 3) := by decide +kernel
theorem dX8_parse_4 : decode cX8_parse 4 = .ok (.iload_n 1, 1) := by decide +kernel
theorem dX8_parse_5 : decode cX8_parse 5 = .ok (.aload_n 0, 1) := by decide +kernel
theorem dX8_parse_6 : decode cX8_parse 6 = .ok (.getfield 64, 3) := by decide +kernel
theorem dX8_parse_9 : decode cX8_parse 9 = .ok (.if_icmp .le 13, 3) := by decide +kernel
theorem dX8_parse_12 : decode cX8_parse 12 = .ok (.new 72, 3) := by decide +kernel
theorem dX8_parse_15 : decode cX8_parse 15 = .ok (.dup, 1) := by decide +kernel
theorem dX8_parse_16 : decode cX8_parse 16 = .ok (.ldc 74, 2) := by decide +kernel
theorem dX8_parse_18 : decode cX8_parse 18 = .ok (.invokespecial 76, 3) := by decide +kernel
theorem dX8_parse_21 : decode cX8_parse 21 = .ok (.athrow, 1) := by decide +kernel
theorem dX8_parse_22 : decode cX8_parse 22 = .ok (.aload_n 0, 1) := by decide +kernel
theorem dX8_parse_23 : decode cX8_parse 23 = .ok (.getfield 16, 3) := by decide +kernel
theorem dX8_parse_26 : decode cX8_parse 26 = .ok (.aload_n 0, 1) := by decide +kernel
theorem dX8_parse_27 : decode cX8_parse 27 = .ok (.getfield 9, 3) := by decide +kernel
theorem dX8_parse_30 : decode cX8_parse 30 = .ok (.iload_n 1, 1) := by decide +kernel
theorem dX8_parse_31 : decode cX8_parse 31 = .ok (.aload_n 0, 1) := by decide +kernel
theorem dX8_parse_32 : decode cX8_parse 32 = .ok (.getfield 51, 3) := by decide +kernel
theorem dX8_parse_35 : decode cX8_parse 35 = .ok (.invokevirtual 79, 3) := by decide +kernel
theorem dX8_parse_38 : decode cX8_parse 38 = .ok (.istore_n 2, 1) := by decide +kernel
theorem dX8_parse_39 : decode cX8_parse 39 = .ok (.aload_n 0, 1) := by decide +kernel
theorem dX8_parse_40 : decode cX8_parse 40 = .ok (.iconst 0, 1) := by decide +kernel
theorem dX8_parse_41 : decode cX8_parse 41 = .ok (.putfield 64, 3) := by decide +kernel
theorem dX8_parse_44 : decode cX8_parse 44 = .ok (.iload_n 2, 1) := by decide +kernel
theorem dX8_parse_45 : decode cX8_parse 45 = .ok (.ifCond .eq 8, 3) := by decide +kernel
theorem dX8_parse_48 : decode cX8_parse 48 = .ok (.bipush (-2), 2) := by decide +kernel
theorem dX8_parse_50 : decode cX8_parse 50 = .ok (.iload_n 2, 1) := by decide +kernel
theorem dX8_parse_51 : decode cX8_parse 51 = .ok (.isub, 1) := by decide +kernel
theorem dX8_parse_52 : decode cX8_parse 52 = .ok (.ireturn, 1) := by decide +kernel
theorem dX8_parse_53 : decode cX8_parse 53 = .ok (.aload_n 0, 1) := by decide +kernel
theorem dX8_parse_54 : decode cX8_parse 54 = .ok (.getfield 51, 3) := by decide +kernel
theorem dX8_parse_57 : decode cX8_parse 57 = .ok (.astore_n 3, 1) := by decide +kernel
theorem dX8_parse_58 : decode cX8_parse 58 = .ok (.aload_n 0, 1) := by decide +kernel
theorem dX8_parse_59 : decode cX8_parse 59 = .ok (.aload_n 0, 1) := by decide +kernel
theorem dX8_parse_60 : decode cX8_parse 60 = .ok (.getfield 47, 3) := by decide +kernel
theorem dX8_parse_63 : decode cX8_parse 63 = .ok (.putfield 51, 3) := by decide +kernel
theorem dX8_parse_66 : decode cX8_parse 66 = .ok (.aload_n 0, 1) := by decide +kernel
theorem dX8_parse_67 : decode cX8_parse 67 = .ok (.aload_n 3, 1) := by decide +kernel
theorem dX8_parse_68 : decode cX8_parse 68 = .ok (.putfield 47, 3) := by decide +kernel
theorem dX8_parse_71 : decode cX8_parse 71 = .ok (.aload_n 0, 1) := by decide +kernel
theorem dX8_parse_72 : decode cX8_parse 72 = .ok (.getfield 57, 3) := by decide +kernel
theorem dX8_parse_75 : decode cX8_parse 75 = .ok (.aload_n 0, 1) := by decide +kernel
theorem dX8_parse_76 : decode cX8_parse 76 = .ok (.getfield 47, 3) := by decide +kernel
theorem dX8_parse_79 : decode cX8_parse 79 = .ok (.invokevirtual 83, 3) := by decide +kernel
theorem dX8_parse_82 : decode cX8_parse 82 = .ok (.aload_n 0, 1) := by decide +kernel
theorem dX8_parse_83 : decode cX8_parse 83 = .ok (.getfield 23, 3) := by decide +kernel
theorem dX8_parse_86 : decode cX8_parse 86 = .ok (.invokevirtual 86, 3) := by decide +kernel
theorem dX8_parse_89 : decode cX8_parse 89 = .ok (.iconst 0, 1) := by decide +kernel
theorem dX8_parse_90 : decode cX8_parse 90 = .ok (.istore 4, 2) := by decide +kernel
theorem dX8_parse_92 : decode cX8_parse 92 = .ok (.iload 4, 2) := by decide +kernel
theorem dX8_parse_94 : decode cX8_parse 94 = .ok (.iconst 2, 1) := by decide +kernel
theorem dX8_parse_95 : decode cX8_parse 95 = .ok (.if_icmp .ge 17, 3) := by decide +kernel
theorem dX8_parse_98 : decode cX8_parse 98 = .ok (.aload_n 0, 1) := by decide +kernel
theorem dX8_parse_99 : decode cX8_parse 99 = .ok (.getfield 40, 3) := by decide +kernel
theorem dX8_parse_102 : decode cX8_parse 102 = .ok (.iload 4, 2) := by decide +kernel
theorem dX8_parse_104 : decode cX8_parse 104 = .ok (.iconst 0, 1) := by decide +kernel
theorem dX8_parse_105 : decode cX8_parse 105 = .ok (.bastore, 1) := by decide +kernel
theorem dX8_parse_106 : decode cX8_parse 106 = .ok (.iinc 4 1, 3) := by decide +kernel
theorem dX8_parse_109 : decode cX8_parse 109 = .ok (.goto (-17), 3) := by decide +kernel
theorem dX8_parse_112 : decode cX8_parse 112 = .ok (.aload_n 0, 1) := by decide +kernel
theorem dX8_parse_113 : decode cX8_parse 113 = .ok (.getfield 47, 3) := by decide +kernel
theorem dX8_parse_116 : decode cX8_parse 116 = .ok (.getfield 89, 3) := by decide +kernel
theorem dX8_parse_119 : decode cX8_parse 119 = .ok (.ireturn, 1) := by decide +kernel
theorem dX8_size_0 : decode cX8_size 0 = .ok (.iload_n 1, 1) := by decide +kernel
theorem dX8_size_1 : decode cX8_size 1 = .ok (.tableswitch 51 0 2 #[27, 35, 43], 27) := by decide +kernel
theorem dX8_size_28 : decode cX8_size 28 = .ok (.aload_n 0, 1) := by decide +kernel
theorem dX8_size_29 : decode cX8_size 29 = .ok (.getfield 47, 3) := by decide +kernel
theorem dX8_size_32 : decode cX8_size 32 = .ok (.getfield 89, 3) := by decide +kernel
theorem dX8_size_35 : decode cX8_size 35 = .ok (.ireturn, 1) := by decide +kernel
theorem dX8_size_36 : decode cX8_size 36 = .ok (.aload_n 0, 1) := by decide +kernel
theorem dX8_size_37 : decode cX8_size 37 = .ok (.getfield 47, 3) := by decide +kernel
theorem dX8_size_40 : decode cX8_size 40 = .ok (.getfield 92, 3) := by decide +kernel
theorem dX8_size_43 : decode cX8_size 43 = .ok (.ireturn, 1) := by decide +kernel
theorem dX8_size_44 : decode cX8_size 44 = .ok (.aload_n 0, 1) := by decide +kernel
theorem dX8_size_45 : decode cX8_size 45 = .ok (.getfield 47, 3) := by decide +kernel
theorem dX8_size_48 : decode cX8_size 48 = .ok (.getfield 95, 3) := by decide +kernel
theorem dX8_size_51 : decode cX8_size 51 = .ok (.ireturn, 1) := by decide +kernel
theorem dX8_size_52 : decode cX8_size 52 = .ok (.new 72, 3) := by decide +kernel
theorem dX8_size_55 : decode cX8_size 55 = .ok (.dup, 1) := by decide +kernel
theorem dX8_size_56 : decode cX8_size 56 = .ok (.ldc 98, 2) := by decide +kernel
theorem dX8_size_58 : decode cX8_size 58 = .ok (.invokespecial 76, 3) := by decide +kernel
theorem dX8_size_61 : decode cX8_size 61 = .ok (.athrow, 1) := by decide +kernel
theorem dX8_time_0 : decode cX8_time 0 = .ok (.aload_n 0, 1) := by decide +kernel
theorem dX8_time_1 : decode cX8_time 1 = .ok (.getfield 57, 3) := by decide +kernel
theorem dX8_time_4 : decode cX8_time 4 = .ok (.getfield 100, 3) := by decide +kernel
theorem dX8_time_7 : decode cX8_time 7 = .ok (.ireturn, 1) := by decide +kernel
theorem dX8_fleet_0 : decode cX8_fleet 0 = .ok (.aload_n 0, 1) := by decide +kernel
theorem dX8_fleet_1 : decode cX8_fleet 1 = .ok (.getfield 57, 3) := by decide +kernel
theorem dX8_fleet_4 : decode cX8_fleet 4 = .ok (.invokevirtual 103, 3) := by decide +kernel
theorem dX8_fleet_7 : decode cX8_fleet 7 = .ok (.ireturn, 1) := by decide +kernel
theorem dX8_bikes_0 : decode cX8_bikes 0 = .ok (.aload_n 0, 1) := by decide +kernel
theorem dX8_bikes_1 : decode cX8_bikes 1 = .ok (.iload_n 1, 1) := by decide +kernel
theorem dX8_bikes_2 : decode cX8_bikes 2 = .ok (.invokevirtual 107, 3) := by decide +kernel
theorem dX8_bikes_5 : decode cX8_bikes 5 = .ok (.aload_n 0, 1) := by decide +kernel
theorem dX8_bikes_6 : decode cX8_bikes 6 = .ok (.getfield 57, 3) := by decide +kernel
theorem dX8_bikes_9 : decode cX8_bikes 9 = .ok (.getfield 110, 3) := by decide +kernel
theorem dX8_bikes_12 : decode cX8_bikes 12 = .ok (.iload_n 1, 1) := by decide +kernel
theorem dX8_bikes_13 : decode cX8_bikes 13 = .ok (.iaload, 1) := by decide +kernel
theorem dX8_bikes_14 : decode cX8_bikes 14 = .ok (.ireturn, 1) := by decide +kernel
theorem dX8_freeDocks_0 : decode cX8_freeDocks 0 = .ok (.aload_n 0, 1) := by decide +kernel
theorem dX8_freeDocks_1 : decode cX8_freeDocks 1 = .ok (.iload_n 1, 1) := by decide +kernel
theorem dX8_freeDocks_2 : decode cX8_freeDocks 2 = .ok (.invokevirtual 107, 3) := by decide +kernel
theorem dX8_freeDocks_5 : decode cX8_freeDocks 5 = .ok (.aload_n 0, 1) := by decide +kernel
theorem dX8_freeDocks_6 : decode cX8_freeDocks 6 = .ok (.getfield 57, 3) := by decide +kernel
theorem dX8_freeDocks_9 : decode cX8_freeDocks 9 = .ok (.iload_n 1, 1) := by decide +kernel
theorem dX8_freeDocks_10 : decode cX8_freeDocks 10 = .ok (.invokevirtual 114, 3) := by decide +kernel
theorem dX8_freeDocks_13 : decode cX8_freeDocks 13 = .ok (.ireturn, 1) := by decide +kernel
theorem dX8_brokenDocks_0 : decode cX8_brokenDocks 0 = .ok (.aload_n 0, 1) := by decide +kernel
theorem dX8_brokenDocks_1 : decode cX8_brokenDocks 1 = .ok (.iload_n 1, 1) := by decide +kernel
theorem dX8_brokenDocks_2 : decode cX8_brokenDocks 2 = .ok (.invokevirtual 107, 3) := by decide +kernel
theorem dX8_brokenDocks_5 : decode cX8_brokenDocks 5 = .ok (.aload_n 0, 1) := by decide +kernel
theorem dX8_brokenDocks_6 : decode cX8_brokenDocks 6 = .ok (.getfield 57, 3) := by decide +kernel
theorem dX8_brokenDocks_9 : decode cX8_brokenDocks 9 = .ok (.getfield 118, 3) := by decide +kernel
theorem dX8_brokenDocks_12 : decode cX8_brokenDocks 12 = .ok (.iload_n 1, 1) := by decide +kernel
theorem dX8_brokenDocks_13 : decode cX8_brokenDocks 13 = .ok (.iaload, 1) := by decide +kernel
theorem dX8_brokenDocks_14 : decode cX8_brokenDocks 14 = .ok (.ireturn, 1) := by decide +kernel
theorem dX8_isBalanced_0 : decode cX8_isBalanced 0 = .ok (.aload_n 0, 1) := by decide +kernel
theorem dX8_isBalanced_1 : decode cX8_isBalanced 1 = .ok (.iload_n 1, 1) := by decide +kernel
theorem dX8_isBalanced_2 : decode cX8_isBalanced 2 = .ok (.invokevirtual 107, 3) := by decide +kernel
theorem dX8_isBalanced_5 : decode cX8_isBalanced 5 = .ok (.aload_n 0, 1) := by decide +kernel
theorem dX8_isBalanced_6 : decode cX8_isBalanced 6 = .ok (.getfield 57, 3) := by decide +kernel
theorem dX8_isBalanced_9 : decode cX8_isBalanced 9 = .ok (.iload_n 1, 1) := by decide +kernel
theorem dX8_isBalanced_10 : decode cX8_isBalanced 10 = .ok (.invokevirtual 121, 3) := by decide +kernel
theorem dX8_isBalanced_13 : decode cX8_isBalanced 13 = .ok (.ifCond .ne 7, 3) := by decide +kernel
theorem dX8_isBalanced_16 : decode cX8_isBalanced 16 = .ok (.iconst 1, 1) := by decide +kernel
theorem dX8_isBalanced_17 : decode cX8_isBalanced 17 = .ok (.goto 4, 3) := by decide +kernel
theorem dX8_isBalanced_20 : decode cX8_isBalanced 20 = .ok (.iconst 0, 1) := by decide +kernel
theorem dX8_isBalanced_21 : decode cX8_isBalanced 21 = .ok (.ireturn, 1) := by decide +kernel
theorem dX8_imbalance_0 : decode cX8_imbalance 0 = .ok (.iconst 0, 1) := by decide +kernel
theorem dX8_imbalance_1 : decode cX8_imbalance 1 = .ok (.istore_n 1, 1) := by decide +kernel
theorem dX8_imbalance_2 : decode cX8_imbalance 2 = .ok (.iconst 0, 1) := by decide +kernel
theorem dX8_imbalance_3 : decode cX8_imbalance 3 = .ok (.istore_n 2, 1) := by decide +kernel
theorem dX8_imbalance_4 : decode cX8_imbalance 4 = .ok (.iload_n 2, 1) := by decide +kernel
theorem dX8_imbalance_5 : decode cX8_imbalance 5 = .ok (.aload_n 0, 1) := by decide +kernel
theorem dX8_imbalance_6 : decode cX8_imbalance 6 = .ok (.getfield 47, 3) := by decide +kernel
theorem dX8_imbalance_9 : decode cX8_imbalance 9 = .ok (.getfield 89, 3) := by decide +kernel
theorem dX8_imbalance_12 : decode cX8_imbalance 12 = .ok (.if_icmp .ge 20, 3) := by decide +kernel
theorem dX8_imbalance_15 : decode cX8_imbalance 15 = .ok (.iload_n 1, 1) := by decide +kernel
theorem dX8_imbalance_16 : decode cX8_imbalance 16 = .ok (.aload_n 0, 1) := by decide +kernel
theorem dX8_imbalance_17 : decode cX8_imbalance 17 = .ok (.getfield 57, 3) := by decide +kernel
theorem dX8_imbalance_20 : decode cX8_imbalance 20 = .ok (.iload_n 2, 1) := by decide +kernel
theorem dX8_imbalance_21 : decode cX8_imbalance 21 = .ok (.invokevirtual 121, 3) := by decide +kernel
theorem dX8_imbalance_24 : decode cX8_imbalance 24 = .ok (.iadd, 1) := by decide +kernel
theorem dX8_imbalance_25 : decode cX8_imbalance 25 = .ok (.istore_n 1, 1) := by decide +kernel
theorem dX8_imbalance_26 : decode cX8_imbalance 26 = .ok (.iinc 2 1, 3) := by decide +kernel
theorem dX8_imbalance_29 : decode cX8_imbalance 29 = .ok (.goto (-25), 3) := by decide +kernel
theorem dX8_imbalance_32 : decode cX8_imbalance 32 = .ok (.iload_n 1, 1) := by decide +kernel
theorem dX8_imbalance_33 : decode cX8_imbalance 33 = .ok (.ireturn, 1) := by decide +kernel
theorem dX8_nearest_0 : decode cX8_nearest 0 = .ok (.aload_n 0, 1) := by decide +kernel
theorem dX8_nearest_1 : decode cX8_nearest 1 = .ok (.iload_n 1, 1) := by decide +kernel
theorem dX8_nearest_2 : decode cX8_nearest 2 = .ok (.invokevirtual 107, 3) := by decide +kernel
theorem dX8_nearest_5 : decode cX8_nearest 5 = .ok (.aload_n 0, 1) := by decide +kernel
theorem dX8_nearest_6 : decode cX8_nearest 6 = .ok (.getfield 57, 3) := by decide +kernel
theorem dX8_nearest_9 : decode cX8_nearest 9 = .ok (.iload_n 1, 1) := by decide +kernel
theorem dX8_nearest_10 : decode cX8_nearest 10 = .ok (.iload_n 2, 1) := by decide +kernel
theorem dX8_nearest_11 : decode cX8_nearest 11 = .ok (.invokevirtual 124, 3) := by decide +kernel
theorem dX8_nearest_14 : decode cX8_nearest 14 = .ok (.ireturn, 1) := by decide +kernel
theorem dX8_rideMinutes_0 : decode cX8_rideMinutes 0 = .ok (.aload_n 0, 1) := by decide +kernel
theorem dX8_rideMinutes_1 : decode cX8_rideMinutes 1 = .ok (.iload_n 1, 1) := by decide +kernel
theorem dX8_rideMinutes_2 : decode cX8_rideMinutes 2 = .ok (.invokevirtual 107, 3) := by decide +kernel
theorem dX8_rideMinutes_5 : decode cX8_rideMinutes 5 = .ok (.aload_n 0, 1) := by decide +kernel
theorem dX8_rideMinutes_6 : decode cX8_rideMinutes 6 = .ok (.iload_n 2, 1) := by decide +kernel
theorem dX8_rideMinutes_7 : decode cX8_rideMinutes 7 = .ok (.invokevirtual 107, 3) := by decide +kernel
theorem dX8_rideMinutes_10 : decode cX8_rideMinutes 10 = .ok (.aload_n 0, 1) := by decide +kernel
theorem dX8_rideMinutes_11 : decode cX8_rideMinutes 11 = .ok (.getfield 47, 3) := by decide +kernel
theorem dX8_rideMinutes_14 : decode cX8_rideMinutes 14 = .ok (.iload_n 1, 1) := by decide +kernel
theorem dX8_rideMinutes_15 : decode cX8_rideMinutes 15 = .ok (.iload_n 2, 1) := by decide +kernel
theorem dX8_rideMinutes_16 : decode cX8_rideMinutes 16 = .ok (.invokevirtual 128, 3) := by decide +kernel
theorem dX8_rideMinutes_19 : decode cX8_rideMinutes 19 = .ok (.ireturn, 1) := by decide +kernel
theorem dX8_quote_0 : decode cX8_quote 0 = .ok (.aload_n 0, 1) := by decide +kernel
theorem dX8_quote_1 : decode cX8_quote 1 = .ok (.iload_n 1, 1) := by decide +kernel
theorem dX8_quote_2 : decode cX8_quote 2 = .ok (.invokevirtual 107, 3) := by decide +kernel
theorem dX8_quote_5 : decode cX8_quote 5 = .ok (.aload_n 0, 1) := by decide +kernel
theorem dX8_quote_6 : decode cX8_quote 6 = .ok (.iload_n 2, 1) := by decide +kernel
theorem dX8_quote_7 : decode cX8_quote 7 = .ok (.invokevirtual 107, 3) := by decide +kernel
theorem dX8_quote_10 : decode cX8_quote 10 = .ok (.aload_n 0, 1) := by decide +kernel
theorem dX8_quote_11 : decode cX8_quote 11 = .ok (.getfield 57, 3) := by decide +kernel
theorem dX8_quote_14 : decode cX8_quote 14 = .ok (.iload_n 1, 1) := by decide +kernel
theorem dX8_quote_15 : decode cX8_quote 15 = .ok (.iload_n 2, 1) := by decide +kernel
theorem dX8_quote_16 : decode cX8_quote 16 = .ok (.invokevirtual 132, 3) := by decide +kernel
theorem dX8_quote_19 : decode cX8_quote 19 = .ok (.ireturn, 1) := by decide +kernel
theorem dX8_bonusAt_0 : decode cX8_bonusAt 0 = .ok (.aload_n 0, 1) := by decide +kernel
theorem dX8_bonusAt_1 : decode cX8_bonusAt 1 = .ok (.iload_n 1, 1) := by decide +kernel
theorem dX8_bonusAt_2 : decode cX8_bonusAt 2 = .ok (.invokevirtual 107, 3) := by decide +kernel
theorem dX8_bonusAt_5 : decode cX8_bonusAt 5 = .ok (.aload_n 0, 1) := by decide +kernel
theorem dX8_bonusAt_6 : decode cX8_bonusAt 6 = .ok (.getfield 57, 3) := by decide +kernel
theorem dX8_bonusAt_9 : decode cX8_bonusAt 9 = .ok (.iload_n 1, 1) := by decide +kernel
theorem dX8_bonusAt_10 : decode cX8_bonusAt 10 = .ok (.invokevirtual 135, 3) := by decide +kernel
theorem dX8_bonusAt_13 : decode cX8_bonusAt 13 = .ok (.ireturn, 1) := by decide +kernel
theorem dX8_bestDeal_0 : decode cX8_bestDeal 0 = .ok (.aload_n 0, 1) := by decide +kernel
theorem dX8_bestDeal_1 : decode cX8_bestDeal 1 = .ok (.iload_n 1, 1) := by decide +kernel
theorem dX8_bestDeal_2 : decode cX8_bestDeal 2 = .ok (.invokevirtual 107, 3) := by decide +kernel
theorem dX8_bestDeal_5 : decode cX8_bestDeal 5 = .ok (.iconst (-1), 1) := by decide +kernel
theorem dX8_bestDeal_6 : decode cX8_bestDeal 6 = .ok (.istore_n 2, 1) := by decide +kernel
theorem dX8_bestDeal_7 : decode cX8_bestDeal 7 = .ok (.iconst 0, 1) := by decide +kernel
theorem dX8_bestDeal_8 : decode cX8_bestDeal 8 = .ok (.istore_n 3, 1) := by decide +kernel
theorem dX8_bestDeal_9 : decode cX8_bestDeal 9 = .ok (.iconst 0, 1) := by decide +kernel
theorem dX8_bestDeal_10 : decode cX8_bestDeal 10 = .ok (.istore 4, 2) := by decide +kernel
theorem dX8_bestDeal_12 : decode cX8_bestDeal 12 = .ok (.iload 4, 2) := by decide +kernel
theorem dX8_bestDeal_14 : decode cX8_bestDeal 14 = .ok (.aload_n 0, 1) := by decide +kernel
theorem dX8_bestDeal_15 : decode cX8_bestDeal 15 = .ok (.getfield 47, 3) := by decide +kernel
theorem dX8_bestDeal_18 : decode cX8_bestDeal 18 = .ok (.getfield 89, 3) := by decide +kernel
theorem dX8_bestDeal_21 : decode cX8_bestDeal 21 = .ok (.if_icmp .ge 69, 3) := by decide +kernel
theorem dX8_bestDeal_24 : decode cX8_bestDeal 24 = .ok (.iload 4, 2) := by decide +kernel
theorem dX8_bestDeal_26 : decode cX8_bestDeal 26 = .ok (.iload_n 1, 1) := by decide +kernel
theorem dX8_bestDeal_27 : decode cX8_bestDeal 27 = .ok (.if_icmp .eq 57, 3) := by decide +kernel
theorem dX8_bestDeal_30 : decode cX8_bestDeal 30 = .ok (.aload_n 0, 1) := by decide +kernel
theorem dX8_bestDeal_31 : decode cX8_bestDeal 31 = .ok (.getfield 57, 3) := by decide +kernel
theorem dX8_bestDeal_34 : decode cX8_bestDeal 34 = .ok (.iload 4, 2) := by decide +kernel
theorem dX8_bestDeal_36 : decode cX8_bestDeal 36 = .ok (.invokevirtual 114, 3) := by decide +kernel
theorem dX8_bestDeal_39 : decode cX8_bestDeal 39 = .ok (.ifCond .ne 6, 3) := by decide +kernel
theorem dX8_bestDeal_42 : decode cX8_bestDeal 42 = .ok (.goto 42, 3) := by decide +kernel
theorem dX8_bestDeal_45 : decode cX8_bestDeal 45 = .ok (.aload_n 0, 1) := by decide +kernel
theorem dX8_bestDeal_46 : decode cX8_bestDeal 46 = .ok (.getfield 57, 3) := by decide +kernel
theorem dX8_bestDeal_49 : decode cX8_bestDeal 49 = .ok (.iload_n 1, 1) := by decide +kernel
theorem dX8_bestDeal_50 : decode cX8_bestDeal 50 = .ok (.iload 4, 2) := by decide +kernel
theorem dX8_bestDeal_52 : decode cX8_bestDeal 52 = .ok (.invokevirtual 132, 3) := by decide +kernel
theorem dX8_bestDeal_55 : decode cX8_bestDeal 55 = .ok (.aload_n 0, 1) := by decide +kernel
theorem dX8_bestDeal_56 : decode cX8_bestDeal 56 = .ok (.getfield 57, 3) := by decide +kernel
theorem dX8_bestDeal_59 : decode cX8_bestDeal 59 = .ok (.iload 4, 2) := by decide +kernel
theorem dX8_bestDeal_61 : decode cX8_bestDeal 61 = .ok (.invokevirtual 135, 3) := by decide +kernel
theorem dX8_bestDeal_64 : decode cX8_bestDeal 64 = .ok (.isub, 1) := by decide +kernel
theorem dX8_bestDeal_65 : decode cX8_bestDeal 65 = .ok (.istore 5, 2) := by decide +kernel
theorem dX8_bestDeal_67 : decode cX8_bestDeal 67 = .ok (.iload_n 2, 1) := by decide +kernel
theorem dX8_bestDeal_68 : decode cX8_bestDeal 68 = .ok (.iconst (-1), 1) := by decide +kernel
theorem dX8_bestDeal_69 : decode cX8_bestDeal 69 = .ok (.if_icmp .eq 9, 3) := by decide +kernel
theorem dX8_bestDeal_72 : decode cX8_bestDeal 72 = .ok (.iload 5, 2) := by decide +kernel
theorem dX8_bestDeal_74 : decode cX8_bestDeal 74 = .ok (.iload_n 3, 1) := by decide +kernel
theorem dX8_bestDeal_75 : decode cX8_bestDeal 75 = .ok (.if_icmp .ge 9, 3) := by decide +kernel
theorem dX8_bestDeal_78 : decode cX8_bestDeal 78 = .ok (.iload 4, 2) := by decide +kernel
theorem dX8_bestDeal_80 : decode cX8_bestDeal 80 = .ok (.istore_n 2, 1) := by decide +kernel
theorem dX8_bestDeal_81 : decode cX8_bestDeal 81 = .ok (.iload 5, 2) := by decide +kernel
theorem dX8_bestDeal_83 : decode cX8_bestDeal 83 = .ok (.istore_n 3, 1) := by decide +kernel
theorem dX8_bestDeal_84 : decode cX8_bestDeal 84 = .ok (.iinc 4 1, 3) := by decide +kernel
theorem dX8_bestDeal_87 : decode cX8_bestDeal 87 = .ok (.goto (-75), 3) := by decide +kernel
theorem dX8_bestDeal_90 : decode cX8_bestDeal 90 = .ok (.iload_n 2, 1) := by decide +kernel
theorem dX8_bestDeal_91 : decode cX8_bestDeal 91 = .ok (.ireturn, 1) := by decide +kernel
theorem dX8_riders_0 : decode cX8_riders 0 = .ok (.aload_n 0, 1) := by decide +kernel
theorem dX8_riders_1 : decode cX8_riders 1 = .ok (.getfield 57, 3) := by decide +kernel
theorem dX8_riders_4 : decode cX8_riders 4 = .ok (.getfield 138, 3) := by decide +kernel
theorem dX8_riders_7 : decode cX8_riders 7 = .ok (.getfield 142, 3) := by decide +kernel
theorem dX8_riders_10 : decode cX8_riders 10 = .ok (.ireturn, 1) := by decide +kernel
theorem dX8_rider_0 : decode cX8_rider 0 = .ok (.iload_n 1, 1) := by decide +kernel
theorem dX8_rider_1 : decode cX8_rider 1 = .ok (.ifCond .lt 17, 3) := by decide +kernel
theorem dX8_rider_4 : decode cX8_rider 4 = .ok (.iload_n 1, 1) := by decide +kernel
theorem dX8_rider_5 : decode cX8_rider 5 = .ok (.aload_n 0, 1) := by decide +kernel
theorem dX8_rider_6 : decode cX8_rider 6 = .ok (.getfield 57, 3) := by decide +kernel
theorem dX8_rider_9 : decode cX8_rider 9 = .ok (.getfield 138, 3) := by decide +kernel
theorem dX8_rider_12 : decode cX8_rider 12 = .ok (.getfield 142, 3) := by decide +kernel
theorem dX8_rider_15 : decode cX8_rider 15 = .ok (.if_icmp .lt 13, 3) := by decide +kernel
theorem dX8_rider_18 : decode cX8_rider 18 = .ok (.new 147, 3) := by decide +kernel
theorem dX8_rider_21 : decode cX8_rider 21 = .ok (.dup, 1) := by decide +kernel
theorem dX8_rider_22 : decode cX8_rider 22 = .ok (.ldc 149, 2) := by decide +kernel
theorem dX8_rider_24 : decode cX8_rider 24 = .ok (.invokespecial 151, 3) := by decide +kernel
theorem dX8_rider_27 : decode cX8_rider 27 = .ok (.athrow, 1) := by decide +kernel
theorem dX8_rider_28 : decode cX8_rider 28 = .ok (.aload_n 0, 1) := by decide +kernel
theorem dX8_rider_29 : decode cX8_rider 29 = .ok (.getfield 57, 3) := by decide +kernel
theorem dX8_rider_32 : decode cX8_rider 32 = .ok (.getfield 138, 3) := by decide +kernel
theorem dX8_rider_35 : decode cX8_rider 35 = .ok (.getfield 152, 3) := by decide +kernel
theorem dX8_rider_38 : decode cX8_rider 38 = .ok (.iload_n 1, 1) := by decide +kernel
theorem dX8_rider_39 : decode cX8_rider 39 = .ok (.iaload, 1) := by decide +kernel
theorem dX8_rider_40 : decode cX8_rider 40 = .ok (.istore_n 3, 1) := by decide +kernel
theorem dX8_rider_41 : decode cX8_rider 41 = .ok (.iload_n 2, 1) := by decide +kernel
theorem dX8_rider_42 : decode cX8_rider 42 = .ok (.tableswitch 41 0 2 #[26, 31, 36], 26) := by decide +kernel
theorem dX8_rider_68 : decode cX8_rider 68 = .ok (.iload_n 3, 1) := by decide +kernel
theorem dX8_rider_69 : decode cX8_rider 69 = .ok (.invokestatic 155, 3) := by decide +kernel
theorem dX8_rider_72 : decode cX8_rider 72 = .ok (.ireturn, 1) := by decide +kernel
theorem dX8_rider_73 : decode cX8_rider 73 = .ok (.iload_n 3, 1) := by decide +kernel
theorem dX8_rider_74 : decode cX8_rider 74 = .ok (.invokestatic 158, 3) := by decide +kernel
theorem dX8_rider_77 : decode cX8_rider 77 = .ok (.ireturn, 1) := by decide +kernel
theorem dX8_rider_78 : decode cX8_rider 78 = .ok (.iload_n 3, 1) := by decide +kernel
theorem dX8_rider_79 : decode cX8_rider 79 = .ok (.invokestatic 161, 3) := by decide +kernel
theorem dX8_rider_82 : decode cX8_rider 82 = .ok (.ireturn, 1) := by decide +kernel
theorem dX8_rider_83 : decode cX8_rider 83 = .ok (.new 72, 3) := by decide +kernel
theorem dX8_rider_86 : decode cX8_rider 86 = .ok (.dup, 1) := by decide +kernel
theorem dX8_rider_87 : decode cX8_rider 87 = .ok (.ldc 98, 2) := by decide +kernel
theorem dX8_rider_89 : decode cX8_rider 89 = .ok (.invokespecial 76, 3) := by decide +kernel
theorem dX8_rider_92 : decode cX8_rider 92 = .ok (.athrow, 1) := by decide +kernel
theorem dX8_ridesBetween_0 : decode cX8_ridesBetween 0 = .ok (.aload_n 0, 1) := by decide +kernel
theorem dX8_ridesBetween_1 : decode cX8_ridesBetween 1 = .ok (.iload_n 1, 1) := by decide +kernel
theorem dX8_ridesBetween_2 : decode cX8_ridesBetween 2 = .ok (.invokevirtual 107, 3) := by decide +kernel
theorem dX8_ridesBetween_5 : decode cX8_ridesBetween 5 = .ok (.aload_n 0, 1) := by decide +kernel
theorem dX8_ridesBetween_6 : decode cX8_ridesBetween 6 = .ok (.iload_n 2, 1) := by decide +kernel
theorem dX8_ridesBetween_7 : decode cX8_ridesBetween 7 = .ok (.invokevirtual 107, 3) := by decide +kernel
theorem dX8_ridesBetween_10 : decode cX8_ridesBetween 10 = .ok (.aload_n 0, 1) := by decide +kernel
theorem dX8_ridesBetween_11 : decode cX8_ridesBetween 11 = .ok (.getfield 57, 3) := by decide +kernel
theorem dX8_ridesBetween_14 : decode cX8_ridesBetween 14 = .ok (.getfield 164, 3) := by decide +kernel
theorem dX8_ridesBetween_17 : decode cX8_ridesBetween 17 = .ok (.bipush 8, 2) := by decide +kernel
theorem dX8_ridesBetween_19 : decode cX8_ridesBetween 19 = .ok (.iload_n 1, 1) := by decide +kernel
theorem dX8_ridesBetween_20 : decode cX8_ridesBetween 20 = .ok (.imul, 1) := by decide +kernel
theorem dX8_ridesBetween_21 : decode cX8_ridesBetween 21 = .ok (.iload_n 2, 1) := by decide +kernel
theorem dX8_ridesBetween_22 : decode cX8_ridesBetween 22 = .ok (.iadd, 1) := by decide +kernel
theorem dX8_ridesBetween_23 : decode cX8_ridesBetween 23 = .ok (.iaload, 1) := by decide +kernel
theorem dX8_ridesBetween_24 : decode cX8_ridesBetween 24 = .ok (.ireturn, 1) := by decide +kernel
theorem dX8_busiestPair_0 : decode cX8_busiestPair 0 = .ok (.aload_n 0, 1) := by decide +kernel
theorem dX8_busiestPair_1 : decode cX8_busiestPair 1 = .ok (.getfield 57, 3) := by decide +kernel
theorem dX8_busiestPair_4 : decode cX8_busiestPair 4 = .ok (.invokevirtual 167, 3) := by decide +kernel
theorem dX8_busiestPair_7 : decode cX8_busiestPair 7 = .ok (.ireturn, 1) := by decide +kernel
theorem dX8_truck_0 : decode cX8_truck 0 = .ok (.aload_n 0, 1) := by decide +kernel
theorem dX8_truck_1 : decode cX8_truck 1 = .ok (.iload_n 1, 1) := by decide +kernel
theorem dX8_truck_2 : decode cX8_truck 2 = .ok (.invokevirtual 170, 3) := by decide +kernel
theorem dX8_truck_5 : decode cX8_truck 5 = .ok (.aload_n 0, 1) := by decide +kernel
theorem dX8_truck_6 : decode cX8_truck 6 = .ok (.getfield 57, 3) := by decide +kernel
theorem dX8_truck_9 : decode cX8_truck 9 = .ok (.getfield 173, 3) := by decide +kernel
theorem dX8_truck_12 : decode cX8_truck 12 = .ok (.iload_n 1, 1) := by decide +kernel
theorem dX8_truck_13 : decode cX8_truck 13 = .ok (.aaload, 1) := by decide +kernel
theorem dX8_truck_14 : decode cX8_truck 14 = .ok (.astore_n 3, 1) := by decide +kernel
theorem dX8_truck_15 : decode cX8_truck 15 = .ok (.iload_n 2, 1) := by decide +kernel
theorem dX8_truck_16 : decode cX8_truck 16 = .ok (.tableswitch 92 0 5 #[40, 56, 72, 77, 82, 87], 40) := by decide +kernel
theorem dX8_truck_56 : decode cX8_truck 56 = .ok (.aload_n 3, 1) := by decide +kernel
theorem dX8_truck_57 : decode cX8_truck 57 = .ok (.invokevirtual 176, 3) := by decide +kernel
theorem dX8_truck_60 : decode cX8_truck 60 = .ok (.ifCond .eq 7, 3) := by decide +kernel
theorem dX8_truck_63 : decode cX8_truck 63 = .ok (.iconst (-1), 1) := by decide +kernel
theorem dX8_truck_64 : decode cX8_truck 64 = .ok (.goto 7, 3) := by decide +kernel
theorem dX8_truck_67 : decode cX8_truck 67 = .ok (.aload_n 3, 1) := by decide +kernel
theorem dX8_truck_68 : decode cX8_truck 68 = .ok (.getfield 182, 3) := by decide +kernel
theorem dX8_truck_71 : decode cX8_truck 71 = .ok (.ireturn, 1) := by decide +kernel
theorem dX8_truck_72 : decode cX8_truck 72 = .ok (.aload_n 3, 1) := by decide +kernel
theorem dX8_truck_73 : decode cX8_truck 73 = .ok (.invokevirtual 176, 3) := by decide +kernel
theorem dX8_truck_76 : decode cX8_truck 76 = .ok (.ifCond .eq 10, 3) := by decide +kernel
theorem dX8_truck_79 : decode cX8_truck 79 = .ok (.aload_n 3, 1) := by decide +kernel
theorem dX8_truck_80 : decode cX8_truck 80 = .ok (.getfield 182, 3) := by decide +kernel
theorem dX8_truck_83 : decode cX8_truck 83 = .ok (.goto 4, 3) := by decide +kernel
theorem dX8_truck_86 : decode cX8_truck 86 = .ok (.iconst (-1), 1) := by decide +kernel
theorem dX8_truck_87 : decode cX8_truck 87 = .ok (.ireturn, 1) := by decide +kernel
theorem dX8_truck_88 : decode cX8_truck 88 = .ok (.aload_n 3, 1) := by decide +kernel
theorem dX8_truck_89 : decode cX8_truck 89 = .ok (.getfield 185, 3) := by decide +kernel
theorem dX8_truck_92 : decode cX8_truck 92 = .ok (.ireturn, 1) := by decide +kernel
theorem dX8_truck_93 : decode cX8_truck 93 = .ok (.aload_n 3, 1) := by decide +kernel
theorem dX8_truck_94 : decode cX8_truck 94 = .ok (.getfield 188, 3) := by decide +kernel
theorem dX8_truck_97 : decode cX8_truck 97 = .ok (.ireturn, 1) := by decide +kernel
theorem dX8_truck_98 : decode cX8_truck 98 = .ok (.aload_n 3, 1) := by decide +kernel
theorem dX8_truck_99 : decode cX8_truck 99 = .ok (.getfield 191, 3) := by decide +kernel
theorem dX8_truck_102 : decode cX8_truck 102 = .ok (.ireturn, 1) := by decide +kernel
theorem dX8_truck_103 : decode cX8_truck 103 = .ok (.aload_n 3, 1) := by decide +kernel
theorem dX8_truck_104 : decode cX8_truck 104 = .ok (.getfield 194, 3) := by decide +kernel
theorem dX8_truck_107 : decode cX8_truck 107 = .ok (.ireturn, 1) := by decide +kernel
theorem dX8_truck_108 : decode cX8_truck 108 = .ok (.new 72, 3) := by decide +kernel
theorem dX8_truck_111 : decode cX8_truck 111 = .ok (.dup, 1) := by decide +kernel
theorem dX8_truck_112 : decode cX8_truck 112 = .ok (.ldc 98, 2) := by decide +kernel
theorem dX8_truck_114 : decode cX8_truck 114 = .ok (.invokespecial 76, 3) := by decide +kernel
theorem dX8_truck_117 : decode cX8_truck 117 = .ok (.athrow, 1) := by decide +kernel
theorem dX8_tourMinutes_0 : decode cX8_tourMinutes 0 = .ok (.aload_n 0, 1) := by decide +kernel
theorem dX8_tourMinutes_1 : decode cX8_tourMinutes 1 = .ok (.iload_n 1, 1) := by decide +kernel
theorem dX8_tourMinutes_2 : decode cX8_tourMinutes 2 = .ok (.invokevirtual 170, 3) := by decide +kernel
theorem dX8_tourMinutes_5 : decode cX8_tourMinutes 5 = .ok (.aload_n 0, 1) := by decide +kernel
theorem dX8_tourMinutes_6 : decode cX8_tourMinutes 6 = .ok (.iload_n 1, 1) := by decide +kernel
theorem dX8_tourMinutes_7 : decode cX8_tourMinutes 7 = .ok (.invokevirtual 197, 3) := by decide +kernel
theorem dX8_tourMinutes_10 : decode cX8_tourMinutes 10 = .ok (.aload_n 0, 1) := by decide +kernel
theorem dX8_tourMinutes_11 : decode cX8_tourMinutes 11 = .ok (.getfield 30, 3) := by decide +kernel
theorem dX8_tourMinutes_14 : decode cX8_tourMinutes 14 = .ok (.aload_n 0, 1) := by decide +kernel
theorem dX8_tourMinutes_15 : decode cX8_tourMinutes 15 = .ok (.getfield 57, 3) := by decide +kernel
theorem dX8_tourMinutes_18 : decode cX8_tourMinutes 18 = .ok (.aload_n 0, 1) := by decide +kernel
theorem dX8_tourMinutes_19 : decode cX8_tourMinutes 19 = .ok (.getfield 57, 3) := by decide +kernel
theorem dX8_tourMinutes_22 : decode cX8_tourMinutes 22 = .ok (.getfield 173, 3) := by decide +kernel
theorem dX8_tourMinutes_25 : decode cX8_tourMinutes 25 = .ok (.iload_n 1, 1) := by decide +kernel
theorem dX8_tourMinutes_26 : decode cX8_tourMinutes 26 = .ok (.aaload, 1) := by decide +kernel
theorem dX8_tourMinutes_27 : decode cX8_tourMinutes 27 = .ok (.invokevirtual 200, 3) := by decide +kernel
theorem dX8_tourMinutes_30 : decode cX8_tourMinutes 30 = .ok (.aload_n 0, 1) := by decide +kernel
theorem dX8_tourMinutes_31 : decode cX8_tourMinutes 31 = .ok (.getfield 30, 3) := by decide +kernel
theorem dX8_tourMinutes_34 : decode cX8_tourMinutes 34 = .ok (.getfield 204, 3) := by decide +kernel
theorem dX8_tourMinutes_37 : decode cX8_tourMinutes 37 = .ok (.ireturn, 1) := by decide +kernel
theorem dX8_tourStop_0 : decode cX8_tourStop 0 = .ok (.aload_n 0, 1) := by decide +kernel
theorem dX8_tourStop_1 : decode cX8_tourStop 1 = .ok (.iload_n 1, 1) := by decide +kernel
theorem dX8_tourStop_2 : decode cX8_tourStop 2 = .ok (.invokevirtual 170, 3) := by decide +kernel
theorem dX8_tourStop_5 : decode cX8_tourStop 5 = .ok (.aload_n 0, 1) := by decide +kernel
theorem dX8_tourStop_6 : decode cX8_tourStop 6 = .ok (.iload_n 1, 1) := by decide +kernel
theorem dX8_tourStop_7 : decode cX8_tourStop 7 = .ok (.invokevirtual 197, 3) := by decide +kernel
theorem dX8_tourStop_10 : decode cX8_tourStop 10 = .ok (.aload_n 0, 1) := by decide +kernel
theorem dX8_tourStop_11 : decode cX8_tourStop 11 = .ok (.getfield 30, 3) := by decide +kernel
theorem dX8_tourStop_14 : decode cX8_tourStop 14 = .ok (.aload_n 0, 1) := by decide +kernel
theorem dX8_tourStop_15 : decode cX8_tourStop 15 = .ok (.getfield 57, 3) := by decide +kernel
theorem dX8_tourStop_18 : decode cX8_tourStop 18 = .ok (.aload_n 0, 1) := by decide +kernel
theorem dX8_tourStop_19 : decode cX8_tourStop 19 = .ok (.getfield 57, 3) := by decide +kernel
theorem dX8_tourStop_22 : decode cX8_tourStop 22 = .ok (.getfield 173, 3) := by decide +kernel
theorem dX8_tourStop_25 : decode cX8_tourStop 25 = .ok (.iload_n 1, 1) := by decide +kernel
theorem dX8_tourStop_26 : decode cX8_tourStop 26 = .ok (.aaload, 1) := by decide +kernel
theorem dX8_tourStop_27 : decode cX8_tourStop 27 = .ok (.invokevirtual 200, 3) := by decide +kernel
theorem dX8_tourStop_30 : decode cX8_tourStop 30 = .ok (.iload_n 2, 1) := by decide +kernel
theorem dX8_tourStop_31 : decode cX8_tourStop 31 = .ok (.ifCond .lt 14, 3) := by decide +kernel
theorem dX8_tourStop_34 : decode cX8_tourStop 34 = .ok (.iload_n 2, 1) := by decide +kernel
theorem dX8_tourStop_35 : decode cX8_tourStop 35 = .ok (.aload_n 0, 1) := by decide +kernel
theorem dX8_tourStop_36 : decode cX8_tourStop 36 = .ok (.getfield 30, 3) := by decide +kernel
theorem dX8_tourStop_39 : decode cX8_tourStop 39 = .ok (.getfield 207, 3) := by decide +kernel
theorem dX8_tourStop_42 : decode cX8_tourStop 42 = .ok (.if_icmp .lt 7, 3) := by decide +kernel
theorem dX8_tourStop_45 : decode cX8_tourStop 45 = .ok (.iconst (-1), 1) := by decide +kernel
theorem dX8_tourStop_46 : decode cX8_tourStop 46 = .ok (.goto 12, 3) := by decide +kernel
theorem dX8_tourStop_49 : decode cX8_tourStop 49 = .ok (.aload_n 0, 1) := by decide +kernel
theorem dX8_tourStop_50 : decode cX8_tourStop 50 = .ok (.getfield 30, 3) := by decide +kernel
theorem dX8_tourStop_53 : decode cX8_tourStop 53 = .ok (.getfield 210, 3) := by decide +kernel
theorem dX8_tourStop_56 : decode cX8_tourStop 56 = .ok (.iload_n 2, 1) := by decide +kernel
theorem dX8_tourStop_57 : decode cX8_tourStop 57 = .ok (.iaload, 1) := by decide +kernel
theorem dX8_tourStop_58 : decode cX8_tourStop 58 = .ok (.ireturn, 1) := by decide +kernel
theorem dX8_total_0 : decode cX8_total 0 = .ok (.iload_n 1, 1) := by decide +kernel
theorem dX8_total_1 : decode cX8_total 1 = .ok (.invokestatic 213, 3) := by decide +kernel
theorem dX8_total_4 : decode cX8_total 4 = .ok (.aload_n 0, 1) := by decide +kernel
theorem dX8_total_5 : decode cX8_total 5 = .ok (.getfield 57, 3) := by decide +kernel
theorem dX8_total_8 : decode cX8_total 8 = .ok (.iload_n 1, 1) := by decide +kernel
theorem dX8_total_9 : decode cX8_total 9 = .ok (.invokevirtual 216, 3) := by decide +kernel
theorem dX8_total_12 : decode cX8_total 12 = .ok (.ireturn, 1) := by decide +kernel
theorem dX8_forecast_0 : decode cX8_forecast 0 = .ok (.iload_n 2, 1) := by decide +kernel
theorem dX8_forecast_1 : decode cX8_forecast 1 = .ok (.invokestatic 213, 3) := by decide +kernel
theorem dX8_forecast_4 : decode cX8_forecast 4 = .ok (.iload_n 1, 1) := by decide +kernel
theorem dX8_forecast_5 : decode cX8_forecast 5 = .ok (.iconst 0, 1) := by decide +kernel
theorem dX8_forecast_6 : decode cX8_forecast 6 = .ok (.sipush 1440, 3) := by decide +kernel
theorem dX8_forecast_9 : decode cX8_forecast 9 = .ok (.invokestatic 219, 3) := by decide +kernel
theorem dX8_forecast_12 : decode cX8_forecast 12 = .ok (.aload_n 0, 1) := by decide +kernel
theorem dX8_forecast_13 : decode cX8_forecast 13 = .ok (.getfield 61, 3) := by decide +kernel
theorem dX8_forecast_16 : decode cX8_forecast 16 = .ok (.aload_n 0, 1) := by decide +kernel
theorem dX8_forecast_17 : decode cX8_forecast 17 = .ok (.getfield 57, 3) := by decide +kernel
theorem dX8_forecast_20 : decode cX8_forecast 20 = .ok (.invokevirtual 223, 3) := by decide +kernel
theorem dX8_forecast_23 : decode cX8_forecast 23 = .ok (.aload_n 0, 1) := by decide +kernel
theorem dX8_forecast_24 : decode cX8_forecast 24 = .ok (.getfield 61, 3) := by decide +kernel
theorem dX8_forecast_27 : decode cX8_forecast 27 = .ok (.iload_n 1, 1) := by decide +kernel
theorem dX8_forecast_28 : decode cX8_forecast 28 = .ok (.invokevirtual 227, 3) := by decide +kernel
theorem dX8_forecast_31 : decode cX8_forecast 31 = .ok (.pop, 1) := by decide +kernel
theorem dX8_forecast_32 : decode cX8_forecast 32 = .ok (.aload_n 0, 1) := by decide +kernel
theorem dX8_forecast_33 : decode cX8_forecast 33 = .ok (.getfield 61, 3) := by decide +kernel
theorem dX8_forecast_36 : decode cX8_forecast 36 = .ok (.iload_n 2, 1) := by decide +kernel
theorem dX8_forecast_37 : decode cX8_forecast 37 = .ok (.invokevirtual 216, 3) := by decide +kernel
theorem dX8_forecast_40 : decode cX8_forecast 40 = .ok (.ireturn, 1) := by decide +kernel
theorem dX8_runsOut_0 : decode cX8_runsOut 0 = .ok (.aload_n 0, 1) := by decide +kernel
theorem dX8_runsOut_1 : decode cX8_runsOut 1 = .ok (.iload_n 1, 1) := by decide +kernel
theorem dX8_runsOut_2 : decode cX8_runsOut 2 = .ok (.invokevirtual 107, 3) := by decide +kernel
theorem dX8_runsOut_5 : decode cX8_runsOut 5 = .ok (.aload_n 0, 1) := by decide +kernel
theorem dX8_runsOut_6 : decode cX8_runsOut 6 = .ok (.getfield 61, 3) := by decide +kernel
theorem dX8_runsOut_9 : decode cX8_runsOut 9 = .ok (.aload_n 0, 1) := by decide +kernel
theorem dX8_runsOut_10 : decode cX8_runsOut 10 = .ok (.getfield 57, 3) := by decide +kernel
theorem dX8_runsOut_13 : decode cX8_runsOut 13 = .ok (.invokevirtual 223, 3) := by decide +kernel
theorem dX8_runsOut_16 : decode cX8_runsOut 16 = .ok (.aload_n 0, 1) := by decide +kernel
theorem dX8_runsOut_17 : decode cX8_runsOut 17 = .ok (.getfield 61, 3) := by decide +kernel
theorem dX8_runsOut_20 : decode cX8_runsOut 20 = .ok (.iload_n 1, 1) := by decide +kernel
theorem dX8_runsOut_21 : decode cX8_runsOut 21 = .ok (.iload_n 2, 1) := by decide +kernel
theorem dX8_runsOut_22 : decode cX8_runsOut 22 = .ok (.invokevirtual 230, 3) := by decide +kernel
theorem dX8_runsOut_25 : decode cX8_runsOut 25 = .ok (.ireturn, 1) := by decide +kernel
theorem dX8_pass_0 : decode cX8_pass 0 = .ok (.iload_n 1, 1) := by decide +kernel
theorem dX8_pass_1 : decode cX8_pass 1 = .ok (.iconst 1, 1) := by decide +kernel
theorem dX8_pass_2 : decode cX8_pass 2 = .ok (.sipush 1440, 3) := by decide +kernel
theorem dX8_pass_5 : decode cX8_pass 5 = .ok (.invokestatic 219, 3) := by decide +kernel
theorem dX8_pass_8 : decode cX8_pass 8 = .ok (.aload_n 0, 1) := by decide +kernel
theorem dX8_pass_9 : decode cX8_pass 9 = .ok (.getfield 57, 3) := by decide +kernel
theorem dX8_pass_12 : decode cX8_pass 12 = .ok (.getfield 100, 3) := by decide +kernel
theorem dX8_pass_15 : decode cX8_pass 15 = .ok (.iload_n 1, 1) := by decide +kernel
theorem dX8_pass_16 : decode cX8_pass 16 = .ok (.iadd, 1) := by decide +kernel
theorem dX8_pass_17 : decode cX8_pass 17 = .ok (.sipush 9999, 3) := by decide +kernel
theorem dX8_pass_20 : decode cX8_pass 20 = .ok (.if_icmp .le 13, 3) := by decide +kernel
theorem dX8_pass_23 : decode cX8_pass 23 = .ok (.new 233, 3) := by decide +kernel
theorem dX8_pass_26 : decode cX8_pass 26 = .ok (.dup, 1) := by decide +kernel
theorem dX8_pass_27 : decode cX8_pass 27 = .ok (.ldc 235, 2) := by decide +kernel
theorem dX8_pass_29 : decode cX8_pass 29 = .ok (.invokespecial 237, 3) := by decide +kernel
theorem dX8_pass_32 : decode cX8_pass 32 = .ok (.athrow, 1) := by decide +kernel
theorem dX8_pass_33 : decode cX8_pass 33 = .ok (.aload_n 0, 1) := by decide +kernel
theorem dX8_pass_34 : decode cX8_pass 34 = .ok (.getfield 23, 3) := by decide +kernel
theorem dX8_pass_37 : decode cX8_pass 37 = .ok (.aload_n 0, 1) := by decide +kernel
theorem dX8_pass_38 : decode cX8_pass 38 = .ok (.getfield 57, 3) := by decide +kernel
theorem dX8_pass_41 : decode cX8_pass 41 = .ok (.invokevirtual 238, 3) := by decide +kernel
theorem dX8_pass_44 : decode cX8_pass 44 = .ok (.aload_n 0, 1) := by decide +kernel
theorem dX8_pass_45 : decode cX8_pass 45 = .ok (.getfield 57, 3) := by decide +kernel
theorem dX8_pass_48 : decode cX8_pass 48 = .ok (.iload_n 1, 1) := by decide +kernel
theorem dX8_pass_49 : decode cX8_pass 49 = .ok (.invokevirtual 227, 3) := by decide +kernel
theorem dX8_pass_52 : decode cX8_pass 52 = .ok (.ireturn, 1) := by decide +kernel
theorem dX8_rent_0 : decode cX8_rent 0 = .ok (.aload_n 0, 1) := by decide +kernel
theorem dX8_rent_1 : decode cX8_rent 1 = .ok (.iload_n 1, 1) := by decide +kernel
theorem dX8_rent_2 : decode cX8_rent 2 = .ok (.invokevirtual 107, 3) := by decide +kernel
theorem dX8_rent_5 : decode cX8_rent 5 = .ok (.aload_n 0, 1) := by decide +kernel
theorem dX8_rent_6 : decode cX8_rent 6 = .ok (.iload_n 2, 1) := by decide +kernel
theorem dX8_rent_7 : decode cX8_rent 7 = .ok (.invokevirtual 107, 3) := by decide +kernel
theorem dX8_rent_10 : decode cX8_rent 10 = .ok (.aload_n 0, 1) := by decide +kernel
theorem dX8_rent_11 : decode cX8_rent 11 = .ok (.getfield 57, 3) := by decide +kernel
theorem dX8_rent_14 : decode cX8_rent 14 = .ok (.iload_n 1, 1) := by decide +kernel
theorem dX8_rent_15 : decode cX8_rent 15 = .ok (.invokevirtual 241, 3) := by decide +kernel
theorem dX8_rent_18 : decode cX8_rent 18 = .ok (.ifCond .ne 13, 3) := by decide +kernel
theorem dX8_rent_21 : decode cX8_rent 21 = .ok (.new 233, 3) := by decide +kernel
theorem dX8_rent_24 : decode cX8_rent 24 = .ok (.dup, 1) := by decide +kernel
theorem dX8_rent_25 : decode cX8_rent 25 = .ok (.ldc 245, 2) := by decide +kernel
theorem dX8_rent_27 : decode cX8_rent 27 = .ok (.invokespecial 237, 3) := by decide +kernel
theorem dX8_rent_30 : decode cX8_rent 30 = .ok (.athrow, 1) := by decide +kernel
theorem dX8_rent_31 : decode cX8_rent 31 = .ok (.aload_n 0, 1) := by decide +kernel
theorem dX8_rent_32 : decode cX8_rent 32 = .ok (.getfield 23, 3) := by decide +kernel
theorem dX8_rent_35 : decode cX8_rent 35 = .ok (.aload_n 0, 1) := by decide +kernel
theorem dX8_rent_36 : decode cX8_rent 36 = .ok (.getfield 57, 3) := by decide +kernel
theorem dX8_rent_39 : decode cX8_rent 39 = .ok (.invokevirtual 238, 3) := by decide +kernel
theorem dX8_rent_42 : decode cX8_rent 42 = .ok (.aload_n 0, 1) := by decide +kernel
theorem dX8_rent_43 : decode cX8_rent 43 = .ok (.getfield 57, 3) := by decide +kernel
theorem dX8_rent_46 : decode cX8_rent 46 = .ok (.iload_n 1, 1) := by decide +kernel
theorem dX8_rent_47 : decode cX8_rent 47 = .ok (.iload_n 2, 1) := by decide +kernel
theorem dX8_rent_48 : decode cX8_rent 48 = .ok (.invokevirtual 247, 3) := by decide +kernel
theorem dX8_rent_51 : decode cX8_rent 51 = .ok (.aload_n 0, 1) := by decide +kernel
theorem dX8_rent_52 : decode cX8_rent 52 = .ok (.getfield 57, 3) := by decide +kernel
theorem dX8_rent_55 : decode cX8_rent 55 = .ok (.getfield 100, 3) := by decide +kernel
theorem dX8_rent_58 : decode cX8_rent 58 = .ok (.aload_n 0, 1) := by decide +kernel
theorem dX8_rent_59 : decode cX8_rent 59 = .ok (.getfield 47, 3) := by decide +kernel
theorem dX8_rent_62 : decode cX8_rent 62 = .ok (.iload_n 1, 1) := by decide +kernel
theorem dX8_rent_63 : decode cX8_rent 63 = .ok (.iload_n 2, 1) := by decide +kernel
theorem dX8_rent_64 : decode cX8_rent 64 = .ok (.invokevirtual 128, 3) := by decide +kernel
theorem dX8_rent_67 : decode cX8_rent 67 = .ok (.iadd, 1) := by decide +kernel
theorem dX8_rent_68 : decode cX8_rent 68 = .ok (.ireturn, 1) := by decide +kernel
theorem dX8_dispatch_0 : decode cX8_dispatch 0 = .ok (.aload_n 0, 1) := by decide +kernel
theorem dX8_dispatch_1 : decode cX8_dispatch 1 = .ok (.iload_n 1, 1) := by decide +kernel
theorem dX8_dispatch_2 : decode cX8_dispatch 2 = .ok (.invokevirtual 170, 3) := by decide +kernel
theorem dX8_dispatch_5 : decode cX8_dispatch 5 = .ok (.aload_n 0, 1) := by decide +kernel
theorem dX8_dispatch_6 : decode cX8_dispatch 6 = .ok (.iload_n 2, 1) := by decide +kernel
theorem dX8_dispatch_7 : decode cX8_dispatch 7 = .ok (.invokevirtual 107, 3) := by decide +kernel
theorem dX8_dispatch_10 : decode cX8_dispatch 10 = .ok (.iload_n 3, 1) := by decide +kernel
theorem dX8_dispatch_11 : decode cX8_dispatch 11 = .ok (.iconst 0, 1) := by decide +kernel
theorem dX8_dispatch_12 : decode cX8_dispatch 12 = .ok (.bipush 20, 2) := by decide +kernel
theorem dX8_dispatch_14 : decode cX8_dispatch 14 = .ok (.invokestatic 219, 3) := by decide +kernel
theorem dX8_dispatch_17 : decode cX8_dispatch 17 = .ok (.aload_n 0, 1) := by decide +kernel
theorem dX8_dispatch_18 : decode cX8_dispatch 18 = .ok (.getfield 57, 3) := by decide +kernel
theorem dX8_dispatch_21 : decode cX8_dispatch 21 = .ok (.getfield 173, 3) := by decide +kernel
theorem dX8_dispatch_24 : decode cX8_dispatch 24 = .ok (.iload_n 1, 1) := by decide +kernel
theorem dX8_dispatch_25 : decode cX8_dispatch 25 = .ok (.aaload, 1) := by decide +kernel
theorem dX8_dispatch_26 : decode cX8_dispatch 26 = .ok (.astore 4, 2) := by decide +kernel
theorem dX8_dispatch_28 : decode cX8_dispatch 28 = .ok (.aload 4, 2) := by decide +kernel
theorem dX8_dispatch_30 : decode cX8_dispatch 30 = .ok (.getfield 194, 3) := by decide +kernel
theorem dX8_dispatch_33 : decode cX8_dispatch 33 = .ok (.bipush 6, 2) := by decide +kernel
theorem dX8_dispatch_35 : decode cX8_dispatch 35 = .ok (.if_icmp .lt 13, 3) := by decide +kernel
theorem dX8_dispatch_38 : decode cX8_dispatch 38 = .ok (.new 233, 3) := by decide +kernel
theorem dX8_dispatch_41 : decode cX8_dispatch 41 = .ok (.dup, 1) := by decide +kernel
theorem dX8_dispatch_42 : decode cX8_dispatch 42 = .ok (.ldc 251, 2) := by decide +kernel
theorem dX8_dispatch_44 : decode cX8_dispatch 44 = .ok (.invokespecial 237, 3) := by decide +kernel
theorem dX8_dispatch_47 : decode cX8_dispatch 47 = .ok (.athrow, 1) := by decide +kernel
theorem dX8_dispatch_48 : decode cX8_dispatch 48 = .ok (.aload_n 0, 1) := by decide +kernel
theorem dX8_dispatch_49 : decode cX8_dispatch 49 = .ok (.getfield 23, 3) := by decide +kernel
theorem dX8_dispatch_52 : decode cX8_dispatch 52 = .ok (.aload_n 0, 1) := by decide +kernel
theorem dX8_dispatch_53 : decode cX8_dispatch 53 = .ok (.getfield 57, 3) := by decide +kernel
theorem dX8_dispatch_56 : decode cX8_dispatch 56 = .ok (.invokevirtual 238, 3) := by decide +kernel
theorem dX8_dispatch_59 : decode cX8_dispatch 59 = .ok (.aload 4, 2) := by decide +kernel
theorem dX8_dispatch_61 : decode cX8_dispatch 61 = .ok (.iload_n 2, 1) := by decide +kernel
theorem dX8_dispatch_62 : decode cX8_dispatch 62 = .ok (.iload_n 3, 1) := by decide +kernel
theorem dX8_dispatch_63 : decode cX8_dispatch 63 = .ok (.invokevirtual 253, 3) := by decide +kernel
theorem dX8_dispatch_66 : decode cX8_dispatch 66 = .ok (.aload_n 0, 1) := by decide +kernel
theorem dX8_dispatch_67 : decode cX8_dispatch 67 = .ok (.getfield 57, 3) := by decide +kernel
theorem dX8_dispatch_70 : decode cX8_dispatch 70 = .ok (.aload 4, 2) := by decide +kernel
theorem dX8_dispatch_72 : decode cX8_dispatch 72 = .ok (.invokevirtual 256, 3) := by decide +kernel
theorem dX8_dispatch_75 : decode cX8_dispatch 75 = .ok (.aload 4, 2) := by decide +kernel
theorem dX8_dispatch_77 : decode cX8_dispatch 77 = .ok (.getfield 194, 3) := by decide +kernel
theorem dX8_dispatch_80 : decode cX8_dispatch 80 = .ok (.ireturn, 1) := by decide +kernel
theorem dX8_cancel_0 : decode cX8_cancel 0 = .ok (.aload_n 0, 1) := by decide +kernel
theorem dX8_cancel_1 : decode cX8_cancel 1 = .ok (.iload_n 1, 1) := by decide +kernel
theorem dX8_cancel_2 : decode cX8_cancel 2 = .ok (.invokevirtual 170, 3) := by decide +kernel
theorem dX8_cancel_5 : decode cX8_cancel 5 = .ok (.aload_n 0, 1) := by decide +kernel
theorem dX8_cancel_6 : decode cX8_cancel 6 = .ok (.getfield 23, 3) := by decide +kernel
theorem dX8_cancel_9 : decode cX8_cancel 9 = .ok (.aload_n 0, 1) := by decide +kernel
theorem dX8_cancel_10 : decode cX8_cancel 10 = .ok (.getfield 57, 3) := by decide +kernel
theorem dX8_cancel_13 : decode cX8_cancel 13 = .ok (.invokevirtual 238, 3) := by decide +kernel
theorem dX8_cancel_16 : decode cX8_cancel 16 = .ok (.aload_n 0, 1) := by decide +kernel
theorem dX8_cancel_17 : decode cX8_cancel 17 = .ok (.getfield 57, 3) := by decide +kernel
theorem dX8_cancel_20 : decode cX8_cancel 20 = .ok (.getfield 173, 3) := by decide +kernel
theorem dX8_cancel_23 : decode cX8_cancel 23 = .ok (.iload_n 1, 1) := by decide +kernel
theorem dX8_cancel_24 : decode cX8_cancel 24 = .ok (.aaload, 1) := by decide +kernel
theorem dX8_cancel_25 : decode cX8_cancel 25 = .ok (.getfield 194, 3) := by decide +kernel
theorem dX8_cancel_28 : decode cX8_cancel 28 = .ok (.istore_n 2, 1) := by decide +kernel
theorem dX8_cancel_29 : decode cX8_cancel 29 = .ok (.aload_n 0, 1) := by decide +kernel
theorem dX8_cancel_30 : decode cX8_cancel 30 = .ok (.getfield 57, 3) := by decide +kernel
theorem dX8_cancel_33 : decode cX8_cancel 33 = .ok (.getfield 173, 3) := by decide +kernel
theorem dX8_cancel_36 : decode cX8_cancel 36 = .ok (.iload_n 1, 1) := by decide +kernel
theorem dX8_cancel_37 : decode cX8_cancel 37 = .ok (.aaload, 1) := by decide +kernel
theorem dX8_cancel_38 : decode cX8_cancel 38 = .ok (.iconst 0, 1) := by decide +kernel
theorem dX8_cancel_39 : decode cX8_cancel 39 = .ok (.putfield 194, 3) := by decide +kernel
theorem dX8_cancel_42 : decode cX8_cancel 42 = .ok (.iload_n 2, 1) := by decide +kernel
theorem dX8_cancel_43 : decode cX8_cancel 43 = .ok (.ireturn, 1) := by decide +kernel
theorem dX8_breakDock_0 : decode cX8_breakDock 0 = .ok (.aload_n 0, 1) := by decide +kernel
theorem dX8_breakDock_1 : decode cX8_breakDock 1 = .ok (.iload_n 1, 1) := by decide +kernel
theorem dX8_breakDock_2 : decode cX8_breakDock 2 = .ok (.invokevirtual 107, 3) := by decide +kernel
theorem dX8_breakDock_5 : decode cX8_breakDock 5 = .ok (.aload_n 0, 1) := by decide +kernel
theorem dX8_breakDock_6 : decode cX8_breakDock 6 = .ok (.getfield 57, 3) := by decide +kernel
theorem dX8_breakDock_9 : decode cX8_breakDock 9 = .ok (.iload_n 1, 1) := by decide +kernel
theorem dX8_breakDock_10 : decode cX8_breakDock 10 = .ok (.invokevirtual 114, 3) := by decide +kernel
theorem dX8_breakDock_13 : decode cX8_breakDock 13 = .ok (.ifCond .ne 14, 3) := by decide +kernel
theorem dX8_breakDock_16 : decode cX8_breakDock 16 = .ok (.new 233, 3) := by decide +kernel
theorem dX8_breakDock_19 : decode cX8_breakDock 19 = .ok (.dup, 1) := by decide +kernel
theorem dX8_breakDock_20 : decode cX8_breakDock 20 = .ok (.ldc_w 260, 3) := by decide +kernel
theorem dX8_breakDock_23 : decode cX8_breakDock 23 = .ok (.invokespecial 237, 3) := by decide +kernel
theorem dX8_breakDock_26 : decode cX8_breakDock 26 = .ok (.athrow, 1) := by decide +kernel
theorem dX8_breakDock_27 : decode cX8_breakDock 27 = .ok (.aload_n 0, 1) := by decide +kernel
theorem dX8_breakDock_28 : decode cX8_breakDock 28 = .ok (.getfield 23, 3) := by decide +kernel
theorem dX8_breakDock_31 : decode cX8_breakDock 31 = .ok (.aload_n 0, 1) := by decide +kernel
theorem dX8_breakDock_32 : decode cX8_breakDock 32 = .ok (.getfield 57, 3) := by decide +kernel
theorem dX8_breakDock_35 : decode cX8_breakDock 35 = .ok (.invokevirtual 238, 3) := by decide +kernel
theorem dX8_breakDock_38 : decode cX8_breakDock 38 = .ok (.aload_n 0, 1) := by decide +kernel
theorem dX8_breakDock_39 : decode cX8_breakDock 39 = .ok (.getfield 57, 3) := by decide +kernel
theorem dX8_breakDock_42 : decode cX8_breakDock 42 = .ok (.getfield 118, 3) := by decide +kernel
theorem dX8_breakDock_45 : decode cX8_breakDock 45 = .ok (.iload_n 1, 1) := by decide +kernel
theorem dX8_breakDock_46 : decode cX8_breakDock 46 = .ok (.dup2, 1) := by decide +kernel
theorem dX8_breakDock_47 : decode cX8_breakDock 47 = .ok (.iaload, 1) := by decide +kernel
theorem dX8_breakDock_48 : decode cX8_breakDock 48 = .ok (.iconst 1, 1) := by decide +kernel
theorem dX8_breakDock_49 : decode cX8_breakDock 49 = .ok (.iadd, 1) := by decide +kernel
theorem dX8_breakDock_50 : decode cX8_breakDock 50 = .ok (.iastore, 1) := by decide +kernel
theorem dX8_breakDock_51 : decode cX8_breakDock 51 = .ok (.aload_n 0, 1) := by decide +kernel
theorem dX8_breakDock_52 : decode cX8_breakDock 52 = .ok (.getfield 57, 3) := by decide +kernel
theorem dX8_breakDock_55 : decode cX8_breakDock 55 = .ok (.getfield 118, 3) := by decide +kernel
theorem dX8_breakDock_58 : decode cX8_breakDock 58 = .ok (.iload_n 1, 1) := by decide +kernel
theorem dX8_breakDock_59 : decode cX8_breakDock 59 = .ok (.iaload, 1) := by decide +kernel
theorem dX8_breakDock_60 : decode cX8_breakDock 60 = .ok (.ireturn, 1) := by decide +kernel
theorem dX8_repairDock_0 : decode cX8_repairDock 0 = .ok (.aload_n 0, 1) := by decide +kernel
theorem dX8_repairDock_1 : decode cX8_repairDock 1 = .ok (.iload_n 1, 1) := by decide +kernel
theorem dX8_repairDock_2 : decode cX8_repairDock 2 = .ok (.invokevirtual 107, 3) := by decide +kernel
theorem dX8_repairDock_5 : decode cX8_repairDock 5 = .ok (.aload_n 0, 1) := by decide +kernel
theorem dX8_repairDock_6 : decode cX8_repairDock 6 = .ok (.getfield 57, 3) := by decide +kernel
theorem dX8_repairDock_9 : decode cX8_repairDock 9 = .ok (.getfield 118, 3) := by decide +kernel
theorem dX8_repairDock_12 : decode cX8_repairDock 12 = .ok (.iload_n 1, 1) := by decide +kernel
theorem dX8_repairDock_13 : decode cX8_repairDock 13 = .ok (.iaload, 1) := by decide +kernel
theorem dX8_repairDock_14 : decode cX8_repairDock 14 = .ok (.ifCond .ne 14, 3) := by decide +kernel
theorem dX8_repairDock_17 : decode cX8_repairDock 17 = .ok (.new 233, 3) := by decide +kernel
theorem dX8_repairDock_20 : decode cX8_repairDock 20 = .ok (.dup, 1) := by decide +kernel
theorem dX8_repairDock_21 : decode cX8_repairDock 21 = .ok (.ldc_w 262, 3) := by decide +kernel
theorem dX8_repairDock_24 : decode cX8_repairDock 24 = .ok (.invokespecial 237, 3) := by decide +kernel
theorem dX8_repairDock_27 : decode cX8_repairDock 27 = .ok (.athrow, 1) := by decide +kernel
theorem dX8_repairDock_28 : decode cX8_repairDock 28 = .ok (.aload_n 0, 1) := by decide +kernel
theorem dX8_repairDock_29 : decode cX8_repairDock 29 = .ok (.getfield 23, 3) := by decide +kernel
theorem dX8_repairDock_32 : decode cX8_repairDock 32 = .ok (.aload_n 0, 1) := by decide +kernel
theorem dX8_repairDock_33 : decode cX8_repairDock 33 = .ok (.getfield 57, 3) := by decide +kernel
theorem dX8_repairDock_36 : decode cX8_repairDock 36 = .ok (.invokevirtual 238, 3) := by decide +kernel
theorem dX8_repairDock_39 : decode cX8_repairDock 39 = .ok (.aload_n 0, 1) := by decide +kernel
theorem dX8_repairDock_40 : decode cX8_repairDock 40 = .ok (.getfield 57, 3) := by decide +kernel
theorem dX8_repairDock_43 : decode cX8_repairDock 43 = .ok (.getfield 118, 3) := by decide +kernel
theorem dX8_repairDock_46 : decode cX8_repairDock 46 = .ok (.iload_n 1, 1) := by decide +kernel
theorem dX8_repairDock_47 : decode cX8_repairDock 47 = .ok (.dup2, 1) := by decide +kernel
theorem dX8_repairDock_48 : decode cX8_repairDock 48 = .ok (.iaload, 1) := by decide +kernel
theorem dX8_repairDock_49 : decode cX8_repairDock 49 = .ok (.iconst 1, 1) := by decide +kernel
theorem dX8_repairDock_50 : decode cX8_repairDock 50 = .ok (.isub, 1) := by decide +kernel
theorem dX8_repairDock_51 : decode cX8_repairDock 51 = .ok (.iastore, 1) := by decide +kernel
theorem dX8_repairDock_52 : decode cX8_repairDock 52 = .ok (.aload_n 0, 1) := by decide +kernel
theorem dX8_repairDock_53 : decode cX8_repairDock 53 = .ok (.getfield 57, 3) := by decide +kernel
theorem dX8_repairDock_56 : decode cX8_repairDock 56 = .ok (.getfield 118, 3) := by decide +kernel
theorem dX8_repairDock_59 : decode cX8_repairDock 59 = .ok (.iload_n 1, 1) := by decide +kernel
theorem dX8_repairDock_60 : decode cX8_repairDock 60 = .ok (.iaload, 1) := by decide +kernel
theorem dX8_repairDock_61 : decode cX8_repairDock 61 = .ok (.ireturn, 1) := by decide +kernel
theorem dX8_addBikes_0 : decode cX8_addBikes 0 = .ok (.aload_n 0, 1) := by decide +kernel
theorem dX8_addBikes_1 : decode cX8_addBikes 1 = .ok (.iload_n 1, 1) := by decide +kernel
theorem dX8_addBikes_2 : decode cX8_addBikes 2 = .ok (.invokevirtual 107, 3) := by decide +kernel
theorem dX8_addBikes_5 : decode cX8_addBikes 5 = .ok (.iload_n 2, 1) := by decide +kernel
theorem dX8_addBikes_6 : decode cX8_addBikes 6 = .ok (.iconst 1, 1) := by decide +kernel
theorem dX8_addBikes_7 : decode cX8_addBikes 7 = .ok (.bipush 20, 2) := by decide +kernel
theorem dX8_addBikes_9 : decode cX8_addBikes 9 = .ok (.invokestatic 219, 3) := by decide +kernel
theorem dX8_addBikes_12 : decode cX8_addBikes 12 = .ok (.aload_n 0, 1) := by decide +kernel
theorem dX8_addBikes_13 : decode cX8_addBikes 13 = .ok (.getfield 57, 3) := by decide +kernel
theorem dX8_addBikes_16 : decode cX8_addBikes 16 = .ok (.iload_n 1, 1) := by decide +kernel
theorem dX8_addBikes_17 : decode cX8_addBikes 17 = .ok (.invokevirtual 114, 3) := by decide +kernel
theorem dX8_addBikes_20 : decode cX8_addBikes 20 = .ok (.iload_n 2, 1) := by decide +kernel
theorem dX8_addBikes_21 : decode cX8_addBikes 21 = .ok (.if_icmp .ge 14, 3) := by decide +kernel
theorem dX8_addBikes_24 : decode cX8_addBikes 24 = .ok (.new 233, 3) := by decide +kernel
theorem dX8_addBikes_27 : decode cX8_addBikes 27 = .ok (.dup, 1) := by decide +kernel
theorem dX8_addBikes_28 : decode cX8_addBikes 28 = .ok (.ldc_w 264, 3) := by decide +kernel
theorem dX8_addBikes_31 : decode cX8_addBikes 31 = .ok (.invokespecial 237, 3) := by decide +kernel
theorem dX8_addBikes_34 : decode cX8_addBikes 34 = .ok (.athrow, 1) := by decide +kernel
theorem dX8_addBikes_35 : decode cX8_addBikes 35 = .ok (.aload_n 0, 1) := by decide +kernel
theorem dX8_addBikes_36 : decode cX8_addBikes 36 = .ok (.getfield 23, 3) := by decide +kernel
theorem dX8_addBikes_39 : decode cX8_addBikes 39 = .ok (.aload_n 0, 1) := by decide +kernel
theorem dX8_addBikes_40 : decode cX8_addBikes 40 = .ok (.getfield 57, 3) := by decide +kernel
theorem dX8_addBikes_43 : decode cX8_addBikes 43 = .ok (.invokevirtual 238, 3) := by decide +kernel
theorem dX8_addBikes_46 : decode cX8_addBikes 46 = .ok (.aload_n 0, 1) := by decide +kernel
theorem dX8_addBikes_47 : decode cX8_addBikes 47 = .ok (.getfield 57, 3) := by decide +kernel
theorem dX8_addBikes_50 : decode cX8_addBikes 50 = .ok (.getfield 110, 3) := by decide +kernel
theorem dX8_addBikes_53 : decode cX8_addBikes 53 = .ok (.iload_n 1, 1) := by decide +kernel
theorem dX8_addBikes_54 : decode cX8_addBikes 54 = .ok (.dup2, 1) := by decide +kernel
theorem dX8_addBikes_55 : decode cX8_addBikes 55 = .ok (.iaload, 1) := by decide +kernel
theorem dX8_addBikes_56 : decode cX8_addBikes 56 = .ok (.iload_n 2, 1) := by decide +kernel
theorem dX8_addBikes_57 : decode cX8_addBikes 57 = .ok (.iadd, 1) := by decide +kernel
theorem dX8_addBikes_58 : decode cX8_addBikes 58 = .ok (.iastore, 1) := by decide +kernel
theorem dX8_addBikes_59 : decode cX8_addBikes 59 = .ok (.aload_n 0, 1) := by decide +kernel
theorem dX8_addBikes_60 : decode cX8_addBikes 60 = .ok (.getfield 57, 3) := by decide +kernel
theorem dX8_addBikes_63 : decode cX8_addBikes 63 = .ok (.invokevirtual 103, 3) := by decide +kernel
theorem dX8_addBikes_66 : decode cX8_addBikes 66 = .ok (.ireturn, 1) := by decide +kernel
theorem dX8_removeBikes_0 : decode cX8_removeBikes 0 = .ok (.aload_n 0, 1) := by decide +kernel
theorem dX8_removeBikes_1 : decode cX8_removeBikes 1 = .ok (.iload_n 1, 1) := by decide +kernel
theorem dX8_removeBikes_2 : decode cX8_removeBikes 2 = .ok (.invokevirtual 107, 3) := by decide +kernel
theorem dX8_removeBikes_5 : decode cX8_removeBikes 5 = .ok (.iload_n 2, 1) := by decide +kernel
theorem dX8_removeBikes_6 : decode cX8_removeBikes 6 = .ok (.iconst 1, 1) := by decide +kernel
theorem dX8_removeBikes_7 : decode cX8_removeBikes 7 = .ok (.bipush 20, 2) := by decide +kernel
theorem dX8_removeBikes_9 : decode cX8_removeBikes 9 = .ok (.invokestatic 219, 3) := by decide +kernel
theorem dX8_removeBikes_12 : decode cX8_removeBikes 12 = .ok (.aload_n 0, 1) := by decide +kernel
theorem dX8_removeBikes_13 : decode cX8_removeBikes 13 = .ok (.getfield 57, 3) := by decide +kernel
theorem dX8_removeBikes_16 : decode cX8_removeBikes 16 = .ok (.getfield 110, 3) := by decide +kernel
theorem dX8_removeBikes_19 : decode cX8_removeBikes 19 = .ok (.iload_n 1, 1) := by decide +kernel
theorem dX8_removeBikes_20 : decode cX8_removeBikes 20 = .ok (.iaload, 1) := by decide +kernel
theorem dX8_removeBikes_21 : decode cX8_removeBikes 21 = .ok (.iload_n 2, 1) := by decide +kernel
theorem dX8_removeBikes_22 : decode cX8_removeBikes 22 = .ok (.if_icmp .ge 14, 3) := by decide +kernel
theorem dX8_removeBikes_25 : decode cX8_removeBikes 25 = .ok (.new 233, 3) := by decide +kernel
theorem dX8_removeBikes_28 : decode cX8_removeBikes 28 = .ok (.dup, 1) := by decide +kernel
theorem dX8_removeBikes_29 : decode cX8_removeBikes 29 = .ok (.ldc_w 266, 3) := by decide +kernel
theorem dX8_removeBikes_32 : decode cX8_removeBikes 32 = .ok (.invokespecial 237, 3) := by decide +kernel
theorem dX8_removeBikes_35 : decode cX8_removeBikes 35 = .ok (.athrow, 1) := by decide +kernel
theorem dX8_removeBikes_36 : decode cX8_removeBikes 36 = .ok (.aload_n 0, 1) := by decide +kernel
theorem dX8_removeBikes_37 : decode cX8_removeBikes 37 = .ok (.getfield 23, 3) := by decide +kernel
theorem dX8_removeBikes_40 : decode cX8_removeBikes 40 = .ok (.aload_n 0, 1) := by decide +kernel
theorem dX8_removeBikes_41 : decode cX8_removeBikes 41 = .ok (.getfield 57, 3) := by decide +kernel
theorem dX8_removeBikes_44 : decode cX8_removeBikes 44 = .ok (.invokevirtual 238, 3) := by decide +kernel
theorem dX8_removeBikes_47 : decode cX8_removeBikes 47 = .ok (.aload_n 0, 1) := by decide +kernel
theorem dX8_removeBikes_48 : decode cX8_removeBikes 48 = .ok (.getfield 57, 3) := by decide +kernel
theorem dX8_removeBikes_51 : decode cX8_removeBikes 51 = .ok (.getfield 110, 3) := by decide +kernel
theorem dX8_removeBikes_54 : decode cX8_removeBikes 54 = .ok (.iload_n 1, 1) := by decide +kernel
theorem dX8_removeBikes_55 : decode cX8_removeBikes 55 = .ok (.dup2, 1) := by decide +kernel
theorem dX8_removeBikes_56 : decode cX8_removeBikes 56 = .ok (.iaload, 1) := by decide +kernel
theorem dX8_removeBikes_57 : decode cX8_removeBikes 57 = .ok (.iload_n 2, 1) := by decide +kernel
theorem dX8_removeBikes_58 : decode cX8_removeBikes 58 = .ok (.isub, 1) := by decide +kernel
theorem dX8_removeBikes_59 : decode cX8_removeBikes 59 = .ok (.iastore, 1) := by decide +kernel
theorem dX8_removeBikes_60 : decode cX8_removeBikes 60 = .ok (.aload_n 0, 1) := by decide +kernel
theorem dX8_removeBikes_61 : decode cX8_removeBikes 61 = .ok (.getfield 57, 3) := by decide +kernel
theorem dX8_removeBikes_64 : decode cX8_removeBikes 64 = .ok (.invokevirtual 103, 3) := by decide +kernel
theorem dX8_removeBikes_67 : decode cX8_removeBikes 67 = .ok (.ireturn, 1) := by decide +kernel
theorem dX8_undo_0 : decode cX8_undo 0 = .ok (.aload_n 0, 1) := by decide +kernel
theorem dX8_undo_1 : decode cX8_undo 1 = .ok (.getfield 23, 3) := by decide +kernel
theorem dX8_undo_4 : decode cX8_undo 4 = .ok (.aload_n 0, 1) := by decide +kernel
theorem dX8_undo_5 : decode cX8_undo 5 = .ok (.getfield 57, 3) := by decide +kernel
theorem dX8_undo_8 : decode cX8_undo 8 = .ok (.invokevirtual 268, 3) := by decide +kernel
theorem dX8_undo_11 : decode cX8_undo 11 = .ok (.ifCond .eq 13, 3) := by decide +kernel
theorem dX8_undo_14 : decode cX8_undo 14 = .ok (.aload_n 0, 1) := by decide +kernel
theorem dX8_undo_15 : decode cX8_undo 15 = .ok (.getfield 23, 3) := by decide +kernel
theorem dX8_undo_18 : decode cX8_undo 18 = .ok (.getfield 272, 3) := by decide +kernel
theorem dX8_undo_21 : decode cX8_undo 21 = .ok (.goto 4, 3) := by decide +kernel
theorem dX8_undo_24 : decode cX8_undo 24 = .ok (.iconst (-1), 1) := by decide +kernel
theorem dX8_undo_25 : decode cX8_undo 25 = .ok (.ireturn, 1) := by decide +kernel
theorem dX8_saveSnapshot_0 : decode cX8_saveSnapshot 0 = .ok (.iload_n 1, 1) := by decide +kernel
theorem dX8_saveSnapshot_1 : decode cX8_saveSnapshot 1 = .ok (.ifCond .lt 8, 3) := by decide +kernel
theorem dX8_saveSnapshot_4 : decode cX8_saveSnapshot 4 = .ok (.iload_n 1, 1) := by decide +kernel
theorem dX8_saveSnapshot_5 : decode cX8_saveSnapshot 5 = .ok (.iconst 2, 1) := by decide +kernel
theorem dX8_saveSnapshot_6 : decode cX8_saveSnapshot 6 = .ok (.if_icmp .lt 5, 3) := by decide +kernel
theorem dX8_saveSnapshot_9 : decode cX8_saveSnapshot 9 = .ok (.iconst 0, 1) := by decide +kernel
theorem dX8_saveSnapshot_10 : decode cX8_saveSnapshot 10 = .ok (.ireturn, 1) := by decide +kernel
theorem dX8_saveSnapshot_11 : decode cX8_saveSnapshot 11 = .ok (.aload_n 0, 1) := by decide +kernel
theorem dX8_saveSnapshot_12 : decode cX8_saveSnapshot 12 = .ok (.getfield 36, 3) := by decide +kernel
theorem dX8_saveSnapshot_15 : decode cX8_saveSnapshot 15 = .ok (.iload_n 1, 1) := by decide +kernel
theorem dX8_saveSnapshot_16 : decode cX8_saveSnapshot 16 = .ok (.aaload, 1) := by decide +kernel
theorem dX8_saveSnapshot_17 : decode cX8_saveSnapshot 17 = .ok (.ifnonnull 20, 3) := by decide +kernel
theorem dX8_saveSnapshot_20 : decode cX8_saveSnapshot 20 = .ok (.aload_n 0, 1) := by decide +kernel
theorem dX8_saveSnapshot_21 : decode cX8_saveSnapshot 21 = .ok (.getfield 36, 3) := by decide +kernel
theorem dX8_saveSnapshot_24 : decode cX8_saveSnapshot 24 = .ok (.iload_n 1, 1) := by decide +kernel
theorem dX8_saveSnapshot_25 : decode cX8_saveSnapshot 25 = .ok (.new 34, 3) := by decide +kernel
theorem dX8_saveSnapshot_28 : decode cX8_saveSnapshot 28 = .ok (.dup, 1) := by decide +kernel
theorem dX8_saveSnapshot_29 : decode cX8_saveSnapshot 29 = .ok (.aload_n 0, 1) := by decide +kernel
theorem dX8_saveSnapshot_30 : decode cX8_saveSnapshot 30 = .ok (.getfield 47, 3) := by decide +kernel
theorem dX8_saveSnapshot_33 : decode cX8_saveSnapshot 33 = .ok (.invokespecial 54, 3) := by decide +kernel
theorem dX8_saveSnapshot_36 : decode cX8_saveSnapshot 36 = .ok (.aastore, 1) := by decide +kernel
theorem dX8_saveSnapshot_37 : decode cX8_saveSnapshot 37 = .ok (.aload_n 0, 1) := by decide +kernel
theorem dX8_saveSnapshot_38 : decode cX8_saveSnapshot 38 = .ok (.getfield 36, 3) := by decide +kernel
theorem dX8_saveSnapshot_41 : decode cX8_saveSnapshot 41 = .ok (.iload_n 1, 1) := by decide +kernel
theorem dX8_saveSnapshot_42 : decode cX8_saveSnapshot 42 = .ok (.aaload, 1) := by decide +kernel
theorem dX8_saveSnapshot_43 : decode cX8_saveSnapshot 43 = .ok (.aload_n 0, 1) := by decide +kernel
theorem dX8_saveSnapshot_44 : decode cX8_saveSnapshot 44 = .ok (.getfield 57, 3) := by decide +kernel
theorem dX8_saveSnapshot_47 : decode cX8_saveSnapshot 47 = .ok (.invokevirtual 223, 3) := by decide +kernel
theorem dX8_saveSnapshot_50 : decode cX8_saveSnapshot 50 = .ok (.aload_n 0, 1) := by decide +kernel
theorem dX8_saveSnapshot_51 : decode cX8_saveSnapshot 51 = .ok (.getfield 40, 3) := by decide +kernel
theorem dX8_saveSnapshot_54 : decode cX8_saveSnapshot 54 = .ok (.iload_n 1, 1) := by decide +kernel
theorem dX8_saveSnapshot_55 : decode cX8_saveSnapshot 55 = .ok (.iconst 1, 1) := by decide +kernel
theorem dX8_saveSnapshot_56 : decode cX8_saveSnapshot 56 = .ok (.bastore, 1) := by decide +kernel
theorem dX8_saveSnapshot_57 : decode cX8_saveSnapshot 57 = .ok (.iconst 1, 1) := by decide +kernel
theorem dX8_saveSnapshot_58 : decode cX8_saveSnapshot 58 = .ok (.ireturn, 1) := by decide +kernel
theorem dX8_restoreSnapshot_0 : decode cX8_restoreSnapshot 0 = .ok (.iload_n 1, 1) := by decide +kernel
theorem dX8_restoreSnapshot_1 : decode cX8_restoreSnapshot 1 = .ok (.ifCond .lt 26, 3) := by decide +kernel
theorem dX8_restoreSnapshot_4 : decode cX8_restoreSnapshot 4 = .ok (.iload_n 1, 1) := by decide +kernel
theorem dX8_restoreSnapshot_5 : decode cX8_restoreSnapshot 5 = .ok (.iconst 2, 1) := by decide +kernel
theorem dX8_restoreSnapshot_6 : decode cX8_restoreSnapshot 6 = .ok (.if_icmp .ge 21, 3) := by decide +kernel
theorem dX8_restoreSnapshot_9 : decode cX8_restoreSnapshot 9 = .ok (.aload_n 0, 1) := by decide +kernel
theorem dX8_restoreSnapshot_10 : decode cX8_restoreSnapshot 10 = .ok (.getfield 40, 3) := by decide +kernel
theorem dX8_restoreSnapshot_13 : decode cX8_restoreSnapshot 13 = .ok (.iload_n 1, 1) := by decide +kernel
theorem dX8_restoreSnapshot_14 : decode cX8_restoreSnapshot 14 = .ok (.baload, 1) := by decide +kernel
theorem dX8_restoreSnapshot_15 : decode cX8_restoreSnapshot 15 = .ok (.ifCond .eq 12, 3) := by decide +kernel
theorem dX8_restoreSnapshot_18 : decode cX8_restoreSnapshot 18 = .ok (.aload_n 0, 1) := by decide +kernel
theorem dX8_restoreSnapshot_19 : decode cX8_restoreSnapshot 19 = .ok (.getfield 36, 3) := by decide +kernel
theorem dX8_restoreSnapshot_22 : decode cX8_restoreSnapshot 22 = .ok (.iload_n 1, 1) := by decide +kernel
theorem dX8_restoreSnapshot_23 : decode cX8_restoreSnapshot 23 = .ok (.aaload, 1) := by decide +kernel
theorem dX8_restoreSnapshot_24 : decode cX8_restoreSnapshot 24 = .ok (.ifnonnull 5, 3) := by decide +kernel
theorem dX8_restoreSnapshot_27 : decode cX8_restoreSnapshot 27 = .ok (.iconst 0, 1) := by decide +kernel
theorem dX8_restoreSnapshot_28 : decode cX8_restoreSnapshot 28 = .ok (.ireturn, 1) := by decide +kernel
theorem dX8_restoreSnapshot_29 : decode cX8_restoreSnapshot 29 = .ok (.aload_n 0, 1) := by decide +kernel
theorem dX8_restoreSnapshot_30 : decode cX8_restoreSnapshot 30 = .ok (.getfield 57, 3) := by decide +kernel
theorem dX8_restoreSnapshot_33 : decode cX8_restoreSnapshot 33 = .ok (.aload_n 0, 1) := by decide +kernel
theorem dX8_restoreSnapshot_34 : decode cX8_restoreSnapshot 34 = .ok (.getfield 36, 3) := by decide +kernel
theorem dX8_restoreSnapshot_37 : decode cX8_restoreSnapshot 37 = .ok (.iload_n 1, 1) := by decide +kernel
theorem dX8_restoreSnapshot_38 : decode cX8_restoreSnapshot 38 = .ok (.aaload, 1) := by decide +kernel
theorem dX8_restoreSnapshot_39 : decode cX8_restoreSnapshot 39 = .ok (.invokevirtual 223, 3) := by decide +kernel
theorem dX8_restoreSnapshot_42 : decode cX8_restoreSnapshot 42 = .ok (.aload_n 0, 1) := by decide +kernel
theorem dX8_restoreSnapshot_43 : decode cX8_restoreSnapshot 43 = .ok (.getfield 23, 3) := by decide +kernel
theorem dX8_restoreSnapshot_46 : decode cX8_restoreSnapshot 46 = .ok (.invokevirtual 86, 3) := by decide +kernel
theorem dX8_restoreSnapshot_49 : decode cX8_restoreSnapshot 49 = .ok (.iconst 1, 1) := by decide +kernel
theorem dX8_restoreSnapshot_50 : decode cX8_restoreSnapshot 50 = .ok (.ireturn, 1) := by decide +kernel
theorem dX8_appendWord_0 : decode cX8_appendWord 0 = .ok (.bipush 24, 2) := by decide +kernel
theorem dX8_appendWord_2 : decode cX8_appendWord 2 = .ok (.istore_n 2, 1) := by decide +kernel
theorem dX8_appendWord_3 : decode cX8_appendWord 3 = .ok (.iload_n 2, 1) := by decide +kernel
theorem dX8_appendWord_4 : decode cX8_appendWord 4 = .ok (.ifCond .lt 42, 3) := by decide +kernel
theorem dX8_appendWord_7 : decode cX8_appendWord 7 = .ok (.aload_n 0, 1) := by decide +kernel
theorem dX8_appendWord_8 : decode cX8_appendWord 8 = .ok (.getfield 64, 3) := by decide +kernel
theorem dX8_appendWord_11 : decode cX8_appendWord 11 = .ok (.sipush 700, 3) := by decide +kernel
theorem dX8_appendWord_14 : decode cX8_appendWord 14 = .ok (.if_icmp .ge 32, 3) := by decide +kernel
theorem dX8_appendWord_17 : decode cX8_appendWord 17 = .ok (.aload_n 0, 1) := by decide +kernel
theorem dX8_appendWord_18 : decode cX8_appendWord 18 = .ok (.getfield 9, 3) := by decide +kernel
theorem dX8_appendWord_21 : decode cX8_appendWord 21 = .ok (.aload_n 0, 1) := by decide +kernel
theorem dX8_appendWord_22 : decode cX8_appendWord 22 = .ok (.getfield 64, 3) := by decide +kernel
theorem dX8_appendWord_25 : decode cX8_appendWord 25 = .ok (.iload_n 1, 1) := by decide +kernel
theorem dX8_appendWord_26 : decode cX8_appendWord 26 = .ok (.iload_n 2, 1) := by decide +kernel
theorem dX8_appendWord_27 : decode cX8_appendWord 27 = .ok (.ishr, 1) := by decide +kernel
theorem dX8_appendWord_28 : decode cX8_appendWord 28 = .ok (.i2b, 1) := by decide +kernel
theorem dX8_appendWord_29 : decode cX8_appendWord 29 = .ok (.bastore, 1) := by decide +kernel
theorem dX8_appendWord_30 : decode cX8_appendWord 30 = .ok (.aload_n 0, 1) := by decide +kernel
theorem dX8_appendWord_31 : decode cX8_appendWord 31 = .ok (.dup, 1) := by decide +kernel
theorem dX8_appendWord_32 : decode cX8_appendWord 32 = .ok (.getfield 64, 3) := by decide +kernel
theorem dX8_appendWord_35 : decode cX8_appendWord 35 = .ok (.iconst 1, 1) := by decide +kernel
theorem dX8_appendWord_36 : decode cX8_appendWord 36 = .ok (.iadd, 1) := by decide +kernel
theorem dX8_appendWord_37 : decode cX8_appendWord 37 = .ok (.putfield 64, 3) := by decide +kernel
theorem dX8_appendWord_40 : decode cX8_appendWord 40 = .ok (.iinc 2 (-8), 3) := by decide +kernel
theorem dX8_appendWord_43 : decode cX8_appendWord 43 = .ok (.goto (-40), 3) := by decide +kernel
theorem dX8_appendWord_46 : decode cX8_appendWord 46 = .ok (.return_, 1) := by decide +kernel
theorem dX8_checkStation_0 : decode cX8_checkStation 0 = .ok (.iload_n 1, 1) := by decide +kernel
theorem dX8_checkStation_1 : decode cX8_checkStation 1 = .ok (.ifCond .lt 14, 3) := by decide +kernel
theorem dX8_checkStation_4 : decode cX8_checkStation 4 = .ok (.iload_n 1, 1) := by decide +kernel
theorem dX8_checkStation_5 : decode cX8_checkStation 5 = .ok (.aload_n 0, 1) := by decide +kernel
theorem dX8_checkStation_6 : decode cX8_checkStation 6 = .ok (.getfield 47, 3) := by decide +kernel
theorem dX8_checkStation_9 : decode cX8_checkStation 9 = .ok (.getfield 89, 3) := by decide +kernel
theorem dX8_checkStation_12 : decode cX8_checkStation 12 = .ok (.if_icmp .lt 14, 3) := by decide +kernel
theorem dX8_checkStation_15 : decode cX8_checkStation 15 = .ok (.new 147, 3) := by decide +kernel
theorem dX8_checkStation_18 : decode cX8_checkStation 18 = .ok (.dup, 1) := by decide +kernel
theorem dX8_checkStation_19 : decode cX8_checkStation 19 = .ok (.ldc_w 273, 3) := by decide +kernel
theorem dX8_checkStation_22 : decode cX8_checkStation 22 = .ok (.invokespecial 151, 3) := by decide +kernel
theorem dX8_checkStation_25 : decode cX8_checkStation 25 = .ok (.athrow, 1) := by decide +kernel
theorem dX8_checkStation_26 : decode cX8_checkStation 26 = .ok (.return_, 1) := by decide +kernel
theorem dX8_checkTruck_0 : decode cX8_checkTruck 0 = .ok (.iload_n 1, 1) := by decide +kernel
theorem dX8_checkTruck_1 : decode cX8_checkTruck 1 = .ok (.ifCond .lt 14, 3) := by decide +kernel
theorem dX8_checkTruck_4 : decode cX8_checkTruck 4 = .ok (.iload_n 1, 1) := by decide +kernel
theorem dX8_checkTruck_5 : decode cX8_checkTruck 5 = .ok (.aload_n 0, 1) := by decide +kernel
theorem dX8_checkTruck_6 : decode cX8_checkTruck 6 = .ok (.getfield 47, 3) := by decide +kernel
theorem dX8_checkTruck_9 : decode cX8_checkTruck 9 = .ok (.getfield 92, 3) := by decide +kernel
theorem dX8_checkTruck_12 : decode cX8_checkTruck 12 = .ok (.if_icmp .lt 14, 3) := by decide +kernel
theorem dX8_checkTruck_15 : decode cX8_checkTruck 15 = .ok (.new 147, 3) := by decide +kernel
theorem dX8_checkTruck_18 : decode cX8_checkTruck 18 = .ok (.dup, 1) := by decide +kernel
theorem dX8_checkTruck_19 : decode cX8_checkTruck 19 = .ok (.ldc_w 275, 3) := by decide +kernel
theorem dX8_checkTruck_22 : decode cX8_checkTruck 22 = .ok (.invokespecial 151, 3) := by decide +kernel
theorem dX8_checkTruck_25 : decode cX8_checkTruck 25 = .ok (.athrow, 1) := by decide +kernel
theorem dX8_checkTruck_26 : decode cX8_checkTruck 26 = .ok (.return_, 1) := by decide +kernel
theorem dX8_checkParked_0 : decode cX8_checkParked 0 = .ok (.aload_n 0, 1) := by decide +kernel
theorem dX8_checkParked_1 : decode cX8_checkParked 1 = .ok (.getfield 57, 3) := by decide +kernel
theorem dX8_checkParked_4 : decode cX8_checkParked 4 = .ok (.getfield 173, 3) := by decide +kernel
theorem dX8_checkParked_7 : decode cX8_checkParked 7 = .ok (.iload_n 1, 1) := by decide +kernel
theorem dX8_checkParked_8 : decode cX8_checkParked 8 = .ok (.aaload, 1) := by decide +kernel
theorem dX8_checkParked_9 : decode cX8_checkParked 9 = .ok (.invokevirtual 176, 3) := by decide +kernel
theorem dX8_checkParked_12 : decode cX8_checkParked 12 = .ok (.ifCond .eq 14, 3) := by decide +kernel
theorem dX8_checkParked_15 : decode cX8_checkParked 15 = .ok (.new 233, 3) := by decide +kernel
theorem dX8_checkParked_18 : decode cX8_checkParked 18 = .ok (.dup, 1) := by decide +kernel
theorem dX8_checkParked_19 : decode cX8_checkParked 19 = .ok (.ldc_w 277, 3) := by decide +kernel
theorem dX8_checkParked_22 : decode cX8_checkParked 22 = .ok (.invokespecial 237, 3) := by decide +kernel
theorem dX8_checkParked_25 : decode cX8_checkParked 25 = .ok (.athrow, 1) := by decide +kernel
theorem dX8_checkParked_26 : decode cX8_checkParked 26 = .ok (.return_, 1) := by decide +kernel
theorem dX8_checkTotal_0 : decode cX8_checkTotal 0 = .ok (.iload_n 0, 1) := by decide +kernel
theorem dX8_checkTotal_1 : decode cX8_checkTotal 1 = .ok (.iconst 0, 1) := by decide +kernel
theorem dX8_checkTotal_2 : decode cX8_checkTotal 2 = .ok (.iconst 5, 1) := by decide +kernel
theorem dX8_checkTotal_3 : decode cX8_checkTotal 3 = .ok (.invokestatic 219, 3) := by decide +kernel
theorem dX8_checkTotal_6 : decode cX8_checkTotal 6 = .ok (.return_, 1) := by decide +kernel
theorem dX8_checkRange_0 : decode cX8_checkRange 0 = .ok (.iload_n 0, 1) := by decide +kernel
theorem dX8_checkRange_1 : decode cX8_checkRange 1 = .ok (.iload_n 1, 1) := by decide +kernel
theorem dX8_checkRange_2 : decode cX8_checkRange 2 = .ok (.if_icmp .lt 8, 3) := by decide +kernel
theorem dX8_checkRange_5 : decode cX8_checkRange 5 = .ok (.iload_n 0, 1) := by decide +kernel
theorem dX8_checkRange_6 : decode cX8_checkRange 6 = .ok (.iload_n 2, 1) := by decide +kernel
theorem dX8_checkRange_7 : decode cX8_checkRange 7 = .ok (.if_icmp .le 14, 3) := by decide +kernel
theorem dX8_checkRange_10 : decode cX8_checkRange 10 = .ok (.new 72, 3) := by decide +kernel
theorem dX8_checkRange_13 : decode cX8_checkRange 13 = .ok (.dup, 1) := by decide +kernel
theorem dX8_checkRange_14 : decode cX8_checkRange 14 = .ok (.ldc_w 279, 3) := by decide +kernel
theorem dX8_checkRange_17 : decode cX8_checkRange 17 = .ok (.invokespecial 76, 3) := by decide +kernel
theorem dX8_checkRange_20 : decode cX8_checkRange 20 = .ok (.athrow, 1) := by decide +kernel
theorem dX8_checkRange_21 : decode cX8_checkRange 21 = .ok (.return_, 1) := by decide +kernel
theorem dX9_init_0 : decode cX9_init 0 = .ok (.aload_n 0, 1) := by decide +kernel
theorem dX9_init_1 : decode cX9_init 1 = .ok (.invokespecial 1, 3) := by decide +kernel
theorem dX9_init_4 : decode cX9_init 4 = .ok (.aload_n 0, 1) := by decide +kernel
theorem dX9_init_5 : decode cX9_init 5 = .ok (.sipush 700, 3) := by decide +kernel
theorem dX9_init_8 : decode cX9_init 8 = .ok (.newarray .byte, 2) := by decide +kernel
theorem dX9_init_10 : decode cX9_init 10 = .ok (.putfield 7, 3) := by decide +kernel
theorem dX9_init_13 : decode cX9_init 13 = .ok (.aload_n 0, 1) := by decide +kernel
theorem dX9_init_14 : decode cX9_init 14 = .ok (.sipush 138, 3) := by decide +kernel
theorem dX9_init_17 : decode cX9_init 17 = .ok (.newarray .int, 2) := by decide +kernel
theorem dX9_init_19 : decode cX9_init 19 = .ok (.putfield 13, 3) := by decide +kernel
theorem dX9_init_22 : decode cX9_init 22 = .ok (.aload_n 0, 1) := by decide +kernel
theorem dX9_init_23 : decode cX9_init 23 = .ok (.sipush 138, 3) := by decide +kernel
theorem dX9_init_26 : decode cX9_init 26 = .ok (.newarray .int, 2) := by decide +kernel
theorem dX9_init_28 : decode cX9_init 28 = .ok (.putfield 17, 3) := by decide +kernel
theorem dX9_init_31 : decode cX9_init 31 = .ok (.aload_n 0, 1) := by decide +kernel
theorem dX9_init_32 : decode cX9_init 32 = .ok (.sipush 700, 3) := by decide +kernel
theorem dX9_init_35 : decode cX9_init 35 = .ok (.newarray .int, 2) := by decide +kernel
theorem dX9_init_37 : decode cX9_init 37 = .ok (.putfield 20, 3) := by decide +kernel
theorem dX9_init_40 : decode cX9_init 40 = .ok (.aload_n 0, 1) := by decide +kernel
theorem dX9_init_41 : decode cX9_init 41 = .ok (.sipush 700, 3) := by decide +kernel
theorem dX9_init_44 : decode cX9_init 44 = .ok (.newarray .int, 2) := by decide +kernel
theorem dX9_init_46 : decode cX9_init 46 = .ok (.putfield 23, 3) := by decide +kernel
theorem dX9_init_49 : decode cX9_init 49 = .ok (.aload_n 0, 1) := by decide +kernel
theorem dX9_init_50 : decode cX9_init 50 = .ok (.sipush 700, 3) := by decide +kernel
theorem dX9_init_53 : decode cX9_init 53 = .ok (.newarray .int, 2) := by decide +kernel
theorem dX9_init_55 : decode cX9_init 55 = .ok (.putfield 26, 3) := by decide +kernel
theorem dX9_init_58 : decode cX9_init 58 = .ok (.aload_n 0, 1) := by decide +kernel
theorem dX9_init_59 : decode cX9_init 59 = .ok (.sipush 700, 3) := by decide +kernel
theorem dX9_init_62 : decode cX9_init 62 = .ok (.newarray .int, 2) := by decide +kernel
theorem dX9_init_64 : decode cX9_init 64 = .ok (.putfield 29, 3) := by decide +kernel
theorem dX9_init_67 : decode cX9_init 67 = .ok (.aload_n 0, 1) := by decide +kernel
theorem dX9_init_68 : decode cX9_init 68 = .ok (.sipush 3277, 3) := by decide +kernel
theorem dX9_init_71 : decode cX9_init 71 = .ok (.newarray .int, 2) := by decide +kernel
theorem dX9_init_73 : decode cX9_init 73 = .ok (.putfield 32, 3) := by decide +kernel
theorem dX9_init_76 : decode cX9_init 76 = .ok (.aload_n 0, 1) := by decide +kernel
theorem dX9_init_77 : decode cX9_init 77 = .ok (.ldc 35, 2) := by decide +kernel
theorem dX9_init_79 : decode cX9_init 79 = .ok (.newarray .int, 2) := by decide +kernel
theorem dX9_init_81 : decode cX9_init 81 = .ok (.putfield 36, 3) := by decide +kernel
theorem dX9_init_84 : decode cX9_init 84 = .ok (.aload_n 0, 1) := by decide +kernel
theorem dX9_init_85 : decode cX9_init 85 = .ok (.sipush 6554, 3) := by decide +kernel
theorem dX9_init_88 : decode cX9_init 88 = .ok (.newarray .int, 2) := by decide +kernel
theorem dX9_init_90 : decode cX9_init 90 = .ok (.putfield 39, 3) := by decide +kernel
theorem dX9_init_93 : decode cX9_init 93 = .ok (.aload_n 0, 1) := by decide +kernel
theorem dX9_init_94 : decode cX9_init 94 = .ok (.iconst 2, 1) := by decide +kernel
theorem dX9_init_95 : decode cX9_init 95 = .ok (.newarray .boolean, 2) := by decide +kernel
theorem dX9_init_97 : decode cX9_init 97 = .ok (.putfield 42, 3) := by decide +kernel
theorem dX9_init_100 : decode cX9_init 100 = .ok (.aload_n 0, 1) := by decide +kernel
theorem dX9_init_101 : decode cX9_init 101 = .ok (.sipush 3277, 3) := by decide +kernel
theorem dX9_init_104 : decode cX9_init 104 = .ok (.newarray .int, 2) := by decide +kernel
theorem dX9_init_106 : decode cX9_init 106 = .ok (.putfield 46, 3) := by decide +kernel
theorem dX9_init_109 : decode cX9_init 109 = .ok (.aload_n 0, 1) := by decide +kernel
theorem dX9_init_110 : decode cX9_init 110 = .ok (.bipush 8, 2) := by decide +kernel
theorem dX9_init_112 : decode cX9_init 112 = .ok (.newarray .int, 2) := by decide +kernel
theorem dX9_init_114 : decode cX9_init 114 = .ok (.putfield 49, 3) := by decide +kernel
theorem dX9_init_117 : decode cX9_init 117 = .ok (.aload_n 0, 1) := by decide +kernel
theorem dX9_init_118 : decode cX9_init 118 = .ok (.bipush 8, 2) := by decide +kernel
theorem dX9_init_120 : decode cX9_init 120 = .ok (.newarray .int, 2) := by decide +kernel
theorem dX9_init_122 : decode cX9_init 122 = .ok (.putfield 52, 3) := by decide +kernel
theorem dX9_init_125 : decode cX9_init 125 = .ok (.aload_n 0, 1) := by decide +kernel
theorem dX9_init_126 : decode cX9_init 126 = .ok (.bipush 9, 2) := by decide +kernel
theorem dX9_init_128 : decode cX9_init 128 = .ok (.newarray .int, 2) := by decide +kernel
theorem dX9_init_130 : decode cX9_init 130 = .ok (.putfield 55, 3) := by decide +kernel
theorem dX9_init_133 : decode cX9_init 133 = .ok (.aload_n 0, 1) := by decide +kernel
theorem dX9_init_134 : decode cX9_init 134 = .ok (.bipush 9, 2) := by decide +kernel
theorem dX9_init_136 : decode cX9_init 136 = .ok (.newarray .int, 2) := by decide +kernel
theorem dX9_init_138 : decode cX9_init 138 = .ok (.putfield 58, 3) := by decide +kernel
theorem dX9_init_141 : decode cX9_init 141 = .ok (.aload_n 0, 1) := by decide +kernel
theorem dX9_init_142 : decode cX9_init 142 = .ok (.bipush 9, 2) := by decide +kernel
theorem dX9_init_144 : decode cX9_init 144 = .ok (.newarray .int, 2) := by decide +kernel
theorem dX9_init_146 : decode cX9_init 146 = .ok (.putfield 61, 3) := by decide +kernel
theorem dX9_init_149 : decode cX9_init 149 = .ok (.aload_n 0, 1) := by decide +kernel
theorem dX9_init_150 : decode cX9_init 150 = .ok (.bipush 9, 2) := by decide +kernel
theorem dX9_init_152 : decode cX9_init 152 = .ok (.newarray .int, 2) := by decide +kernel
theorem dX9_init_154 : decode cX9_init 154 = .ok (.putfield 64, 3) := by decide +kernel
theorem dX9_init_157 : decode cX9_init 157 = .ok (.aload_n 0, 1) := by decide +kernel
theorem dX9_init_158 : decode cX9_init 158 = .ok (.bipush 9, 2) := by decide +kernel
theorem dX9_init_160 : decode cX9_init 160 = .ok (.newarray .int, 2) := by decide +kernel
theorem dX9_init_162 : decode cX9_init 162 = .ok (.putfield 67, 3) := by decide +kernel
theorem dX9_init_165 : decode cX9_init 165 = .ok (.aload_n 0, 1) := by decide +kernel
theorem dX9_init_166 : decode cX9_init 166 = .ok (.invokevirtual 70, 3) := by decide +kernel
theorem dX9_init_169 : decode cX9_init 169 = .ok (.aload_n 0, 1) := by decide +kernel
theorem dX9_init_170 : decode cX9_init 170 = .ok (.invokevirtual 73, 3) := by decide +kernel
theorem dX9_init_173 : decode cX9_init 173 = .ok (.return_, 1) := by decide +kernel
theorem dX9_thrown_0 : decode cX9_thrown 0 = .ok (.aload_n 0, 1) := by decide +kernel
theorem dX9_thrown_1 : decode cX9_thrown 1 = .ok (.getfield 76, 3) := by decide +kernel
theorem dX9_thrown_4 : decode cX9_thrown 4 = .ok (.ireturn, 1) := by decide +kernel
theorem dX9_within_0 : decode cX9_within 0 = .ok (.iload_n 0, 1) := by decide +kernel
theorem dX9_within_1 : decode cX9_within 1 = .ok (.iload_n 1, 1) := by decide +kernel
theorem dX9_within_2 : decode cX9_within 2 = .ok (.if_icmp .lt 12, 3) := by decide +kernel
theorem dX9_within_5 : decode cX9_within 5 = .ok (.iload_n 0, 1) := by decide +kernel
theorem dX9_within_6 : decode cX9_within 6 = .ok (.iload_n 2, 1) := by decide +kernel
theorem dX9_within_7 : decode cX9_within 7 = .ok (.if_icmp .gt 7, 3) := by decide +kernel
theorem dX9_within_10 : decode cX9_within 10 = .ok (.iconst 1, 1) := by decide +kernel
theorem dX9_within_11 : decode cX9_within 11 = .ok (.goto 4, 3) := by decide +kernel
theorem dX9_within_14 : decode cX9_within 14 = .ok (.iconst 0, 1) := by decide +kernel
theorem dX9_within_15 : decode cX9_within 15 = .ok (.ireturn, 1) := by decide +kernel
theorem dX9_absolute_0 : decode cX9_absolute 0 = .ok (.iload_n 0, 1) := by decide +kernel
theorem dX9_absolute_1 : decode cX9_absolute 1 = .ok (.ifCond .ge 8, 3) := by decide +kernel
theorem dX9_absolute_4 : decode cX9_absolute 4 = .ok (.iload_n 0, 1) := by decide +kernel
theorem dX9_absolute_5 : decode cX9_absolute 5 = .ok (.ineg, 1) := by decide +kernel
theorem dX9_absolute_6 : decode cX9_absolute 6 = .ok (.goto 4, 3) := by decide +kernel
theorem dX9_absolute_9 : decode cX9_absolute 9 = .ok (.iload_n 0, 1) := by decide +kernel
theorem dX9_absolute_10 : decode cX9_absolute 10 = .ok (.ireturn, 1) := by decide +kernel
theorem dX9_fail_0 : decode cX9_fail 0 = .ok (.aload_n 0, 1) := by decide +kernel
theorem dX9_fail_1 : decode cX9_fail 1 = .ok (.iload_n 1, 1) := by decide +kernel
theorem dX9_fail_2 : decode cX9_fail 2 = .ok (.putfield 76, 3) := by decide +kernel
theorem dX9_fail_5 : decode cX9_fail 5 = .ok (.iconst 0, 1) := by decide +kernel
theorem dX9_fail_6 : decode cX9_fail 6 = .ok (.ireturn, 1) := by decide +kernel
theorem dX9_told_0 : decode cX9_told 0 = .ok (.aload_n 0, 1) := by decide +kernel
theorem dX9_told_1 : decode cX9_told 1 = .ok (.iconst 0, 1) := by decide +kernel
theorem dX9_told_2 : decode cX9_told 2 = .ok (.putfield 76, 3) := by decide +kernel
theorem dX9_told_5 : decode cX9_told 5 = .ok (.iload_n 1, 1) := by decide +kernel
theorem dX9_told_6 : decode cX9_told 6 = .ok (.ireturn, 1) := by decide +kernel
theorem dX9_appendInt_0 : decode cX9_appendInt 0 = .ok (.bipush 24, 2) := by decide +kernel
theorem dX9_appendInt_2 : decode cX9_appendInt 2 = .ok (.istore_n 2, 1) := by decide +kernel
theorem dX9_appendInt_3 : decode cX9_appendInt 3 = .ok (.iload_n 2, 1) := by decide +kernel
theorem dX9_appendInt_4 : decode cX9_appendInt 4 = .ok (.ifCond .lt 32, 3) := by decide +kernel
theorem dX9_appendInt_7 : decode cX9_appendInt 7 = .ok (.aload_n 0, 1) := by decide +kernel
theorem dX9_appendInt_8 : decode cX9_appendInt 8 = .ok (.getfield 7, 3) := by decide +kernel
theorem dX9_appendInt_11 : decode cX9_appendInt 11 = .ok (.aload_n 0, 1) := by decide +kernel
theorem dX9_appendInt_12 : decode cX9_appendInt 12 = .ok (.getfield 80, 3) := by decide +kernel
theorem dX9_appendInt_15 : decode cX9_appendInt 15 = .ok (.iload_n 1, 1) := by decide +kernel
theorem dX9_appendInt_16 : decode cX9_appendInt 16 = .ok (.iload_n 2, 1) := by decide +kernel
theorem dX9_appendInt_17 : decode cX9_appendInt 17 = .ok (.ishr, 1) := by decide +kernel
theorem dX9_appendInt_18 : decode cX9_appendInt 18 = .ok (.i2b, 1) := by decide +kernel
theorem dX9_appendInt_19 : decode cX9_appendInt 19 = .ok (.bastore, 1) := by decide +kernel
theorem dX9_appendInt_20 : decode cX9_appendInt 20 = .ok (.aload_n 0, 1) := by decide +kernel
theorem dX9_appendInt_21 : decode cX9_appendInt 21 = .ok (.dup, 1) := by decide +kernel
theorem dX9_appendInt_22 : decode cX9_appendInt 22 = .ok (.getfield 80, 3) := by decide +kernel
theorem dX9_appendInt_25 : decode cX9_appendInt 25 = .ok (.iconst 1, 1) := by decide +kernel
theorem dX9_appendInt_26 : decode cX9_appendInt 26 = .ok (.iadd, 1) := by decide +kernel
theorem dX9_appendInt_27 : decode cX9_appendInt 27 = .ok (.putfield 80, 3) := by decide +kernel
theorem dX9_appendInt_30 : decode cX9_appendInt 30 = .ok (.iinc 2 (-8), 3) := by decide +kernel
theorem dX9_appendInt_33 : decode cX9_appendInt 33 = .ok (.goto (-30), 3) := by decide +kernel
theorem dX9_appendInt_36 : decode cX9_appendInt 36 = .ok (.return_, 1) := by decide +kernel
theorem dX9_append_0 : decode cX9_append 0 = .ok (.aload_n 0, 1) := by decide +kernel
theorem dX9_append_1 : decode cX9_append 1 = .ok (.iconst 0, 1) := by decide +kernel
theorem dX9_append_2 : decode cX9_append 2 = .ok (.putfield 76, 3) := by decide +kernel
theorem dX9_append_5 : decode cX9_append 5 = .ok (.aload_n 0, 1) := by decide +kernel
theorem dX9_append_6 : decode cX9_append 6 = .ok (.getfield 80, 3) := by decide +kernel
theorem dX9_append_9 : decode cX9_append 9 = .ok (.bipush 20, 2) := by decide +kernel
theorem dX9_append_11 : decode cX9_append 11 = .ok (.iadd, 1) := by decide +kernel
theorem dX9_append_12 : decode cX9_append 12 = .ok (.sipush 700, 3) := by decide +kernel
theorem dX9_append_15 : decode cX9_append 15 = .ok (.if_icmp .le 5, 3) := by decide +kernel
theorem dX9_append_18 : decode cX9_append 18 = .ok (.iconst (-1), 1) := by decide +kernel
theorem dX9_append_19 : decode cX9_append 19 = .ok (.ireturn, 1) := by decide +kernel
theorem dX9_append_20 : decode cX9_append 20 = .ok (.aload_n 0, 1) := by decide +kernel
theorem dX9_append_21 : decode cX9_append 21 = .ok (.iload_n 1, 1) := by decide +kernel
theorem dX9_append_22 : decode cX9_append 22 = .ok (.invokevirtual 83, 3) := by decide +kernel
theorem dX9_append_25 : decode cX9_append 25 = .ok (.aload_n 0, 1) := by decide +kernel
theorem dX9_append_26 : decode cX9_append 26 = .ok (.iload_n 2, 1) := by decide +kernel
theorem dX9_append_27 : decode cX9_append 27 = .ok (.invokevirtual 83, 3) := by decide +kernel
theorem dX9_append_30 : decode cX9_append 30 = .ok (.aload_n 0, 1) := by decide +kernel
theorem dX9_append_31 : decode cX9_append 31 = .ok (.iload_n 3, 1) := by decide +kernel
theorem dX9_append_32 : decode cX9_append 32 = .ok (.invokevirtual 83, 3) := by decide +kernel
theorem dX9_append_35 : decode cX9_append 35 = .ok (.aload_n 0, 1) := by decide +kernel
theorem dX9_append_36 : decode cX9_append 36 = .ok (.iload 4, 2) := by decide +kernel
theorem dX9_append_38 : decode cX9_append 38 = .ok (.invokevirtual 83, 3) := by decide +kernel
theorem dX9_append_41 : decode cX9_append 41 = .ok (.aload_n 0, 1) := by decide +kernel
theorem dX9_append_42 : decode cX9_append 42 = .ok (.iload 5, 2) := by decide +kernel
theorem dX9_append_44 : decode cX9_append 44 = .ok (.invokevirtual 83, 3) := by decide +kernel
theorem dX9_append_47 : decode cX9_append 47 = .ok (.aload_n 0, 1) := by decide +kernel
theorem dX9_append_48 : decode cX9_append 48 = .ok (.getfield 80, 3) := by decide +kernel
theorem dX9_append_51 : decode cX9_append 51 = .ok (.ireturn, 1) := by decide +kernel
theorem dX9_byteAt_0 : decode cX9_byteAt 0 = .ok (.iload_n 1, 1) := by decide +kernel
theorem dX9_byteAt_1 : decode cX9_byteAt 1 = .ok (.aload_n 0, 1) := by decide +kernel
theorem dX9_byteAt_2 : decode cX9_byteAt 2 = .ok (.getfield 87, 3) := by decide +kernel
theorem dX9_byteAt_5 : decode cX9_byteAt 5 = .ok (.if_icmp .ge 16, 3) := by decide +kernel
theorem dX9_byteAt_8 : decode cX9_byteAt 8 = .ok (.aload_n 0, 1) := by decide +kernel
theorem dX9_byteAt_9 : decode cX9_byteAt 9 = .ok (.getfield 7, 3) := by decide +kernel
theorem dX9_byteAt_12 : decode cX9_byteAt 12 = .ok (.iload_n 1, 1) := by decide +kernel
theorem dX9_byteAt_13 : decode cX9_byteAt 13 = .ok (.baload, 1) := by decide +kernel
theorem dX9_byteAt_14 : decode cX9_byteAt 14 = .ok (.sipush 255, 3) := by decide +kernel
theorem dX9_byteAt_17 : decode cX9_byteAt 17 = .ok (.iand, 1) := by decide +kernel
theorem dX9_byteAt_18 : decode cX9_byteAt 18 = .ok (.goto 4, 3) := by decide +kernel
theorem dX9_byteAt_21 : decode cX9_byteAt 21 = .ok (.iconst (-1), 1) := by decide +kernel
theorem dX9_byteAt_22 : decode cX9_byteAt 22 = .ok (.ireturn, 1) := by decide +kernel
theorem dX9_nextToken_0 : decode cX9_nextToken 0 = .ok (.aload_n 0, 1) := by decide +kernel
theorem dX9_nextToken_1 : decode cX9_nextToken 1 = .ok (.aload_n 0, 1) := by decide +kernel
theorem dX9_nextToken_2 : decode cX9_nextToken 2 = .ok (.getfield 90, 3) := by decide +kernel
theorem dX9_nextToken_5 : decode cX9_nextToken 5 = .ok (.putfield 93, 3) := by decide +kernel
theorem dX9_nextToken_8 : decode cX9_nextToken 8 = .ok (.aload_n 0, 1) := by decide +kernel
theorem dX9_nextToken_9 : decode cX9_nextToken 9 = .ok (.aload_n 0, 1) := by decide +kernel
theorem dX9_nextToken_10 : decode cX9_nextToken 10 = .ok (.getfield 93, 3) := by decide +kernel
theorem dX9_nextToken_13 : decode cX9_nextToken 13 = .ok (.invokevirtual 96, 3) := by decide +kernel
theorem dX9_nextToken_16 : decode cX9_nextToken 16 = .ok (.bipush 32, 2) := by decide +kernel
theorem dX9_nextToken_18 : decode cX9_nextToken 18 = .ok (.if_icmp .eq 16, 3) := by decide +kernel
theorem dX9_nextToken_21 : decode cX9_nextToken 21 = .ok (.aload_n 0, 1) := by decide +kernel
theorem dX9_nextToken_22 : decode cX9_nextToken 22 = .ok (.aload_n 0, 1) := by decide +kernel
theorem dX9_nextToken_23 : decode cX9_nextToken 23 = .ok (.getfield 93, 3) := by decide +kernel
theorem dX9_nextToken_26 : decode cX9_nextToken 26 = .ok (.invokevirtual 96, 3) := by decide +kernel
theorem dX9_nextToken_29 : decode cX9_nextToken 29 = .ok (.bipush 10, 2) := by decide +kernel
theorem dX9_nextToken_31 : decode cX9_nextToken 31 = .ok (.if_icmp .ne 16, 3) := by decide +kernel
theorem dX9_nextToken_34 : decode cX9_nextToken 34 = .ok (.aload_n 0, 1) := by decide +kernel
theorem dX9_nextToken_35 : decode cX9_nextToken 35 = .ok (.dup, 1) := by decide +kernel
theorem dX9_nextToken_36 : decode cX9_nextToken 36 = .ok (.getfield 93, 3) := by decide +kernel
theorem dX9_nextToken_39 : decode cX9_nextToken 39 = .ok (.iconst 1, 1) := by decide +kernel
theorem dX9_nextToken_40 : decode cX9_nextToken 40 = .ok (.iadd, 1) := by decide +kernel
theorem dX9_nextToken_41 : decode cX9_nextToken 41 = .ok (.putfield 93, 3) := by decide +kernel
theorem dX9_nextToken_44 : decode cX9_nextToken 44 = .ok (.goto (-36), 3) := by decide +kernel
theorem dX9_nextToken_47 : decode cX9_nextToken 47 = .ok (.aload_n 0, 1) := by decide +kernel
theorem dX9_nextToken_48 : decode cX9_nextToken 48 = .ok (.aload_n 0, 1) := by decide +kernel
theorem dX9_nextToken_49 : decode cX9_nextToken 49 = .ok (.getfield 93, 3) := by decide +kernel
theorem dX9_nextToken_52 : decode cX9_nextToken 52 = .ok (.invokevirtual 96, 3) := by decide +kernel
theorem dX9_nextToken_55 : decode cX9_nextToken 55 = .ok (.istore_n 1, 1) := by decide +kernel
theorem dX9_nextToken_56 : decode cX9_nextToken 56 = .ok (.aload_n 0, 1) := by decide +kernel
theorem dX9_nextToken_57 : decode cX9_nextToken 57 = .ok (.aload_n 0, 1) := by decide +kernel
theorem dX9_nextToken_58 : decode cX9_nextToken 58 = .ok (.getfield 93, 3) := by decide +kernel
theorem dX9_nextToken_61 : decode cX9_nextToken 61 = .ok (.putfield 90, 3) := by decide +kernel
theorem dX9_nextToken_64 : decode cX9_nextToken 64 = .ok (.aload_n 0, 1) := by decide +kernel
theorem dX9_nextToken_65 : decode cX9_nextToken 65 = .ok (.iconst 3, 1) := by decide +kernel
theorem dX9_nextToken_66 : decode cX9_nextToken 66 = .ok (.putfield 100, 3) := by decide +kernel
theorem dX9_nextToken_69 : decode cX9_nextToken 69 = .ok (.iload_n 1, 1) := by decide +kernel
theorem dX9_nextToken_70 : decode cX9_nextToken 70 = .ok (.iconst (-1), 1) := by decide +kernel
theorem dX9_nextToken_71 : decode cX9_nextToken 71 = .ok (.if_icmp .ne 11, 3) := by decide +kernel
theorem dX9_nextToken_74 : decode cX9_nextToken 74 = .ok (.aload_n 0, 1) := by decide +kernel
theorem dX9_nextToken_75 : decode cX9_nextToken 75 = .ok (.iconst 0, 1) := by decide +kernel
theorem dX9_nextToken_76 : decode cX9_nextToken 76 = .ok (.putfield 100, 3) := by decide +kernel
theorem dX9_nextToken_79 : decode cX9_nextToken 79 = .ok (.goto 234, 3) := by decide +kernel
theorem dX9_nextToken_82 : decode cX9_nextToken 82 = .ok (.iload_n 1, 1) := by decide +kernel
theorem dX9_nextToken_83 : decode cX9_nextToken 83 = .ok (.bipush 97, 2) := by decide +kernel
theorem dX9_nextToken_85 : decode cX9_nextToken 85 = .ok (.bipush 122, 2) := by decide +kernel
theorem dX9_nextToken_87 : decode cX9_nextToken 87 = .ok (.invokestatic 103, 3) := by decide +kernel
theorem dX9_nextToken_90 : decode cX9_nextToken 90 = .ok (.ifCond .eq 60, 3) := by decide +kernel
theorem dX9_nextToken_93 : decode cX9_nextToken 93 = .ok (.aload_n 0, 1) := by decide +kernel
theorem dX9_nextToken_94 : decode cX9_nextToken 94 = .ok (.aload_n 0, 1) := by decide +kernel
theorem dX9_nextToken_95 : decode cX9_nextToken 95 = .ok (.getfield 90, 3) := by decide +kernel
theorem dX9_nextToken_98 : decode cX9_nextToken 98 = .ok (.invokevirtual 96, 3) := by decide +kernel
theorem dX9_nextToken_101 : decode cX9_nextToken 101 = .ok (.bipush 97, 2) := by decide +kernel
theorem dX9_nextToken_103 : decode cX9_nextToken 103 = .ok (.bipush 122, 2) := by decide +kernel
theorem dX9_nextToken_105 : decode cX9_nextToken 105 = .ok (.invokestatic 103, 3) := by decide +kernel
theorem dX9_nextToken_108 : decode cX9_nextToken 108 = .ok (.ifCond .eq 16, 3) := by decide +kernel
theorem dX9_nextToken_111 : decode cX9_nextToken 111 = .ok (.aload_n 0, 1) := by decide +kernel
theorem dX9_nextToken_112 : decode cX9_nextToken 112 = .ok (.dup, 1) := by decide +kernel
theorem dX9_nextToken_113 : decode cX9_nextToken 113 = .ok (.getfield 90, 3) := by decide +kernel
theorem dX9_nextToken_116 : decode cX9_nextToken 116 = .ok (.iconst 1, 1) := by decide +kernel
theorem dX9_nextToken_117 : decode cX9_nextToken 117 = .ok (.iadd, 1) := by decide +kernel
theorem dX9_nextToken_118 : decode cX9_nextToken 118 = .ok (.putfield 90, 3) := by decide +kernel
theorem dX9_nextToken_121 : decode cX9_nextToken 121 = .ok (.goto (-28), 3) := by decide +kernel
theorem dX9_nextToken_124 : decode cX9_nextToken 124 = .ok (.aload_n 0, 1) := by decide +kernel
theorem dX9_nextToken_125 : decode cX9_nextToken 125 = .ok (.aload_n 0, 1) := by decide +kernel
theorem dX9_nextToken_126 : decode cX9_nextToken 126 = .ok (.getfield 90, 3) := by decide +kernel
theorem dX9_nextToken_129 : decode cX9_nextToken 129 = .ok (.aload_n 0, 1) := by decide +kernel
theorem dX9_nextToken_130 : decode cX9_nextToken 130 = .ok (.getfield 93, 3) := by decide +kernel
theorem dX9_nextToken_133 : decode cX9_nextToken 133 = .ok (.isub, 1) := by decide +kernel
theorem dX9_nextToken_134 : decode cX9_nextToken 134 = .ok (.bipush 8, 2) := by decide +kernel
theorem dX9_nextToken_136 : decode cX9_nextToken 136 = .ok (.if_icmp .le 7, 3) := by decide +kernel
theorem dX9_nextToken_139 : decode cX9_nextToken 139 = .ok (.iconst 3, 1) := by decide +kernel
theorem dX9_nextToken_140 : decode cX9_nextToken 140 = .ok (.goto 4, 3) := by decide +kernel
theorem dX9_nextToken_143 : decode cX9_nextToken 143 = .ok (.iconst 1, 1) := by decide +kernel
theorem dX9_nextToken_144 : decode cX9_nextToken 144 = .ok (.putfield 100, 3) := by decide +kernel
theorem dX9_nextToken_147 : decode cX9_nextToken 147 = .ok (.goto 166, 3) := by decide +kernel
theorem dX9_nextToken_150 : decode cX9_nextToken 150 = .ok (.iload_n 1, 1) := by decide +kernel
theorem dX9_nextToken_151 : decode cX9_nextToken 151 = .ok (.bipush 48, 2) := by decide +kernel
theorem dX9_nextToken_153 : decode cX9_nextToken 153 = .ok (.bipush 57, 2) := by decide +kernel
theorem dX9_nextToken_155 : decode cX9_nextToken 155 = .ok (.invokestatic 103, 3) := by decide +kernel
theorem dX9_nextToken_158 : decode cX9_nextToken 158 = .ok (.ifCond .eq 107, 3) := by decide +kernel
theorem dX9_nextToken_161 : decode cX9_nextToken 161 = .ok (.aload_n 0, 1) := by decide +kernel
theorem dX9_nextToken_162 : decode cX9_nextToken 162 = .ok (.iconst 0, 1) := by decide +kernel
theorem dX9_nextToken_163 : decode cX9_nextToken 163 = .ok (.putfield 107, 3) := by decide +kernel
theorem dX9_nextToken_166 : decode cX9_nextToken 166 = .ok (.aload_n 0, 1) := by decide +kernel
theorem dX9_nextToken_167 : decode cX9_nextToken 167 = .ok (.aload_n 0, 1) := by decide +kernel
theorem dX9_nextToken_168 : decode cX9_nextToken 168 = .ok (.getfield 90, 3) := by decide +kernel
theorem dX9_nextToken_171 : decode cX9_nextToken 171 = .ok (.invokevirtual 96, 3) := by decide +kernel
theorem dX9_nextToken_174 : decode cX9_nextToken 174 = .ok (.bipush 48, 2) := by decide +kernel
theorem dX9_nextToken_176 : decode cX9_nextToken 176 = .ok (.bipush 57, 2) := by decide +kernel
theorem dX9_nextToken_178 : decode cX9_nextToken 178 = .ok (.invokestatic 103, 3) := by decide +kernel
theorem dX9_nextToken_181 : decode cX9_nextToken 181 = .ok (.ifCond .eq 59, 3) := by decide +kernel
theorem dX9_nextToken_184 : decode cX9_nextToken 184 = .ok (.aload_n 0, 1) := by decide +kernel
theorem dX9_nextToken_185 : decode cX9_nextToken 185 = .ok (.aload_n 0, 1) := by decide +kernel
theorem dX9_nextToken_186 : decode cX9_nextToken 186 = .ok (.getfield 90, 3) := by decide +kernel
theorem dX9_nextToken_189 : decode cX9_nextToken 189 = .ok (.aload_n 0, 1) := by decide +kernel
theorem dX9_nextToken_190 : decode cX9_nextToken 190 = .ok (.getfield 93, 3) := by decide +kernel
theorem dX9_nextToken_193 : decode cX9_nextToken 193 = .ok (.isub, 1) := by decide +kernel
theorem dX9_nextToken_194 : decode cX9_nextToken 194 = .ok (.iconst 4, 1) := by decide +kernel
theorem dX9_nextToken_195 : decode cX9_nextToken 195 = .ok (.if_icmp .ge 25, 3) := by decide +kernel
theorem dX9_nextToken_198 : decode cX9_nextToken 198 = .ok (.bipush 10, 2) := by decide +kernel
theorem dX9_nextToken_200 : decode cX9_nextToken 200 = .ok (.aload_n 0, 1) := by decide +kernel
theorem dX9_nextToken_201 : decode cX9_nextToken 201 = .ok (.getfield 107, 3) := by decide +kernel
theorem dX9_nextToken_204 : decode cX9_nextToken 204 = .ok (.imul, 1) := by decide +kernel
theorem dX9_nextToken_205 : decode cX9_nextToken 205 = .ok (.aload_n 0, 1) := by decide +kernel
theorem dX9_nextToken_206 : decode cX9_nextToken 206 = .ok (.aload_n 0, 1) := by decide +kernel
theorem dX9_nextToken_207 : decode cX9_nextToken 207 = .ok (.getfield 90, 3) := by decide +kernel
theorem dX9_nextToken_210 : decode cX9_nextToken 210 = .ok (.invokevirtual 96, 3) := by decide +kernel
theorem dX9_nextToken_213 : decode cX9_nextToken 213 = .ok (.iadd, 1) := by decide +kernel
theorem dX9_nextToken_214 : decode cX9_nextToken 214 = .ok (.bipush 48, 2) := by decide +kernel
theorem dX9_nextToken_216 : decode cX9_nextToken 216 = .ok (.isub, 1) := by decide +kernel
theorem dX9_nextToken_217 : decode cX9_nextToken 217 = .ok (.goto 7, 3) := by decide +kernel
theorem dX9_nextToken_220 : decode cX9_nextToken 220 = .ok (.aload_n 0, 1) := by decide +kernel
theorem dX9_nextToken_221 : decode cX9_nextToken 221 = .ok (.getfield 107, 3) := by decide +kernel
theorem dX9_nextToken_224 : decode cX9_nextToken 224 = .ok (.putfield 107, 3) := by decide +kernel
theorem dX9_nextToken_227 : decode cX9_nextToken 227 = .ok (.aload_n 0, 1) := by decide +kernel
theorem dX9_nextToken_228 : decode cX9_nextToken 228 = .ok (.dup, 1) := by decide +kernel
theorem dX9_nextToken_229 : decode cX9_nextToken 229 = .ok (.getfield 90, 3) := by decide +kernel
theorem dX9_nextToken_232 : decode cX9_nextToken 232 = .ok (.iconst 1, 1) := by decide +kernel
theorem dX9_nextToken_233 : decode cX9_nextToken 233 = .ok (.iadd, 1) := by decide +kernel
theorem dX9_nextToken_234 : decode cX9_nextToken 234 = .ok (.putfield 90, 3) := by decide +kernel
theorem dX9_nextToken_237 : decode cX9_nextToken 237 = .ok (.goto (-71), 3) := by decide +kernel
theorem dX9_nextToken_240 : decode cX9_nextToken 240 = .ok (.aload_n 0, 1) := by decide +kernel
theorem dX9_nextToken_241 : decode cX9_nextToken 241 = .ok (.aload_n 0, 1) := by decide +kernel
theorem dX9_nextToken_242 : decode cX9_nextToken 242 = .ok (.getfield 90, 3) := by decide +kernel
theorem dX9_nextToken_245 : decode cX9_nextToken 245 = .ok (.aload_n 0, 1) := by decide +kernel
theorem dX9_nextToken_246 : decode cX9_nextToken 246 = .ok (.getfield 93, 3) := by decide +kernel
theorem dX9_nextToken_249 : decode cX9_nextToken 249 = .ok (.isub, 1) := by decide +kernel
theorem dX9_nextToken_250 : decode cX9_nextToken 250 = .ok (.iconst 4, 1) := by decide +kernel
theorem dX9_nextToken_251 : decode cX9_nextToken 251 = .ok (.if_icmp .le 7, 3) := by decide +kernel
theorem dX9_nextToken_254 : decode cX9_nextToken 254 = .ok (.iconst 3, 1) := by decide +kernel
theorem dX9_nextToken_255 : decode cX9_nextToken 255 = .ok (.goto 4, 3) := by decide +kernel
theorem dX9_nextToken_258 : decode cX9_nextToken 258 = .ok (.iconst 2, 1) := by decide +kernel
theorem dX9_nextToken_259 : decode cX9_nextToken 259 = .ok (.putfield 100, 3) := by decide +kernel
theorem dX9_nextToken_262 : decode cX9_nextToken 262 = .ok (.goto 51, 3) := by decide +kernel
theorem dX9_nextToken_265 : decode cX9_nextToken 265 = .ok (.aload_n 0, 1) := by decide +kernel
theorem dX9_nextToken_266 : decode cX9_nextToken 266 = .ok (.dup, 1) := by decide +kernel
theorem dX9_nextToken_267 : decode cX9_nextToken 267 = .ok (.getfield 90, 3) := by decide +kernel
theorem dX9_nextToken_270 : decode cX9_nextToken 270 = .ok (.iconst 1, 1) := by decide +kernel
theorem dX9_nextToken_271 : decode cX9_nextToken 271 = .ok (.iadd, 1) := by decide +kernel
theorem dX9_nextToken_272 : decode cX9_nextToken 272 = .ok (.putfield 90, 3) := by decide +kernel
theorem dX9_nextToken_275 : decode cX9_nextToken 275 = .ok (.aload_n 0, 1) := by decide +kernel
theorem dX9_nextToken_276 : decode cX9_nextToken 276 = .ok (.iload_n 1, 1) := by decide +kernel
theorem dX9_nextToken_277 : decode cX9_nextToken 277 = .ok (.bipush 59, 2) := by decide +kernel
theorem dX9_nextToken_279 : decode cX9_nextToken 279 = .ok (.if_icmp .eq 26, 3) := by decide +kernel
theorem dX9_nextToken_282 : decode cX9_nextToken 282 = .ok (.iload_n 1, 1) := by decide +kernel
theorem dX9_nextToken_283 : decode cX9_nextToken 283 = .ok (.bipush 40, 2) := by decide +kernel
theorem dX9_nextToken_285 : decode cX9_nextToken 285 = .ok (.bipush 43, 2) := by decide +kernel
theorem dX9_nextToken_287 : decode cX9_nextToken 287 = .ok (.invokestatic 103, 3) := by decide +kernel
theorem dX9_nextToken_290 : decode cX9_nextToken 290 = .ok (.ifCond .ne 15, 3) := by decide +kernel
theorem dX9_nextToken_293 : decode cX9_nextToken 293 = .ok (.iload_n 1, 1) := by decide +kernel
theorem dX9_nextToken_294 : decode cX9_nextToken 294 = .ok (.bipush 45, 2) := by decide +kernel
theorem dX9_nextToken_296 : decode cX9_nextToken 296 = .ok (.if_icmp .eq 9, 3) := by decide +kernel
theorem dX9_nextToken_299 : decode cX9_nextToken 299 = .ok (.iload_n 1, 1) := by decide +kernel
theorem dX9_nextToken_300 : decode cX9_nextToken 300 = .ok (.bipush 47, 2) := by decide +kernel
theorem dX9_nextToken_302 : decode cX9_nextToken 302 = .ok (.if_icmp .ne 7, 3) := by decide +kernel
theorem dX9_nextToken_305 : decode cX9_nextToken 305 = .ok (.iload_n 1, 1) := by decide +kernel
theorem dX9_nextToken_306 : decode cX9_nextToken 306 = .ok (.goto 4, 3) := by decide +kernel
theorem dX9_nextToken_309 : decode cX9_nextToken 309 = .ok (.iconst 3, 1) := by decide +kernel
theorem dX9_nextToken_310 : decode cX9_nextToken 310 = .ok (.putfield 100, 3) := by decide +kernel
theorem dX9_nextToken_313 : decode cX9_nextToken 313 = .ok (.return_, 1) := by decide +kernel
theorem dX9_must_0 : decode cX9_must 0 = .ok (.aload_n 0, 1) := by decide +kernel
theorem dX9_must_1 : decode cX9_must 1 = .ok (.getfield 110, 3) := by decide +kernel
theorem dX9_must_4 : decode cX9_must 4 = .ok (.ifCond .ne 20, 3) := by decide +kernel
theorem dX9_must_7 : decode cX9_must 7 = .ok (.iload_n 1, 1) := by decide +kernel
theorem dX9_must_8 : decode cX9_must 8 = .ok (.ifCond .ne 16, 3) := by decide +kernel
theorem dX9_must_11 : decode cX9_must 11 = .ok (.aload_n 0, 1) := by decide +kernel
theorem dX9_must_12 : decode cX9_must 12 = .ok (.iload_n 2, 1) := by decide +kernel
theorem dX9_must_13 : decode cX9_must 13 = .ok (.putfield 110, 3) := by decide +kernel
theorem dX9_must_16 : decode cX9_must 16 = .ok (.aload_n 0, 1) := by decide +kernel
theorem dX9_must_17 : decode cX9_must 17 = .ok (.aload_n 0, 1) := by decide +kernel
theorem dX9_must_18 : decode cX9_must 18 = .ok (.getfield 93, 3) := by decide +kernel
theorem dX9_must_21 : decode cX9_must 21 = .ok (.putfield 113, 3) := by decide +kernel
theorem dX9_must_24 : decode cX9_must 24 = .ok (.aload_n 0, 1) := by decide +kernel
theorem dX9_must_25 : decode cX9_must 25 = .ok (.getfield 110, 3) := by decide +kernel
theorem dX9_must_28 : decode cX9_must 28 = .ok (.ifCond .ne 7, 3) := by decide +kernel
theorem dX9_must_31 : decode cX9_must 31 = .ok (.iconst 1, 1) := by decide +kernel
theorem dX9_must_32 : decode cX9_must 32 = .ok (.goto 4, 3) := by decide +kernel
theorem dX9_must_35 : decode cX9_must 35 = .ok (.iconst 0, 1) := by decide +kernel
theorem dX9_must_36 : decode cX9_must 36 = .ok (.ireturn, 1) := by decide +kernel
theorem dX9_wordHere_0 : decode cX9_wordHere 0 = .ok (.lconst 0, 1) := by decide +kernel
theorem dX9_wordHere_1 : decode cX9_wordHere 1 = .ok (.lstore_n 1, 1) := by decide +kernel
theorem dX9_wordHere_2 : decode cX9_wordHere 2 = .ok (.aload_n 0, 1) := by decide +kernel
theorem dX9_wordHere_3 : decode cX9_wordHere 3 = .ok (.getfield 93, 3) := by decide +kernel
theorem dX9_wordHere_6 : decode cX9_wordHere 6 = .ok (.istore_n 3, 1) := by decide +kernel
theorem dX9_wordHere_7 : decode cX9_wordHere 7 = .ok (.aload_n 0, 1) := by decide +kernel
theorem dX9_wordHere_8 : decode cX9_wordHere 8 = .ok (.getfield 100, 3) := by decide +kernel
theorem dX9_wordHere_11 : decode cX9_wordHere 11 = .ok (.iconst 1, 1) := by decide +kernel
theorem dX9_wordHere_12 : decode cX9_wordHere 12 = .ok (.if_icmp .ne 35, 3) := by decide +kernel
theorem dX9_wordHere_15 : decode cX9_wordHere 15 = .ok (.iload_n 3, 1) := by decide +kernel
theorem dX9_wordHere_16 : decode cX9_wordHere 16 = .ok (.aload_n 0, 1) := by decide +kernel
theorem dX9_wordHere_17 : decode cX9_wordHere 17 = .ok (.getfield 90, 3) := by decide +kernel
theorem dX9_wordHere_20 : decode cX9_wordHere 20 = .ok (.if_icmp .ge 27, 3) := by decide +kernel
theorem dX9_wordHere_23 : decode cX9_wordHere 23 = .ok (.lload_n 1, 1) := by decide +kernel
theorem dX9_wordHere_24 : decode cX9_wordHere 24 = .ok (.ldc2_w 116, 3) := by decide +kernel
theorem dX9_wordHere_27 : decode cX9_wordHere 27 = .ok (.lmul, 1) := by decide +kernel
theorem dX9_wordHere_28 : decode cX9_wordHere 28 = .ok (.aload_n 0, 1) := by decide +kernel
theorem dX9_wordHere_29 : decode cX9_wordHere 29 = .ok (.getfield 7, 3) := by decide +kernel
theorem dX9_wordHere_32 : decode cX9_wordHere 32 = .ok (.iload_n 3, 1) := by decide +kernel
theorem dX9_wordHere_33 : decode cX9_wordHere 33 = .ok (.baload, 1) := by decide +kernel
theorem dX9_wordHere_34 : decode cX9_wordHere 34 = .ok (.i2l, 1) := by decide +kernel
theorem dX9_wordHere_35 : decode cX9_wordHere 35 = .ok (.ladd, 1) := by decide +kernel
theorem dX9_wordHere_36 : decode cX9_wordHere 36 = .ok (.ldc2_w 118, 3) := by decide +kernel
theorem dX9_wordHere_39 : decode cX9_wordHere 39 = .ok (.lsub, 1) := by decide +kernel
theorem dX9_wordHere_40 : decode cX9_wordHere 40 = .ok (.lstore_n 1, 1) := by decide +kernel
theorem dX9_wordHere_41 : decode cX9_wordHere 41 = .ok (.iinc 3 1, 3) := by decide +kernel
theorem dX9_wordHere_44 : decode cX9_wordHere 44 = .ok (.goto (-37), 3) := by decide +kernel
theorem dX9_wordHere_47 : decode cX9_wordHere 47 = .ok (.aload_n 0, 1) := by decide +kernel
theorem dX9_wordHere_48 : decode cX9_wordHere 48 = .ok (.getfield 100, 3) := by decide +kernel
theorem dX9_wordHere_51 : decode cX9_wordHere 51 = .ok (.iconst 1, 1) := by decide +kernel
theorem dX9_wordHere_52 : decode cX9_wordHere 52 = .ok (.if_icmp .ne 7, 3) := by decide +kernel
theorem dX9_wordHere_55 : decode cX9_wordHere 55 = .ok (.lload_n 1, 1) := by decide +kernel
theorem dX9_wordHere_56 : decode cX9_wordHere 56 = .ok (.goto 6, 3) := by decide +kernel
theorem dX9_wordHere_59 : decode cX9_wordHere 59 = .ok (.ldc2_w 120, 3) := by decide +kernel
theorem dX9_wordHere_62 : decode cX9_wordHere 62 = .ok (.lreturn, 1) := by decide +kernel
theorem dX9_read_0 : decode cX9_read 0 = .ok (.aload_n 0, 1) := by decide +kernel
theorem dX9_read_1 : decode cX9_read 1 = .ok (.aload_n 0, 1) := by decide +kernel
theorem dX9_read_2 : decode cX9_read 2 = .ok (.getfield 100, 3) := by decide +kernel
theorem dX9_read_5 : decode cX9_read 5 = .ok (.iconst 2, 1) := by decide +kernel
theorem dX9_read_6 : decode cX9_read 6 = .ok (.if_icmp .ne 7, 3) := by decide +kernel
theorem dX9_read_9 : decode cX9_read 9 = .ok (.iconst 1, 1) := by decide +kernel
theorem dX9_read_10 : decode cX9_read 10 = .ok (.goto 4, 3) := by decide +kernel
theorem dX9_read_13 : decode cX9_read 13 = .ok (.iconst 0, 1) := by decide +kernel
theorem dX9_read_14 : decode cX9_read 14 = .ok (.iconst 1, 1) := by decide +kernel
theorem dX9_read_15 : decode cX9_read 15 = .ok (.invokevirtual 122, 3) := by decide +kernel
theorem dX9_read_18 : decode cX9_read 18 = .ok (.ifCond .eq 20, 3) := by decide +kernel
theorem dX9_read_21 : decode cX9_read 21 = .ok (.aload_n 0, 1) := by decide +kernel
theorem dX9_read_22 : decode cX9_read 22 = .ok (.aload_n 0, 1) := by decide +kernel
theorem dX9_read_23 : decode cX9_read 23 = .ok (.getfield 107, 3) := by decide +kernel
theorem dX9_read_26 : decode cX9_read 26 = .ok (.iload_n 1, 1) := by decide +kernel
theorem dX9_read_27 : decode cX9_read 27 = .ok (.iload_n 2, 1) := by decide +kernel
theorem dX9_read_28 : decode cX9_read 28 = .ok (.invokestatic 103, 3) := by decide +kernel
theorem dX9_read_31 : decode cX9_read 31 = .ok (.iconst 3, 1) := by decide +kernel
theorem dX9_read_32 : decode cX9_read 32 = .ok (.invokevirtual 122, 3) := by decide +kernel
theorem dX9_read_35 : decode cX9_read 35 = .ok (.ifCond .ne 5, 3) := by decide +kernel
theorem dX9_read_38 : decode cX9_read 38 = .ok (.iload_n 1, 1) := by decide +kernel
theorem dX9_read_39 : decode cX9_read 39 = .ok (.ireturn, 1) := by decide +kernel
theorem dX9_read_40 : decode cX9_read 40 = .ok (.aload_n 0, 1) := by decide +kernel
theorem dX9_read_41 : decode cX9_read 41 = .ok (.getfield 107, 3) := by decide +kernel
theorem dX9_read_44 : decode cX9_read 44 = .ok (.istore_n 3, 1) := by decide +kernel
theorem dX9_read_45 : decode cX9_read 45 = .ok (.aload_n 0, 1) := by decide +kernel
theorem dX9_read_46 : decode cX9_read 46 = .ok (.invokevirtual 126, 3) := by decide +kernel
theorem dX9_read_49 : decode cX9_read 49 = .ok (.iload_n 3, 1) := by decide +kernel
theorem dX9_read_50 : decode cX9_read 50 = .ok (.ireturn, 1) := by decide +kernel
theorem dX9_setDefaults_0 : decode cX9_setDefaults 0 = .ok (.iconst 0, 1) := by decide +kernel
theorem dX9_setDefaults_1 : decode cX9_setDefaults 1 = .ok (.istore_n 1, 1) := by decide +kernel
theorem dX9_setDefaults_2 : decode cX9_setDefaults 2 = .ok (.iload_n 1, 1) := by decide +kernel
theorem dX9_setDefaults_3 : decode cX9_setDefaults 3 = .ok (.sipush 138, 3) := by decide +kernel
theorem dX9_setDefaults_6 : decode cX9_setDefaults 6 = .ok (.if_icmp .ge 16, 3) := by decide +kernel
theorem dX9_setDefaults_9 : decode cX9_setDefaults 9 = .ok (.aload_n 0, 1) := by decide +kernel
theorem dX9_setDefaults_10 : decode cX9_setDefaults 10 = .ok (.getfield 13, 3) := by decide +kernel
theorem dX9_setDefaults_13 : decode cX9_setDefaults 13 = .ok (.iload_n 1, 1) := by decide +kernel
theorem dX9_setDefaults_14 : decode cX9_setDefaults 14 = .ok (.iconst 0, 1) := by decide +kernel
theorem dX9_setDefaults_15 : decode cX9_setDefaults 15 = .ok (.iastore, 1) := by decide +kernel
theorem dX9_setDefaults_16 : decode cX9_setDefaults 16 = .ok (.iinc 1 1, 3) := by decide +kernel
theorem dX9_setDefaults_19 : decode cX9_setDefaults 19 = .ok (.goto (-17), 3) := by decide +kernel
theorem dX9_setDefaults_22 : decode cX9_setDefaults 22 = .ok (.aload_n 0, 1) := by decide +kernel
theorem dX9_setDefaults_23 : decode cX9_setDefaults 23 = .ok (.getfield 13, 3) := by decide +kernel
theorem dX9_setDefaults_26 : decode cX9_setDefaults 26 = .ok (.iconst 3, 1) := by decide +kernel
theorem dX9_setDefaults_27 : decode cX9_setDefaults 27 = .ok (.bipush 10, 2) := by decide +kernel
theorem dX9_setDefaults_29 : decode cX9_setDefaults 29 = .ok (.iastore, 1) := by decide +kernel
theorem dX9_setDefaults_30 : decode cX9_setDefaults 30 = .ok (.aload_n 0, 1) := by decide +kernel
theorem dX9_setDefaults_31 : decode cX9_setDefaults 31 = .ok (.getfield 13, 3) := by decide +kernel
theorem dX9_setDefaults_34 : decode cX9_setDefaults 34 = .ok (.iconst 4, 1) := by decide +kernel
theorem dX9_setDefaults_35 : decode cX9_setDefaults 35 = .ok (.iconst 5, 1) := by decide +kernel
theorem dX9_setDefaults_36 : decode cX9_setDefaults 36 = .ok (.iastore, 1) := by decide +kernel
theorem dX9_setDefaults_37 : decode cX9_setDefaults 37 = .ok (.aload_n 0, 1) := by decide +kernel
theorem dX9_setDefaults_38 : decode cX9_setDefaults 38 = .ok (.getfield 13, 3) := by decide +kernel
theorem dX9_setDefaults_41 : decode cX9_setDefaults 41 = .ok (.iconst 5, 1) := by decide +kernel
theorem dX9_setDefaults_42 : decode cX9_setDefaults 42 = .ok (.bipush 20, 2) := by decide +kernel
theorem dX9_setDefaults_44 : decode cX9_setDefaults 44 = .ok (.iastore, 1) := by decide +kernel
theorem dX9_setDefaults_45 : decode cX9_setDefaults 45 = .ok (.aload_n 0, 1) := by decide +kernel
theorem dX9_setDefaults_46 : decode cX9_setDefaults 46 = .ok (.iconst 0, 1) := by decide +kernel
theorem dX9_setDefaults_47 : decode cX9_setDefaults 47 = .ok (.putfield 129, 3) := by decide +kernel
theorem dX9_setDefaults_50 : decode cX9_setDefaults 50 = .ok (.aload_n 0, 1) := by decide +kernel
theorem dX9_setDefaults_51 : decode cX9_setDefaults 51 = .ok (.getfield 20, 3) := by decide +kernel
theorem dX9_setDefaults_54 : decode cX9_setDefaults 54 = .ok (.iconst 0, 1) := by decide +kernel
theorem dX9_setDefaults_55 : decode cX9_setDefaults 55 = .ok (.bipush 100, 2) := by decide +kernel
theorem dX9_setDefaults_57 : decode cX9_setDefaults 57 = .ok (.iastore, 1) := by decide +kernel
theorem dX9_setDefaults_58 : decode cX9_setDefaults 58 = .ok (.aload_n 0, 1) := by decide +kernel
theorem dX9_setDefaults_59 : decode cX9_setDefaults 59 = .ok (.getfield 13, 3) := by decide +kernel
theorem dX9_setDefaults_62 : decode cX9_setDefaults 62 = .ok (.bipush 8, 2) := by decide +kernel
theorem dX9_setDefaults_64 : decode cX9_setDefaults 64 = .ok (.iconst 1, 1) := by decide +kernel
theorem dX9_setDefaults_65 : decode cX9_setDefaults 65 = .ok (.iastore, 1) := by decide +kernel
theorem dX9_setDefaults_66 : decode cX9_setDefaults 66 = .ok (.return_, 1) := by decide +kernel
theorem dX9_takeDraft_0 : decode cX9_takeDraft 0 = .ok (.iconst 0, 1) := by decide +kernel
theorem dX9_takeDraft_1 : decode cX9_takeDraft 1 = .ok (.istore_n 1, 1) := by decide +kernel
theorem dX9_takeDraft_2 : decode cX9_takeDraft 2 = .ok (.iload_n 1, 1) := by decide +kernel
theorem dX9_takeDraft_3 : decode cX9_takeDraft 3 = .ok (.sipush 138, 3) := by decide +kernel
theorem dX9_takeDraft_6 : decode cX9_takeDraft 6 = .ok (.if_icmp .ge 21, 3) := by decide +kernel
theorem dX9_takeDraft_9 : decode cX9_takeDraft 9 = .ok (.aload_n 0, 1) := by decide +kernel
theorem dX9_takeDraft_10 : decode cX9_takeDraft 10 = .ok (.getfield 17, 3) := by decide +kernel
theorem dX9_takeDraft_13 : decode cX9_takeDraft 13 = .ok (.iload_n 1, 1) := by decide +kernel
theorem dX9_takeDraft_14 : decode cX9_takeDraft 14 = .ok (.aload_n 0, 1) := by decide +kernel
theorem dX9_takeDraft_15 : decode cX9_takeDraft 15 = .ok (.getfield 13, 3) := by decide +kernel
theorem dX9_takeDraft_18 : decode cX9_takeDraft 18 = .ok (.iload_n 1, 1) := by decide +kernel
theorem dX9_takeDraft_19 : decode cX9_takeDraft 19 = .ok (.iaload, 1) := by decide +kernel
theorem dX9_takeDraft_20 : decode cX9_takeDraft 20 = .ok (.iastore, 1) := by decide +kernel
theorem dX9_takeDraft_21 : decode cX9_takeDraft 21 = .ok (.iinc 1 1, 3) := by decide +kernel
theorem dX9_takeDraft_24 : decode cX9_takeDraft 24 = .ok (.goto (-22), 3) := by decide +kernel
theorem dX9_takeDraft_27 : decode cX9_takeDraft 27 = .ok (.iconst 0, 1) := by decide +kernel
theorem dX9_takeDraft_28 : decode cX9_takeDraft 28 = .ok (.istore_n 1, 1) := by decide +kernel
theorem dX9_takeDraft_29 : decode cX9_takeDraft 29 = .ok (.iload_n 1, 1) := by decide +kernel
theorem dX9_takeDraft_30 : decode cX9_takeDraft 30 = .ok (.aload_n 0, 1) := by decide +kernel
theorem dX9_takeDraft_31 : decode cX9_takeDraft 31 = .ok (.getfield 13, 3) := by decide +kernel
theorem dX9_takeDraft_34 : decode cX9_takeDraft 34 = .ok (.bipush 8, 2) := by decide +kernel
theorem dX9_takeDraft_36 : decode cX9_takeDraft 36 = .ok (.iaload, 1) := by decide +kernel
theorem dX9_takeDraft_37 : decode cX9_takeDraft 37 = .ok (.if_icmp .ge 21, 3) := by decide +kernel
theorem dX9_takeDraft_40 : decode cX9_takeDraft 40 = .ok (.aload_n 0, 1) := by decide +kernel
theorem dX9_takeDraft_41 : decode cX9_takeDraft 41 = .ok (.getfield 23, 3) := by decide +kernel
theorem dX9_takeDraft_44 : decode cX9_takeDraft 44 = .ok (.iload_n 1, 1) := by decide +kernel
theorem dX9_takeDraft_45 : decode cX9_takeDraft 45 = .ok (.aload_n 0, 1) := by decide +kernel
theorem dX9_takeDraft_46 : decode cX9_takeDraft 46 = .ok (.getfield 20, 3) := by decide +kernel
theorem dX9_takeDraft_49 : decode cX9_takeDraft 49 = .ok (.iload_n 1, 1) := by decide +kernel
theorem dX9_takeDraft_50 : decode cX9_takeDraft 50 = .ok (.iaload, 1) := by decide +kernel
theorem dX9_takeDraft_51 : decode cX9_takeDraft 51 = .ok (.iastore, 1) := by decide +kernel
theorem dX9_takeDraft_52 : decode cX9_takeDraft 52 = .ok (.iinc 1 1, 3) := by decide +kernel
theorem dX9_takeDraft_55 : decode cX9_takeDraft 55 = .ok (.goto (-26), 3) := by decide +kernel
theorem dX9_takeDraft_58 : decode cX9_takeDraft 58 = .ok (.iconst 0, 1) := by decide +kernel
theorem dX9_takeDraft_59 : decode cX9_takeDraft 59 = .ok (.istore_n 1, 1) := by decide +kernel
theorem dX9_takeDraft_60 : decode cX9_takeDraft 60 = .ok (.iload_n 1, 1) := by decide +kernel
theorem dX9_takeDraft_61 : decode cX9_takeDraft 61 = .ok (.sipush 3277, 3) := by decide +kernel
theorem dX9_takeDraft_64 : decode cX9_takeDraft 64 = .ok (.if_icmp .ge 16, 3) := by decide +kernel
theorem dX9_takeDraft_67 : decode cX9_takeDraft 67 = .ok (.aload_n 0, 1) := by decide +kernel
theorem dX9_takeDraft_68 : decode cX9_takeDraft 68 = .ok (.getfield 32, 3) := by decide +kernel
theorem dX9_takeDraft_71 : decode cX9_takeDraft 71 = .ok (.iload_n 1, 1) := by decide +kernel
theorem dX9_takeDraft_72 : decode cX9_takeDraft 72 = .ok (.iconst 0, 1) := by decide +kernel
theorem dX9_takeDraft_73 : decode cX9_takeDraft 73 = .ok (.iastore, 1) := by decide +kernel
theorem dX9_takeDraft_74 : decode cX9_takeDraft 74 = .ok (.iinc 1 1, 3) := by decide +kernel
theorem dX9_takeDraft_77 : decode cX9_takeDraft 77 = .ok (.goto (-17), 3) := by decide +kernel
theorem dX9_takeDraft_80 : decode cX9_takeDraft 80 = .ok (.iconst 0, 1) := by decide +kernel
theorem dX9_takeDraft_81 : decode cX9_takeDraft 81 = .ok (.istore_n 1, 1) := by decide +kernel
theorem dX9_takeDraft_82 : decode cX9_takeDraft 82 = .ok (.iload_n 1, 1) := by decide +kernel
theorem dX9_takeDraft_83 : decode cX9_takeDraft 83 = .ok (.aload_n 0, 1) := by decide +kernel
theorem dX9_takeDraft_84 : decode cX9_takeDraft 84 = .ok (.getfield 17, 3) := by decide +kernel
theorem dX9_takeDraft_87 : decode cX9_takeDraft 87 = .ok (.iconst 0, 1) := by decide +kernel
theorem dX9_takeDraft_88 : decode cX9_takeDraft 88 = .ok (.iaload, 1) := by decide +kernel
theorem dX9_takeDraft_89 : decode cX9_takeDraft 89 = .ok (.if_icmp .ge 27, 3) := by decide +kernel
theorem dX9_takeDraft_92 : decode cX9_takeDraft 92 = .ok (.aload_n 0, 1) := by decide +kernel
theorem dX9_takeDraft_93 : decode cX9_takeDraft 93 = .ok (.getfield 32, 3) := by decide +kernel
theorem dX9_takeDraft_96 : decode cX9_takeDraft 96 = .ok (.bipush 6, 2) := by decide +kernel
theorem dX9_takeDraft_98 : decode cX9_takeDraft 98 = .ok (.iload_n 1, 1) := by decide +kernel
theorem dX9_takeDraft_99 : decode cX9_takeDraft 99 = .ok (.iadd, 1) := by decide +kernel
theorem dX9_takeDraft_100 : decode cX9_takeDraft 100 = .ok (.aload_n 0, 1) := by decide +kernel
theorem dX9_takeDraft_101 : decode cX9_takeDraft 101 = .ok (.getfield 17, 3) := by decide +kernel
theorem dX9_takeDraft_104 : decode cX9_takeDraft 104 = .ok (.bipush 34, 2) := by decide +kernel
theorem dX9_takeDraft_106 : decode cX9_takeDraft 106 = .ok (.iload_n 1, 1) := by decide +kernel
theorem dX9_takeDraft_107 : decode cX9_takeDraft 107 = .ok (.iadd, 1) := by decide +kernel
theorem dX9_takeDraft_108 : decode cX9_takeDraft 108 = .ok (.iaload, 1) := by decide +kernel
theorem dX9_takeDraft_109 : decode cX9_takeDraft 109 = .ok (.iastore, 1) := by decide +kernel
theorem dX9_takeDraft_110 : decode cX9_takeDraft 110 = .ok (.iinc 1 1, 3) := by decide +kernel
theorem dX9_takeDraft_113 : decode cX9_takeDraft 113 = .ok (.goto (-31), 3) := by decide +kernel
theorem dX9_takeDraft_116 : decode cX9_takeDraft 116 = .ok (.iconst 0, 1) := by decide +kernel
theorem dX9_takeDraft_117 : decode cX9_takeDraft 117 = .ok (.istore_n 1, 1) := by decide +kernel
theorem dX9_takeDraft_118 : decode cX9_takeDraft 118 = .ok (.iload_n 1, 1) := by decide +kernel
theorem dX9_takeDraft_119 : decode cX9_takeDraft 119 = .ok (.aload_n 0, 1) := by decide +kernel
theorem dX9_takeDraft_120 : decode cX9_takeDraft 120 = .ok (.getfield 17, 3) := by decide +kernel
theorem dX9_takeDraft_123 : decode cX9_takeDraft 123 = .ok (.iconst 1, 1) := by decide +kernel
theorem dX9_takeDraft_124 : decode cX9_takeDraft 124 = .ok (.iaload, 1) := by decide +kernel
theorem dX9_takeDraft_125 : decode cX9_takeDraft 125 = .ok (.if_icmp .ge 38, 3) := by decide +kernel
theorem dX9_takeDraft_128 : decode cX9_takeDraft 128 = .ok (.aload_n 0, 1) := by decide +kernel
theorem dX9_takeDraft_129 : decode cX9_takeDraft 129 = .ok (.iload_n 1, 1) := by decide +kernel
theorem dX9_takeDraft_130 : decode cX9_takeDraft 130 = .ok (.iconst 0, 1) := by decide +kernel
theorem dX9_takeDraft_131 : decode cX9_takeDraft 131 = .ok (.aload_n 0, 1) := by decide +kernel
theorem dX9_takeDraft_132 : decode cX9_takeDraft 132 = .ok (.getfield 17, 3) := by decide +kernel
theorem dX9_takeDraft_135 : decode cX9_takeDraft 135 = .ok (.bipush 42, 2) := by decide +kernel
theorem dX9_takeDraft_137 : decode cX9_takeDraft 137 = .ok (.iload_n 1, 1) := by decide +kernel
theorem dX9_takeDraft_138 : decode cX9_takeDraft 138 = .ok (.iadd, 1) := by decide +kernel
theorem dX9_takeDraft_139 : decode cX9_takeDraft 139 = .ok (.iaload, 1) := by decide +kernel
theorem dX9_takeDraft_140 : decode cX9_takeDraft 140 = .ok (.invokevirtual 132, 3) := by decide +kernel
theorem dX9_takeDraft_143 : decode cX9_takeDraft 143 = .ok (.aload_n 0, 1) := by decide +kernel
theorem dX9_takeDraft_144 : decode cX9_takeDraft 144 = .ok (.iload_n 1, 1) := by decide +kernel
theorem dX9_takeDraft_145 : decode cX9_takeDraft 145 = .ok (.iconst 1, 1) := by decide +kernel
theorem dX9_takeDraft_146 : decode cX9_takeDraft 146 = .ok (.iconst (-1), 1) := by decide +kernel
theorem dX9_takeDraft_147 : decode cX9_takeDraft 147 = .ok (.invokevirtual 132, 3) := by decide +kernel
theorem dX9_takeDraft_150 : decode cX9_takeDraft 150 = .ok (.aload_n 0, 1) := by decide +kernel
theorem dX9_takeDraft_151 : decode cX9_takeDraft 151 = .ok (.iload_n 1, 1) := by decide +kernel
theorem dX9_takeDraft_152 : decode cX9_takeDraft 152 = .ok (.iconst 2, 1) := by decide +kernel
theorem dX9_takeDraft_153 : decode cX9_takeDraft 153 = .ok (.iconst (-1), 1) := by decide +kernel
theorem dX9_takeDraft_154 : decode cX9_takeDraft 154 = .ok (.invokevirtual 132, 3) := by decide +kernel
theorem dX9_takeDraft_157 : decode cX9_takeDraft 157 = .ok (.iinc 1 1, 3) := by decide +kernel
theorem dX9_takeDraft_160 : decode cX9_takeDraft 160 = .ok (.goto (-42), 3) := by decide +kernel
theorem dX9_takeDraft_163 : decode cX9_takeDraft 163 = .ok (.aload_n 0, 1) := by decide +kernel
theorem dX9_takeDraft_164 : decode cX9_takeDraft 164 = .ok (.iconst 0, 1) := by decide +kernel
theorem dX9_takeDraft_165 : decode cX9_takeDraft 165 = .ok (.putfield 136, 3) := by decide +kernel
theorem dX9_takeDraft_168 : decode cX9_takeDraft 168 = .ok (.aload_n 0, 1) := by decide +kernel
theorem dX9_takeDraft_169 : decode cX9_takeDraft 169 = .ok (.getfield 42, 3) := by decide +kernel
theorem dX9_takeDraft_172 : decode cX9_takeDraft 172 = .ok (.iconst 0, 1) := by decide +kernel
theorem dX9_takeDraft_173 : decode cX9_takeDraft 173 = .ok (.iconst 0, 1) := by decide +kernel
theorem dX9_takeDraft_174 : decode cX9_takeDraft 174 = .ok (.bastore, 1) := by decide +kernel
theorem dX9_takeDraft_175 : decode cX9_takeDraft 175 = .ok (.aload_n 0, 1) := by decide +kernel
theorem dX9_takeDraft_176 : decode cX9_takeDraft 176 = .ok (.getfield 42, 3) := by decide +kernel
theorem dX9_takeDraft_179 : decode cX9_takeDraft 179 = .ok (.iconst 1, 1) := by decide +kernel
theorem dX9_takeDraft_180 : decode cX9_takeDraft 180 = .ok (.iconst 0, 1) := by decide +kernel
theorem dX9_takeDraft_181 : decode cX9_takeDraft 181 = .ok (.bastore, 1) := by decide +kernel
theorem dX9_takeDraft_182 : decode cX9_takeDraft 182 = .ok (.return_, 1) := by decide +kernel
theorem dX9_begins_0 : decode cX9_begins 0 = .ok (.aload_n 0, 1) := by decide +kernel
theorem dX9_begins_1 : decode cX9_begins 1 = .ok (.aload_n 0, 1) := by decide +kernel
theorem dX9_begins_2 : decode cX9_begins 2 = .ok (.getfield 13, 3) := by decide +kernel
theorem dX9_begins_5 : decode cX9_begins 5 = .ok (.iload_n 1, 1) := by decide +kernel
theorem dX9_begins_6 : decode cX9_begins 6 = .ok (.iaload, 1) := by decide +kernel
theorem dX9_begins_7 : decode cX9_begins 7 = .ok (.iload_n 2, 1) := by decide +kernel
theorem dX9_begins_8 : decode cX9_begins 8 = .ok (.if_icmp .ge 7, 3) := by decide +kernel
theorem dX9_begins_11 : decode cX9_begins 11 = .ok (.iconst 1, 1) := by decide +kernel
theorem dX9_begins_12 : decode cX9_begins 12 = .ok (.goto 4, 3) := by decide +kernel
theorem dX9_begins_15 : decode cX9_begins 15 = .ok (.iconst 0, 1) := by decide +kernel
theorem dX9_begins_16 : decode cX9_begins 16 = .ok (.iconst 4, 1) := by decide +kernel
theorem dX9_begins_17 : decode cX9_begins 17 = .ok (.invokevirtual 122, 3) := by decide +kernel
theorem dX9_begins_20 : decode cX9_begins 20 = .ok (.ifCond .ne 5, 3) := by decide +kernel
theorem dX9_begins_23 : decode cX9_begins 23 = .ok (.iconst 0, 1) := by decide +kernel
theorem dX9_begins_24 : decode cX9_begins 24 = .ok (.ireturn, 1) := by decide +kernel
theorem dX9_begins_25 : decode cX9_begins 25 = .ok (.aload_n 0, 1) := by decide +kernel
theorem dX9_begins_26 : decode cX9_begins 26 = .ok (.invokevirtual 126, 3) := by decide +kernel
theorem dX9_begins_29 : decode cX9_begins 29 = .ok (.iconst 1, 1) := by decide +kernel
theorem dX9_begins_30 : decode cX9_begins 30 = .ok (.ireturn, 1) := by decide +kernel
theorem dX9_once_0 : decode cX9_once 0 = .ok (.aload_n 0, 1) := by decide +kernel
theorem dX9_once_1 : decode cX9_once 1 = .ok (.aload_n 0, 1) := by decide +kernel
theorem dX9_once_2 : decode cX9_once 2 = .ok (.getfield 129, 3) := by decide +kernel
theorem dX9_once_5 : decode cX9_once 5 = .ok (.iload_n 1, 1) := by decide +kernel
theorem dX9_once_6 : decode cX9_once 6 = .ok (.ishr, 1) := by decide +kernel
theorem dX9_once_7 : decode cX9_once 7 = .ok (.iconst 1, 1) := by decide +kernel
theorem dX9_once_8 : decode cX9_once 8 = .ok (.iand, 1) := by decide +kernel
theorem dX9_once_9 : decode cX9_once 9 = .ok (.ifCond .ne 7, 3) := by decide +kernel
theorem dX9_once_12 : decode cX9_once 12 = .ok (.iconst 1, 1) := by decide +kernel
theorem dX9_once_13 : decode cX9_once 13 = .ok (.goto 4, 3) := by decide +kernel
theorem dX9_once_16 : decode cX9_once 16 = .ok (.iconst 0, 1) := by decide +kernel
theorem dX9_once_17 : decode cX9_once 17 = .ok (.iconst 2, 1) := by decide +kernel
theorem dX9_once_18 : decode cX9_once 18 = .ok (.invokevirtual 122, 3) := by decide +kernel
theorem dX9_once_21 : decode cX9_once 21 = .ok (.ifCond .ne 5, 3) := by decide +kernel
theorem dX9_once_24 : decode cX9_once 24 = .ok (.iconst 0, 1) := by decide +kernel
theorem dX9_once_25 : decode cX9_once 25 = .ok (.ireturn, 1) := by decide +kernel
theorem dX9_once_26 : decode cX9_once 26 = .ok (.aload_n 0, 1) := by decide +kernel
theorem dX9_once_27 : decode cX9_once 27 = .ok (.dup, 1) := by decide +kernel
theorem dX9_once_28 : decode cX9_once 28 = .ok (.getfield 129, 3) := by decide +kernel
theorem dX9_once_31 : decode cX9_once 31 = .ok (.iconst 1, 1) := by decide +kernel
theorem dX9_once_32 : decode cX9_once 32 = .ok (.iload_n 1, 1) := by decide +kernel
theorem dX9_once_33 : decode cX9_once 33 = .ok (.ishl, 1) := by decide +kernel
theorem dX9_once_34 : decode cX9_once 34 = .ok (.ior, 1) := by decide +kernel
theorem dX9_once_35 : decode cX9_once 35 = .ok (.putfield 129, 3) := by decide +kernel
theorem dX9_once_38 : decode cX9_once 38 = .ok (.aload_n 0, 1) := by decide +kernel
theorem dX9_once_39 : decode cX9_once 39 = .ok (.invokevirtual 126, 3) := by decide +kernel
theorem dX9_once_42 : decode cX9_once 42 = .ok (.iconst 1, 1) := by decide +kernel
theorem dX9_once_43 : decode cX9_once 43 = .ok (.ireturn, 1) := by decide +kernel
theorem dX9_station_0 : decode cX9_station 0 = .ok (.aload_n 0, 1) := by decide +kernel
theorem dX9_station_1 : decode cX9_station 1 = .ok (.iconst 0, 1) := by decide +kernel
theorem dX9_station_2 : decode cX9_station 2 = .ok (.bipush 8, 2) := by decide +kernel
theorem dX9_station_4 : decode cX9_station 4 = .ok (.invokevirtual 139, 3) := by decide +kernel
theorem dX9_station_7 : decode cX9_station 7 = .ok (.ifCond .ne 4, 3) := by decide +kernel
theorem dX9_station_10 : decode cX9_station 10 = .ok (.return_, 1) := by decide +kernel
theorem dX9_station_11 : decode cX9_station 11 = .ok (.aload_n 0, 1) := by decide +kernel
theorem dX9_station_12 : decode cX9_station 12 = .ok (.getfield 13, 3) := by decide +kernel
theorem dX9_station_15 : decode cX9_station 15 = .ok (.iconst 0, 1) := by decide +kernel
theorem dX9_station_16 : decode cX9_station 16 = .ok (.iaload, 1) := by decide +kernel
theorem dX9_station_17 : decode cX9_station 17 = .ok (.istore_n 1, 1) := by decide +kernel
theorem dX9_station_18 : decode cX9_station 18 = .ok (.aload_n 0, 1) := by decide +kernel
theorem dX9_station_19 : decode cX9_station 19 = .ok (.getfield 13, 3) := by decide +kernel
theorem dX9_station_22 : decode cX9_station 22 = .ok (.bipush 10, 2) := by decide +kernel
theorem dX9_station_24 : decode cX9_station 24 = .ok (.iload_n 1, 1) := by decide +kernel
theorem dX9_station_25 : decode cX9_station 25 = .ok (.iadd, 1) := by decide +kernel
theorem dX9_station_26 : decode cX9_station 26 = .ok (.aload_n 0, 1) := by decide +kernel
theorem dX9_station_27 : decode cX9_station 27 = .ok (.iconst 0, 1) := by decide +kernel
theorem dX9_station_28 : decode cX9_station 28 = .ok (.bipush 99, 2) := by decide +kernel
theorem dX9_station_30 : decode cX9_station 30 = .ok (.invokevirtual 143, 3) := by decide +kernel
theorem dX9_station_33 : decode cX9_station 33 = .ok (.iastore, 1) := by decide +kernel
theorem dX9_station_34 : decode cX9_station 34 = .ok (.aload_n 0, 1) := by decide +kernel
theorem dX9_station_35 : decode cX9_station 35 = .ok (.getfield 13, 3) := by decide +kernel
theorem dX9_station_38 : decode cX9_station 38 = .ok (.bipush 18, 2) := by decide +kernel
theorem dX9_station_40 : decode cX9_station 40 = .ok (.iload_n 1, 1) := by decide +kernel
theorem dX9_station_41 : decode cX9_station 41 = .ok (.iadd, 1) := by decide +kernel
theorem dX9_station_42 : decode cX9_station 42 = .ok (.aload_n 0, 1) := by decide +kernel
theorem dX9_station_43 : decode cX9_station 43 = .ok (.iconst 0, 1) := by decide +kernel
theorem dX9_station_44 : decode cX9_station 44 = .ok (.bipush 99, 2) := by decide +kernel
theorem dX9_station_46 : decode cX9_station 46 = .ok (.invokevirtual 143, 3) := by decide +kernel
theorem dX9_station_49 : decode cX9_station 49 = .ok (.iastore, 1) := by decide +kernel
theorem dX9_station_50 : decode cX9_station 50 = .ok (.aload_n 0, 1) := by decide +kernel
theorem dX9_station_51 : decode cX9_station 51 = .ok (.getfield 13, 3) := by decide +kernel
theorem dX9_station_54 : decode cX9_station 54 = .ok (.bipush 26, 2) := by decide +kernel
theorem dX9_station_56 : decode cX9_station 56 = .ok (.iload_n 1, 1) := by decide +kernel
theorem dX9_station_57 : decode cX9_station 57 = .ok (.iadd, 1) := by decide +kernel
theorem dX9_station_58 : decode cX9_station 58 = .ok (.aload_n 0, 1) := by decide +kernel
theorem dX9_station_59 : decode cX9_station 59 = .ok (.iconst 1, 1) := by decide +kernel
theorem dX9_station_60 : decode cX9_station 60 = .ok (.bipush 20, 2) := by decide +kernel
theorem dX9_station_62 : decode cX9_station 62 = .ok (.invokevirtual 143, 3) := by decide +kernel
theorem dX9_station_65 : decode cX9_station 65 = .ok (.iastore, 1) := by decide +kernel
theorem dX9_station_66 : decode cX9_station 66 = .ok (.aload_n 0, 1) := by decide +kernel
theorem dX9_station_67 : decode cX9_station 67 = .ok (.getfield 13, 3) := by decide +kernel
theorem dX9_station_70 : decode cX9_station 70 = .ok (.bipush 34, 2) := by decide +kernel
theorem dX9_station_72 : decode cX9_station 72 = .ok (.iload_n 1, 1) := by decide +kernel
theorem dX9_station_73 : decode cX9_station 73 = .ok (.iadd, 1) := by decide +kernel
theorem dX9_station_74 : decode cX9_station 74 = .ok (.aload_n 0, 1) := by decide +kernel
theorem dX9_station_75 : decode cX9_station 75 = .ok (.iconst 0, 1) := by decide +kernel
theorem dX9_station_76 : decode cX9_station 76 = .ok (.aload_n 0, 1) := by decide +kernel
theorem dX9_station_77 : decode cX9_station 77 = .ok (.getfield 13, 3) := by decide +kernel
theorem dX9_station_80 : decode cX9_station 80 = .ok (.bipush 26, 2) := by decide +kernel
theorem dX9_station_82 : decode cX9_station 82 = .ok (.iload_n 1, 1) := by decide +kernel
theorem dX9_station_83 : decode cX9_station 83 = .ok (.iadd, 1) := by decide +kernel
theorem dX9_station_84 : decode cX9_station 84 = .ok (.iaload, 1) := by decide +kernel
theorem dX9_station_85 : decode cX9_station 85 = .ok (.invokevirtual 143, 3) := by decide +kernel
theorem dX9_station_88 : decode cX9_station 88 = .ok (.iastore, 1) := by decide +kernel
theorem dX9_station_89 : decode cX9_station 89 = .ok (.aload_n 0, 1) := by decide +kernel
theorem dX9_station_90 : decode cX9_station 90 = .ok (.getfield 13, 3) := by decide +kernel
theorem dX9_station_93 : decode cX9_station 93 = .ok (.iconst 0, 1) := by decide +kernel
theorem dX9_station_94 : decode cX9_station 94 = .ok (.dup2, 1) := by decide +kernel
theorem dX9_station_95 : decode cX9_station 95 = .ok (.iaload, 1) := by decide +kernel
theorem dX9_station_96 : decode cX9_station 96 = .ok (.iconst 1, 1) := by decide +kernel
theorem dX9_station_97 : decode cX9_station 97 = .ok (.iadd, 1) := by decide +kernel
theorem dX9_station_98 : decode cX9_station 98 = .ok (.iastore, 1) := by decide +kernel
theorem dX9_station_99 : decode cX9_station 99 = .ok (.return_, 1) := by decide +kernel
theorem dX9_truckLine_0 : decode cX9_truckLine 0 = .ok (.aload_n 0, 1) := by decide +kernel
theorem dX9_truckLine_1 : decode cX9_truckLine 1 = .ok (.iconst 1, 1) := by decide +kernel
theorem dX9_truckLine_2 : decode cX9_truckLine 2 = .ok (.iconst 3, 1) := by decide +kernel
theorem dX9_truckLine_3 : decode cX9_truckLine 3 = .ok (.invokevirtual 139, 3) := by decide +kernel
theorem dX9_truckLine_6 : decode cX9_truckLine 6 = .ok (.ifCond .ne 4, 3) := by decide +kernel
theorem dX9_truckLine_9 : decode cX9_truckLine 9 = .ok (.return_, 1) := by decide +kernel
theorem dX9_truckLine_10 : decode cX9_truckLine 10 = .ok (.aload_n 0, 1) := by decide +kernel
theorem dX9_truckLine_11 : decode cX9_truckLine 11 = .ok (.getfield 13, 3) := by decide +kernel
theorem dX9_truckLine_14 : decode cX9_truckLine 14 = .ok (.iconst 1, 1) := by decide +kernel
theorem dX9_truckLine_15 : decode cX9_truckLine 15 = .ok (.iaload, 1) := by decide +kernel
theorem dX9_truckLine_16 : decode cX9_truckLine 16 = .ok (.istore_n 1, 1) := by decide +kernel
theorem dX9_truckLine_17 : decode cX9_truckLine 17 = .ok (.aload_n 0, 1) := by decide +kernel
theorem dX9_truckLine_18 : decode cX9_truckLine 18 = .ok (.getfield 13, 3) := by decide +kernel
theorem dX9_truckLine_21 : decode cX9_truckLine 21 = .ok (.bipush 42, 2) := by decide +kernel
theorem dX9_truckLine_23 : decode cX9_truckLine 23 = .ok (.iload_n 1, 1) := by decide +kernel
theorem dX9_truckLine_24 : decode cX9_truckLine 24 = .ok (.iadd, 1) := by decide +kernel
theorem dX9_truckLine_25 : decode cX9_truckLine 25 = .ok (.aload_n 0, 1) := by decide +kernel
theorem dX9_truckLine_26 : decode cX9_truckLine 26 = .ok (.iconst 0, 1) := by decide +kernel
theorem dX9_truckLine_27 : decode cX9_truckLine 27 = .ok (.aload_n 0, 1) := by decide +kernel
theorem dX9_truckLine_28 : decode cX9_truckLine 28 = .ok (.getfield 13, 3) := by decide +kernel
theorem dX9_truckLine_31 : decode cX9_truckLine 31 = .ok (.iconst 0, 1) := by decide +kernel
theorem dX9_truckLine_32 : decode cX9_truckLine 32 = .ok (.iaload, 1) := by decide +kernel
theorem dX9_truckLine_33 : decode cX9_truckLine 33 = .ok (.iconst 1, 1) := by decide +kernel
theorem dX9_truckLine_34 : decode cX9_truckLine 34 = .ok (.isub, 1) := by decide +kernel
theorem dX9_truckLine_35 : decode cX9_truckLine 35 = .ok (.invokevirtual 143, 3) := by decide +kernel
theorem dX9_truckLine_38 : decode cX9_truckLine 38 = .ok (.iastore, 1) := by decide +kernel
theorem dX9_truckLine_39 : decode cX9_truckLine 39 = .ok (.aload_n 0, 1) := by decide +kernel
theorem dX9_truckLine_40 : decode cX9_truckLine 40 = .ok (.getfield 13, 3) := by decide +kernel
theorem dX9_truckLine_43 : decode cX9_truckLine 43 = .ok (.bipush 45, 2) := by decide +kernel
theorem dX9_truckLine_45 : decode cX9_truckLine 45 = .ok (.iload_n 1, 1) := by decide +kernel
theorem dX9_truckLine_46 : decode cX9_truckLine 46 = .ok (.iadd, 1) := by decide +kernel
theorem dX9_truckLine_47 : decode cX9_truckLine 47 = .ok (.aload_n 0, 1) := by decide +kernel
theorem dX9_truckLine_48 : decode cX9_truckLine 48 = .ok (.iconst 1, 1) := by decide +kernel
theorem dX9_truckLine_49 : decode cX9_truckLine 49 = .ok (.bipush 20, 2) := by decide +kernel
theorem dX9_truckLine_51 : decode cX9_truckLine 51 = .ok (.invokevirtual 143, 3) := by decide +kernel
theorem dX9_truckLine_54 : decode cX9_truckLine 54 = .ok (.iastore, 1) := by decide +kernel
theorem dX9_truckLine_55 : decode cX9_truckLine 55 = .ok (.aload_n 0, 1) := by decide +kernel
theorem dX9_truckLine_56 : decode cX9_truckLine 56 = .ok (.getfield 13, 3) := by decide +kernel
theorem dX9_truckLine_59 : decode cX9_truckLine 59 = .ok (.iconst 1, 1) := by decide +kernel
theorem dX9_truckLine_60 : decode cX9_truckLine 60 = .ok (.dup2, 1) := by decide +kernel
theorem dX9_truckLine_61 : decode cX9_truckLine 61 = .ok (.iaload, 1) := by decide +kernel
theorem dX9_truckLine_62 : decode cX9_truckLine 62 = .ok (.iconst 1, 1) := by decide +kernel
theorem dX9_truckLine_63 : decode cX9_truckLine 63 = .ok (.iadd, 1) := by decide +kernel
theorem dX9_truckLine_64 : decode cX9_truckLine 64 = .ok (.iastore, 1) := by decide +kernel
theorem dX9_truckLine_65 : decode cX9_truckLine 65 = .ok (.return_, 1) := by decide +kernel
theorem dX9_tripLine_0 : decode cX9_tripLine 0 = .ok (.aload_n 0, 1) := by decide +kernel
theorem dX9_tripLine_1 : decode cX9_tripLine 1 = .ok (.iconst 2, 1) := by decide +kernel
theorem dX9_tripLine_2 : decode cX9_tripLine 2 = .ok (.bipush 30, 2) := by decide +kernel
theorem dX9_tripLine_4 : decode cX9_tripLine 4 = .ok (.invokevirtual 139, 3) := by decide +kernel
theorem dX9_tripLine_7 : decode cX9_tripLine 7 = .ok (.ifCond .ne 4, 3) := by decide +kernel
theorem dX9_tripLine_10 : decode cX9_tripLine 10 = .ok (.return_, 1) := by decide +kernel
theorem dX9_tripLine_11 : decode cX9_tripLine 11 = .ok (.aload_n 0, 1) := by decide +kernel
theorem dX9_tripLine_12 : decode cX9_tripLine 12 = .ok (.getfield 13, 3) := by decide +kernel
theorem dX9_tripLine_15 : decode cX9_tripLine 15 = .ok (.iconst 2, 1) := by decide +kernel
theorem dX9_tripLine_16 : decode cX9_tripLine 16 = .ok (.iaload, 1) := by decide +kernel
theorem dX9_tripLine_17 : decode cX9_tripLine 17 = .ok (.istore_n 1, 1) := by decide +kernel
theorem dX9_tripLine_18 : decode cX9_tripLine 18 = .ok (.aload_n 0, 1) := by decide +kernel
theorem dX9_tripLine_19 : decode cX9_tripLine 19 = .ok (.getfield 13, 3) := by decide +kernel
theorem dX9_tripLine_22 : decode cX9_tripLine 22 = .ok (.bipush 48, 2) := by decide +kernel
theorem dX9_tripLine_24 : decode cX9_tripLine 24 = .ok (.iload_n 1, 1) := by decide +kernel
theorem dX9_tripLine_25 : decode cX9_tripLine 25 = .ok (.iadd, 1) := by decide +kernel
theorem dX9_tripLine_26 : decode cX9_tripLine 26 = .ok (.aload_n 0, 1) := by decide +kernel
theorem dX9_tripLine_27 : decode cX9_tripLine 27 = .ok (.iconst 0, 1) := by decide +kernel
theorem dX9_tripLine_28 : decode cX9_tripLine 28 = .ok (.aload_n 0, 1) := by decide +kernel
theorem dX9_tripLine_29 : decode cX9_tripLine 29 = .ok (.getfield 13, 3) := by decide +kernel
theorem dX9_tripLine_32 : decode cX9_tripLine 32 = .ok (.iconst 0, 1) := by decide +kernel
theorem dX9_tripLine_33 : decode cX9_tripLine 33 = .ok (.iaload, 1) := by decide +kernel
theorem dX9_tripLine_34 : decode cX9_tripLine 34 = .ok (.iconst 1, 1) := by decide +kernel
theorem dX9_tripLine_35 : decode cX9_tripLine 35 = .ok (.isub, 1) := by decide +kernel
theorem dX9_tripLine_36 : decode cX9_tripLine 36 = .ok (.invokevirtual 143, 3) := by decide +kernel
theorem dX9_tripLine_39 : decode cX9_tripLine 39 = .ok (.iastore, 1) := by decide +kernel
theorem dX9_tripLine_40 : decode cX9_tripLine 40 = .ok (.aload_n 0, 1) := by decide +kernel
theorem dX9_tripLine_41 : decode cX9_tripLine 41 = .ok (.getfield 13, 3) := by decide +kernel
theorem dX9_tripLine_44 : decode cX9_tripLine 44 = .ok (.bipush 78, 2) := by decide +kernel
theorem dX9_tripLine_46 : decode cX9_tripLine 46 = .ok (.iload_n 1, 1) := by decide +kernel
theorem dX9_tripLine_47 : decode cX9_tripLine 47 = .ok (.iadd, 1) := by decide +kernel
theorem dX9_tripLine_48 : decode cX9_tripLine 48 = .ok (.aload_n 0, 1) := by decide +kernel
theorem dX9_tripLine_49 : decode cX9_tripLine 49 = .ok (.iconst 0, 1) := by decide +kernel
theorem dX9_tripLine_50 : decode cX9_tripLine 50 = .ok (.aload_n 0, 1) := by decide +kernel
theorem dX9_tripLine_51 : decode cX9_tripLine 51 = .ok (.getfield 13, 3) := by decide +kernel
theorem dX9_tripLine_54 : decode cX9_tripLine 54 = .ok (.iconst 0, 1) := by decide +kernel
theorem dX9_tripLine_55 : decode cX9_tripLine 55 = .ok (.iaload, 1) := by decide +kernel
theorem dX9_tripLine_56 : decode cX9_tripLine 56 = .ok (.iconst 1, 1) := by decide +kernel
theorem dX9_tripLine_57 : decode cX9_tripLine 57 = .ok (.isub, 1) := by decide +kernel
theorem dX9_tripLine_58 : decode cX9_tripLine 58 = .ok (.invokevirtual 143, 3) := by decide +kernel
theorem dX9_tripLine_61 : decode cX9_tripLine 61 = .ok (.iastore, 1) := by decide +kernel
theorem dX9_tripLine_62 : decode cX9_tripLine 62 = .ok (.aload_n 0, 1) := by decide +kernel
theorem dX9_tripLine_63 : decode cX9_tripLine 63 = .ok (.getfield 13, 3) := by decide +kernel
theorem dX9_tripLine_66 : decode cX9_tripLine 66 = .ok (.bipush 108, 2) := by decide +kernel
theorem dX9_tripLine_68 : decode cX9_tripLine 68 = .ok (.iload_n 1, 1) := by decide +kernel
theorem dX9_tripLine_69 : decode cX9_tripLine 69 = .ok (.iadd, 1) := by decide +kernel
theorem dX9_tripLine_70 : decode cX9_tripLine 70 = .ok (.aload_n 0, 1) := by decide +kernel
theorem dX9_tripLine_71 : decode cX9_tripLine 71 = .ok (.iconst 0, 1) := by decide +kernel
theorem dX9_tripLine_72 : decode cX9_tripLine 72 = .ok (.sipush 1439, 3) := by decide +kernel
theorem dX9_tripLine_75 : decode cX9_tripLine 75 = .ok (.invokevirtual 143, 3) := by decide +kernel
theorem dX9_tripLine_78 : decode cX9_tripLine 78 = .ok (.iastore, 1) := by decide +kernel
theorem dX9_tripLine_79 : decode cX9_tripLine 79 = .ok (.aload_n 0, 1) := by decide +kernel
theorem dX9_tripLine_80 : decode cX9_tripLine 80 = .ok (.getfield 13, 3) := by decide +kernel
theorem dX9_tripLine_83 : decode cX9_tripLine 83 = .ok (.iconst 2, 1) := by decide +kernel
theorem dX9_tripLine_84 : decode cX9_tripLine 84 = .ok (.dup2, 1) := by decide +kernel
theorem dX9_tripLine_85 : decode cX9_tripLine 85 = .ok (.iaload, 1) := by decide +kernel
theorem dX9_tripLine_86 : decode cX9_tripLine 86 = .ok (.iconst 1, 1) := by decide +kernel
theorem dX9_tripLine_87 : decode cX9_tripLine 87 = .ok (.iadd, 1) := by decide +kernel
theorem dX9_tripLine_88 : decode cX9_tripLine 88 = .ok (.iastore, 1) := by decide +kernel
theorem dX9_tripLine_89 : decode cX9_tripLine 89 = .ok (.return_, 1) := by decide +kernel
theorem dX9_statement_0 : decode cX9_statement 0 = .ok (.aload_n 0, 1) := by decide +kernel
theorem dX9_statement_1 : decode cX9_statement 1 = .ok (.invokevirtual 147, 3) := by decide +kernel
theorem dX9_statement_4 : decode cX9_statement 4 = .ok (.lstore_n 1, 1) := by decide +kernel
theorem dX9_statement_5 : decode cX9_statement 5 = .ok (.lload_n 1, 1) := by decide +kernel
theorem dX9_statement_6 : decode cX9_statement 6 = .ok (.ldc2_w 151, 3) := by decide +kernel
theorem dX9_statement_9 : decode cX9_statement 9 = .ok (.lcmp, 1) := by decide +kernel
theorem dX9_statement_10 : decode cX9_statement 10 = .ok (.ifCond .ne 10, 3) := by decide +kernel
theorem dX9_statement_13 : decode cX9_statement 13 = .ok (.aload_n 0, 1) := by decide +kernel
theorem dX9_statement_14 : decode cX9_statement 14 = .ok (.invokevirtual 153, 3) := by decide +kernel
theorem dX9_statement_17 : decode cX9_statement 17 = .ok (.goto 190, 3) := by decide +kernel
theorem dX9_statement_20 : decode cX9_statement 20 = .ok (.lload_n 1, 1) := by decide +kernel
theorem dX9_statement_21 : decode cX9_statement 21 = .ok (.ldc2_w 156, 3) := by decide +kernel
theorem dX9_statement_24 : decode cX9_statement 24 = .ok (.lcmp, 1) := by decide +kernel
theorem dX9_statement_25 : decode cX9_statement 25 = .ok (.ifCond .ne 10, 3) := by decide +kernel
theorem dX9_statement_28 : decode cX9_statement 28 = .ok (.aload_n 0, 1) := by decide +kernel
theorem dX9_statement_29 : decode cX9_statement 29 = .ok (.invokevirtual 158, 3) := by decide +kernel
theorem dX9_statement_32 : decode cX9_statement 32 = .ok (.goto 175, 3) := by decide +kernel
theorem dX9_statement_35 : decode cX9_statement 35 = .ok (.lload_n 1, 1) := by decide +kernel
theorem dX9_statement_36 : decode cX9_statement 36 = .ok (.ldc2_w 161, 3) := by decide +kernel
theorem dX9_statement_39 : decode cX9_statement 39 = .ok (.lcmp, 1) := by decide +kernel
theorem dX9_statement_40 : decode cX9_statement 40 = .ok (.ifCond .ne 10, 3) := by decide +kernel
theorem dX9_statement_43 : decode cX9_statement 43 = .ok (.aload_n 0, 1) := by decide +kernel
theorem dX9_statement_44 : decode cX9_statement 44 = .ok (.invokevirtual 163, 3) := by decide +kernel
theorem dX9_statement_47 : decode cX9_statement 47 = .ok (.goto 160, 3) := by decide +kernel
theorem dX9_statement_50 : decode cX9_statement 50 = .ok (.lload_n 1, 1) := by decide +kernel
theorem dX9_statement_51 : decode cX9_statement 51 = .ok (.ldc2_w 166, 3) := by decide +kernel
theorem dX9_statement_54 : decode cX9_statement 54 = .ok (.lcmp, 1) := by decide +kernel
theorem dX9_statement_55 : decode cX9_statement 55 = .ok (.ifCond .ne 41, 3) := by decide +kernel
theorem dX9_statement_58 : decode cX9_statement 58 = .ok (.aload_n 0, 1) := by decide +kernel
theorem dX9_statement_59 : decode cX9_statement 59 = .ok (.iconst 0, 1) := by decide +kernel
theorem dX9_statement_60 : decode cX9_statement 60 = .ok (.invokevirtual 168, 3) := by decide +kernel
theorem dX9_statement_63 : decode cX9_statement 63 = .ok (.ifCond .ne 4, 3) := by decide +kernel
theorem dX9_statement_66 : decode cX9_statement 66 = .ok (.return_, 1) := by decide +kernel
theorem dX9_statement_67 : decode cX9_statement 67 = .ok (.aload_n 0, 1) := by decide +kernel
theorem dX9_statement_68 : decode cX9_statement 68 = .ok (.getfield 13, 3) := by decide +kernel
theorem dX9_statement_71 : decode cX9_statement 71 = .ok (.iconst 3, 1) := by decide +kernel
theorem dX9_statement_72 : decode cX9_statement 72 = .ok (.aload_n 0, 1) := by decide +kernel
theorem dX9_statement_73 : decode cX9_statement 73 = .ok (.iconst 0, 1) := by decide +kernel
theorem dX9_statement_74 : decode cX9_statement 74 = .ok (.bipush 99, 2) := by decide +kernel
theorem dX9_statement_76 : decode cX9_statement 76 = .ok (.invokevirtual 143, 3) := by decide +kernel
theorem dX9_statement_79 : decode cX9_statement 79 = .ok (.iastore, 1) := by decide +kernel
theorem dX9_statement_80 : decode cX9_statement 80 = .ok (.aload_n 0, 1) := by decide +kernel
theorem dX9_statement_81 : decode cX9_statement 81 = .ok (.getfield 13, 3) := by decide +kernel
theorem dX9_statement_84 : decode cX9_statement 84 = .ok (.iconst 4, 1) := by decide +kernel
theorem dX9_statement_85 : decode cX9_statement 85 = .ok (.aload_n 0, 1) := by decide +kernel
theorem dX9_statement_86 : decode cX9_statement 86 = .ok (.iconst 0, 1) := by decide +kernel
theorem dX9_statement_87 : decode cX9_statement 87 = .ok (.bipush 99, 2) := by decide +kernel
theorem dX9_statement_89 : decode cX9_statement 89 = .ok (.invokevirtual 143, 3) := by decide +kernel
theorem dX9_statement_92 : decode cX9_statement 92 = .ok (.iastore, 1) := by decide +kernel
theorem dX9_statement_93 : decode cX9_statement 93 = .ok (.goto 114, 3) := by decide +kernel
theorem dX9_statement_96 : decode cX9_statement 96 = .ok (.lload_n 1, 1) := by decide +kernel
theorem dX9_statement_97 : decode cX9_statement 97 = .ok (.ldc2_w 172, 3) := by decide +kernel
theorem dX9_statement_100 : decode cX9_statement 100 = .ok (.lcmp, 1) := by decide +kernel
theorem dX9_statement_101 : decode cX9_statement 101 = .ok (.ifCond .ne 27, 3) := by decide +kernel
theorem dX9_statement_104 : decode cX9_statement 104 = .ok (.aload_n 0, 1) := by decide +kernel
theorem dX9_statement_105 : decode cX9_statement 105 = .ok (.iconst 1, 1) := by decide +kernel
theorem dX9_statement_106 : decode cX9_statement 106 = .ok (.invokevirtual 168, 3) := by decide +kernel
theorem dX9_statement_109 : decode cX9_statement 109 = .ok (.ifCond .eq 98, 3) := by decide +kernel
theorem dX9_statement_112 : decode cX9_statement 112 = .ok (.aload_n 0, 1) := by decide +kernel
theorem dX9_statement_113 : decode cX9_statement 113 = .ok (.getfield 13, 3) := by decide +kernel
theorem dX9_statement_116 : decode cX9_statement 116 = .ok (.iconst 5, 1) := by decide +kernel
theorem dX9_statement_117 : decode cX9_statement 117 = .ok (.aload_n 0, 1) := by decide +kernel
theorem dX9_statement_118 : decode cX9_statement 118 = .ok (.iconst 0, 1) := by decide +kernel
theorem dX9_statement_119 : decode cX9_statement 119 = .ok (.bipush 50, 2) := by decide +kernel
theorem dX9_statement_121 : decode cX9_statement 121 = .ok (.invokevirtual 143, 3) := by decide +kernel
theorem dX9_statement_124 : decode cX9_statement 124 = .ok (.iastore, 1) := by decide +kernel
theorem dX9_statement_125 : decode cX9_statement 125 = .ok (.goto 82, 3) := by decide +kernel
theorem dX9_statement_128 : decode cX9_statement 128 = .ok (.lload_n 1, 1) := by decide +kernel
theorem dX9_statement_129 : decode cX9_statement 129 = .ok (.ldc2_w 174, 3) := by decide +kernel
theorem dX9_statement_132 : decode cX9_statement 132 = .ok (.lcmp, 1) := by decide +kernel
theorem dX9_statement_133 : decode cX9_statement 133 = .ok (.ifCond .ne 44, 3) := by decide +kernel
theorem dX9_statement_136 : decode cX9_statement 136 = .ok (.aload_n 0, 1) := by decide +kernel
theorem dX9_statement_137 : decode cX9_statement 137 = .ok (.iconst 2, 1) := by decide +kernel
theorem dX9_statement_138 : decode cX9_statement 138 = .ok (.invokevirtual 168, 3) := by decide +kernel
theorem dX9_statement_141 : decode cX9_statement 141 = .ok (.ifCond .ne 4, 3) := by decide +kernel
theorem dX9_statement_144 : decode cX9_statement 144 = .ok (.return_, 1) := by decide +kernel
theorem dX9_statement_145 : decode cX9_statement 145 = .ok (.aload_n 0, 1) := by decide +kernel
theorem dX9_statement_146 : decode cX9_statement 146 = .ok (.getfield 13, 3) := by decide +kernel
theorem dX9_statement_149 : decode cX9_statement 149 = .ok (.bipush 6, 2) := by decide +kernel
theorem dX9_statement_151 : decode cX9_statement 151 = .ok (.aload_n 0, 1) := by decide +kernel
theorem dX9_statement_152 : decode cX9_statement 152 = .ok (.iconst 0, 1) := by decide +kernel
theorem dX9_statement_153 : decode cX9_statement 153 = .ok (.bipush 100, 2) := by decide +kernel
theorem dX9_statement_155 : decode cX9_statement 155 = .ok (.invokevirtual 143, 3) := by decide +kernel
theorem dX9_statement_158 : decode cX9_statement 158 = .ok (.iastore, 1) := by decide +kernel
theorem dX9_statement_159 : decode cX9_statement 159 = .ok (.aload_n 0, 1) := by decide +kernel
theorem dX9_statement_160 : decode cX9_statement 160 = .ok (.getfield 13, 3) := by decide +kernel
theorem dX9_statement_163 : decode cX9_statement 163 = .ok (.bipush 7, 2) := by decide +kernel
theorem dX9_statement_165 : decode cX9_statement 165 = .ok (.aload_n 0, 1) := by decide +kernel
theorem dX9_statement_166 : decode cX9_statement 166 = .ok (.iconst 0, 1) := by decide +kernel
theorem dX9_statement_167 : decode cX9_statement 167 = .ok (.sipush 999, 3) := by decide +kernel
theorem dX9_statement_170 : decode cX9_statement 170 = .ok (.invokevirtual 143, 3) := by decide +kernel
theorem dX9_statement_173 : decode cX9_statement 173 = .ok (.iastore, 1) := by decide +kernel
theorem dX9_statement_174 : decode cX9_statement 174 = .ok (.goto 33, 3) := by decide +kernel
theorem dX9_statement_177 : decode cX9_statement 177 = .ok (.lload_n 1, 1) := by decide +kernel
theorem dX9_statement_178 : decode cX9_statement 178 = .ok (.ldc2_w 176, 3) := by decide +kernel
theorem dX9_statement_181 : decode cX9_statement 181 = .ok (.lcmp, 1) := by decide +kernel
theorem dX9_statement_182 : decode cX9_statement 182 = .ok (.ifCond .ne 18, 3) := by decide +kernel
theorem dX9_statement_185 : decode cX9_statement 185 = .ok (.aload_n 0, 1) := by decide +kernel
theorem dX9_statement_186 : decode cX9_statement 186 = .ok (.iconst 3, 1) := by decide +kernel
theorem dX9_statement_187 : decode cX9_statement 187 = .ok (.invokevirtual 168, 3) := by decide +kernel
theorem dX9_statement_190 : decode cX9_statement 190 = .ok (.ifCond .eq 17, 3) := by decide +kernel
theorem dX9_statement_193 : decode cX9_statement 193 = .ok (.aload_n 0, 1) := by decide +kernel
theorem dX9_statement_194 : decode cX9_statement 194 = .ok (.invokevirtual 178, 3) := by decide +kernel
theorem dX9_statement_197 : decode cX9_statement 197 = .ok (.goto 10, 3) := by decide +kernel
theorem dX9_statement_200 : decode cX9_statement 200 = .ok (.aload_n 0, 1) := by decide +kernel
theorem dX9_statement_201 : decode cX9_statement 201 = .ok (.iconst 0, 1) := by decide +kernel
theorem dX9_statement_202 : decode cX9_statement 202 = .ok (.iconst 1, 1) := by decide +kernel
theorem dX9_statement_203 : decode cX9_statement 203 = .ok (.invokevirtual 122, 3) := by decide +kernel
theorem dX9_statement_206 : decode cX9_statement 206 = .ok (.pop, 1) := by decide +kernel
theorem dX9_statement_207 : decode cX9_statement 207 = .ok (.return_, 1) := by decide +kernel
theorem dX9_emit_0 : decode cX9_emit 0 = .ok (.aload_n 0, 1) := by decide +kernel
theorem dX9_emit_1 : decode cX9_emit 1 = .ok (.getfield 20, 3) := by decide +kernel
theorem dX9_emit_4 : decode cX9_emit 4 = .ok (.aload_n 0, 1) := by decide +kernel
theorem dX9_emit_5 : decode cX9_emit 5 = .ok (.getfield 13, 3) := by decide +kernel
theorem dX9_emit_8 : decode cX9_emit 8 = .ok (.bipush 8, 2) := by decide +kernel
theorem dX9_emit_10 : decode cX9_emit 10 = .ok (.iaload, 1) := by decide +kernel
theorem dX9_emit_11 : decode cX9_emit 11 = .ok (.iload_n 1, 1) := by decide +kernel
theorem dX9_emit_12 : decode cX9_emit 12 = .ok (.iastore, 1) := by decide +kernel
theorem dX9_emit_13 : decode cX9_emit 13 = .ok (.aload_n 0, 1) := by decide +kernel
theorem dX9_emit_14 : decode cX9_emit 14 = .ok (.getfield 13, 3) := by decide +kernel
theorem dX9_emit_17 : decode cX9_emit 17 = .ok (.bipush 8, 2) := by decide +kernel
theorem dX9_emit_19 : decode cX9_emit 19 = .ok (.dup2, 1) := by decide +kernel
theorem dX9_emit_20 : decode cX9_emit 20 = .ok (.iaload, 1) := by decide +kernel
theorem dX9_emit_21 : decode cX9_emit 21 = .ok (.iconst 1, 1) := by decide +kernel
theorem dX9_emit_22 : decode cX9_emit 22 = .ok (.iadd, 1) := by decide +kernel
theorem dX9_emit_23 : decode cX9_emit 23 = .ok (.iastore, 1) := by decide +kernel
theorem dX9_emit_24 : decode cX9_emit 24 = .ok (.return_, 1) := by decide +kernel
theorem dX9_rank_0 : decode cX9_rank 0 = .ok (.iload_n 0, 1) := by decide +kernel
theorem dX9_rank_1 : decode cX9_rank 1 = .ok (.bipush 42, 2) := by decide +kernel
theorem dX9_rank_3 : decode cX9_rank 3 = .ok (.if_icmp .eq 9, 3) := by decide +kernel
theorem dX9_rank_6 : decode cX9_rank 6 = .ok (.iload_n 0, 1) := by decide +kernel
theorem dX9_rank_7 : decode cX9_rank 7 = .ok (.bipush 47, 2) := by decide +kernel
theorem dX9_rank_9 : decode cX9_rank 9 = .ok (.if_icmp .ne 7, 3) := by decide +kernel
theorem dX9_rank_12 : decode cX9_rank 12 = .ok (.iconst 2, 1) := by decide +kernel
theorem dX9_rank_13 : decode cX9_rank 13 = .ok (.goto 20, 3) := by decide +kernel
theorem dX9_rank_16 : decode cX9_rank 16 = .ok (.iload_n 0, 1) := by decide +kernel
theorem dX9_rank_17 : decode cX9_rank 17 = .ok (.bipush 43, 2) := by decide +kernel
theorem dX9_rank_19 : decode cX9_rank 19 = .ok (.if_icmp .eq 9, 3) := by decide +kernel
theorem dX9_rank_22 : decode cX9_rank 22 = .ok (.iload_n 0, 1) := by decide +kernel
theorem dX9_rank_23 : decode cX9_rank 23 = .ok (.bipush 45, 2) := by decide +kernel
theorem dX9_rank_25 : decode cX9_rank 25 = .ok (.if_icmp .ne 7, 3) := by decide +kernel
theorem dX9_rank_28 : decode cX9_rank 28 = .ok (.iconst 1, 1) := by decide +kernel
theorem dX9_rank_29 : decode cX9_rank 29 = .ok (.goto 4, 3) := by decide +kernel
theorem dX9_rank_32 : decode cX9_rank 32 = .ok (.iconst 0, 1) := by decide +kernel
theorem dX9_rank_33 : decode cX9_rank 33 = .ok (.ireturn, 1) := by decide +kernel
theorem dX9_settle_0 : decode cX9_settle 0 = .ok (.aload_n 0, 1) := by decide +kernel
theorem dX9_settle_1 : decode cX9_settle 1 = .ok (.getfield 181, 3) := by decide +kernel
theorem dX9_settle_4 : decode cX9_settle 4 = .ok (.ifCond .le 48, 3) := by decide +kernel
theorem dX9_settle_7 : decode cX9_settle 7 = .ok (.aload_n 0, 1) := by decide +kernel
theorem dX9_settle_8 : decode cX9_settle 8 = .ok (.getfield 26, 3) := by decide +kernel
theorem dX9_settle_11 : decode cX9_settle 11 = .ok (.aload_n 0, 1) := by decide +kernel
theorem dX9_settle_12 : decode cX9_settle 12 = .ok (.getfield 181, 3) := by decide +kernel
theorem dX9_settle_15 : decode cX9_settle 15 = .ok (.iconst 1, 1) := by decide +kernel
theorem dX9_settle_16 : decode cX9_settle 16 = .ok (.isub, 1) := by decide +kernel
theorem dX9_settle_17 : decode cX9_settle 17 = .ok (.iaload, 1) := by decide +kernel
theorem dX9_settle_18 : decode cX9_settle 18 = .ok (.invokestatic 184, 3) := by decide +kernel
theorem dX9_settle_21 : decode cX9_settle 21 = .ok (.iload_n 1, 1) := by decide +kernel
theorem dX9_settle_22 : decode cX9_settle 22 = .ok (.if_icmp .lt 30, 3) := by decide +kernel
theorem dX9_settle_25 : decode cX9_settle 25 = .ok (.aload_n 0, 1) := by decide +kernel
theorem dX9_settle_26 : decode cX9_settle 26 = .ok (.dup, 1) := by decide +kernel
theorem dX9_settle_27 : decode cX9_settle 27 = .ok (.getfield 181, 3) := by decide +kernel
theorem dX9_settle_30 : decode cX9_settle 30 = .ok (.iconst 1, 1) := by decide +kernel
theorem dX9_settle_31 : decode cX9_settle 31 = .ok (.isub, 1) := by decide +kernel
theorem dX9_settle_32 : decode cX9_settle 32 = .ok (.putfield 181, 3) := by decide +kernel
theorem dX9_settle_35 : decode cX9_settle 35 = .ok (.aload_n 0, 1) := by decide +kernel
theorem dX9_settle_36 : decode cX9_settle 36 = .ok (.aload_n 0, 1) := by decide +kernel
theorem dX9_settle_37 : decode cX9_settle 37 = .ok (.getfield 26, 3) := by decide +kernel
theorem dX9_settle_40 : decode cX9_settle 40 = .ok (.aload_n 0, 1) := by decide +kernel
theorem dX9_settle_41 : decode cX9_settle 41 = .ok (.getfield 181, 3) := by decide +kernel
theorem dX9_settle_44 : decode cX9_settle 44 = .ok (.iaload, 1) := by decide +kernel
theorem dX9_settle_45 : decode cX9_settle 45 = .ok (.ineg, 1) := by decide +kernel
theorem dX9_settle_46 : decode cX9_settle 46 = .ok (.invokevirtual 187, 3) := by decide +kernel
theorem dX9_settle_49 : decode cX9_settle 49 = .ok (.goto (-49), 3) := by decide +kernel
theorem dX9_settle_52 : decode cX9_settle 52 = .ok (.return_, 1) := by decide +kernel
theorem dX9_fact_0 : decode cX9_fact 0 = .ok (.aload_n 0, 1) := by decide +kernel
theorem dX9_fact_1 : decode cX9_fact 1 = .ok (.invokevirtual 147, 3) := by decide +kernel
theorem dX9_fact_4 : decode cX9_fact 4 = .ok (.lstore_n 1, 1) := by decide +kernel
theorem dX9_fact_5 : decode cX9_fact 5 = .ok (.lload_n 1, 1) := by decide +kernel
theorem dX9_fact_6 : decode cX9_fact 6 = .ok (.ldc2_w 190, 3) := by decide +kernel
theorem dX9_fact_9 : decode cX9_fact 9 = .ok (.lcmp, 1) := by decide +kernel
theorem dX9_fact_10 : decode cX9_fact 10 = .ok (.ifCond .ne 7, 3) := by decide +kernel
theorem dX9_fact_13 : decode cX9_fact 13 = .ok (.iconst (-1), 1) := by decide +kernel
theorem dX9_fact_14 : decode cX9_fact 14 = .ok (.goto 43, 3) := by decide +kernel
theorem dX9_fact_17 : decode cX9_fact 17 = .ok (.lload_n 1, 1) := by decide +kernel
theorem dX9_fact_18 : decode cX9_fact 18 = .ok (.ldc2_w 192, 3) := by decide +kernel
theorem dX9_fact_21 : decode cX9_fact 21 = .ok (.lcmp, 1) := by decide +kernel
theorem dX9_fact_22 : decode cX9_fact 22 = .ok (.ifCond .ne 8, 3) := by decide +kernel
theorem dX9_fact_25 : decode cX9_fact 25 = .ok (.bipush (-2), 2) := by decide +kernel
theorem dX9_fact_27 : decode cX9_fact 27 = .ok (.goto 30, 3) := by decide +kernel
theorem dX9_fact_30 : decode cX9_fact 30 = .ok (.lload_n 1, 1) := by decide +kernel
theorem dX9_fact_31 : decode cX9_fact 31 = .ok (.ldc2_w 194, 3) := by decide +kernel
theorem dX9_fact_34 : decode cX9_fact 34 = .ok (.lcmp, 1) := by decide +kernel
theorem dX9_fact_35 : decode cX9_fact 35 = .ok (.ifCond .ne 8, 3) := by decide +kernel
theorem dX9_fact_38 : decode cX9_fact 38 = .ok (.bipush (-3), 2) := by decide +kernel
theorem dX9_fact_40 : decode cX9_fact 40 = .ok (.goto 17, 3) := by decide +kernel
theorem dX9_fact_43 : decode cX9_fact 43 = .ok (.lload_n 1, 1) := by decide +kernel
theorem dX9_fact_44 : decode cX9_fact 44 = .ok (.ldc2_w 196, 3) := by decide +kernel
theorem dX9_fact_47 : decode cX9_fact 47 = .ok (.lcmp, 1) := by decide +kernel
theorem dX9_fact_48 : decode cX9_fact 48 = .ok (.ifCond .ne 8, 3) := by decide +kernel
theorem dX9_fact_51 : decode cX9_fact 51 = .ok (.bipush (-4), 2) := by decide +kernel
theorem dX9_fact_53 : decode cX9_fact 53 = .ok (.goto 4, 3) := by decide +kernel
theorem dX9_fact_56 : decode cX9_fact 56 = .ok (.iconst 0, 1) := by decide +kernel
theorem dX9_fact_57 : decode cX9_fact 57 = .ok (.ireturn, 1) := by decide +kernel
theorem dX9_factor_0 : decode cX9_factor 0 = .ok (.aload_n 0, 1) := by decide +kernel
theorem dX9_factor_1 : decode cX9_factor 1 = .ok (.getfield 100, 3) := by decide +kernel
theorem dX9_factor_4 : decode cX9_factor 4 = .ok (.bipush 40, 2) := by decide +kernel
theorem dX9_factor_6 : decode cX9_factor 6 = .ok (.if_icmp .ne 63, 3) := by decide +kernel
theorem dX9_factor_9 : decode cX9_factor 9 = .ok (.aload_n 0, 1) := by decide +kernel
theorem dX9_factor_10 : decode cX9_factor 10 = .ok (.aload_n 0, 1) := by decide +kernel
theorem dX9_factor_11 : decode cX9_factor 11 = .ok (.getfield 198, 3) := by decide +kernel
theorem dX9_factor_14 : decode cX9_factor 14 = .ok (.iconst 5, 1) := by decide +kernel
theorem dX9_factor_15 : decode cX9_factor 15 = .ok (.if_icmp .ge 7, 3) := by decide +kernel
theorem dX9_factor_18 : decode cX9_factor 18 = .ok (.iconst 1, 1) := by decide +kernel
theorem dX9_factor_19 : decode cX9_factor 19 = .ok (.goto 4, 3) := by decide +kernel
theorem dX9_factor_22 : decode cX9_factor 22 = .ok (.iconst 0, 1) := by decide +kernel
theorem dX9_factor_23 : decode cX9_factor 23 = .ok (.iconst 4, 1) := by decide +kernel
theorem dX9_factor_24 : decode cX9_factor 24 = .ok (.invokevirtual 122, 3) := by decide +kernel
theorem dX9_factor_27 : decode cX9_factor 27 = .ok (.ifCond .ne 5, 3) := by decide +kernel
theorem dX9_factor_30 : decode cX9_factor 30 = .ok (.iconst 0, 1) := by decide +kernel
theorem dX9_factor_31 : decode cX9_factor 31 = .ok (.ireturn, 1) := by decide +kernel
theorem dX9_factor_32 : decode cX9_factor 32 = .ok (.aload_n 0, 1) := by decide +kernel
theorem dX9_factor_33 : decode cX9_factor 33 = .ok (.dup, 1) := by decide +kernel
theorem dX9_factor_34 : decode cX9_factor 34 = .ok (.getfield 198, 3) := by decide +kernel
theorem dX9_factor_37 : decode cX9_factor 37 = .ok (.iconst 1, 1) := by decide +kernel
theorem dX9_factor_38 : decode cX9_factor 38 = .ok (.iadd, 1) := by decide +kernel
theorem dX9_factor_39 : decode cX9_factor 39 = .ok (.putfield 198, 3) := by decide +kernel
theorem dX9_factor_42 : decode cX9_factor 42 = .ok (.aload_n 0, 1) := by decide +kernel
theorem dX9_factor_43 : decode cX9_factor 43 = .ok (.getfield 26, 3) := by decide +kernel
theorem dX9_factor_46 : decode cX9_factor 46 = .ok (.aload_n 0, 1) := by decide +kernel
theorem dX9_factor_47 : decode cX9_factor 47 = .ok (.getfield 181, 3) := by decide +kernel
theorem dX9_factor_50 : decode cX9_factor 50 = .ok (.bipush 40, 2) := by decide +kernel
theorem dX9_factor_52 : decode cX9_factor 52 = .ok (.iastore, 1) := by decide +kernel
theorem dX9_factor_53 : decode cX9_factor 53 = .ok (.aload_n 0, 1) := by decide +kernel
theorem dX9_factor_54 : decode cX9_factor 54 = .ok (.dup, 1) := by decide +kernel
theorem dX9_factor_55 : decode cX9_factor 55 = .ok (.getfield 181, 3) := by decide +kernel
theorem dX9_factor_58 : decode cX9_factor 58 = .ok (.iconst 1, 1) := by decide +kernel
theorem dX9_factor_59 : decode cX9_factor 59 = .ok (.iadd, 1) := by decide +kernel
theorem dX9_factor_60 : decode cX9_factor 60 = .ok (.putfield 181, 3) := by decide +kernel
theorem dX9_factor_63 : decode cX9_factor 63 = .ok (.aload_n 0, 1) := by decide +kernel
theorem dX9_factor_64 : decode cX9_factor 64 = .ok (.invokevirtual 126, 3) := by decide +kernel
theorem dX9_factor_67 : decode cX9_factor 67 = .ok (.iconst 0, 1) := by decide +kernel
theorem dX9_factor_68 : decode cX9_factor 68 = .ok (.ireturn, 1) := by decide +kernel
theorem dX9_factor_69 : decode cX9_factor 69 = .ok (.aload_n 0, 1) := by decide +kernel
theorem dX9_factor_70 : decode cX9_factor 70 = .ok (.getfield 100, 3) := by decide +kernel
theorem dX9_factor_73 : decode cX9_factor 73 = .ok (.iconst 2, 1) := by decide +kernel
theorem dX9_factor_74 : decode cX9_factor 74 = .ok (.if_icmp .ne 17, 3) := by decide +kernel
theorem dX9_factor_77 : decode cX9_factor 77 = .ok (.aload_n 0, 1) := by decide +kernel
theorem dX9_factor_78 : decode cX9_factor 78 = .ok (.aload_n 0, 1) := by decide +kernel
theorem dX9_factor_79 : decode cX9_factor 79 = .ok (.getfield 107, 3) := by decide +kernel
theorem dX9_factor_82 : decode cX9_factor 82 = .ok (.invokevirtual 187, 3) := by decide +kernel
theorem dX9_factor_85 : decode cX9_factor 85 = .ok (.aload_n 0, 1) := by decide +kernel
theorem dX9_factor_86 : decode cX9_factor 86 = .ok (.invokevirtual 126, 3) := by decide +kernel
theorem dX9_factor_89 : decode cX9_factor 89 = .ok (.iconst 1, 1) := by decide +kernel
theorem dX9_factor_90 : decode cX9_factor 90 = .ok (.ireturn, 1) := by decide +kernel
theorem dX9_factor_91 : decode cX9_factor 91 = .ok (.aload_n 0, 1) := by decide +kernel
theorem dX9_factor_92 : decode cX9_factor 92 = .ok (.aload_n 0, 1) := by decide +kernel
theorem dX9_factor_93 : decode cX9_factor 93 = .ok (.invokevirtual 201, 3) := by decide +kernel
theorem dX9_factor_96 : decode cX9_factor 96 = .ok (.ifCond .ge 7, 3) := by decide +kernel
theorem dX9_factor_99 : decode cX9_factor 99 = .ok (.iconst 1, 1) := by decide +kernel
theorem dX9_factor_100 : decode cX9_factor 100 = .ok (.goto 4, 3) := by decide +kernel
theorem dX9_factor_103 : decode cX9_factor 103 = .ok (.iconst 0, 1) := by decide +kernel
theorem dX9_factor_104 : decode cX9_factor 104 = .ok (.iconst 1, 1) := by decide +kernel
theorem dX9_factor_105 : decode cX9_factor 105 = .ok (.invokevirtual 122, 3) := by decide +kernel
theorem dX9_factor_108 : decode cX9_factor 108 = .ok (.ifCond .ne 5, 3) := by decide +kernel
theorem dX9_factor_111 : decode cX9_factor 111 = .ok (.iconst 0, 1) := by decide +kernel
theorem dX9_factor_112 : decode cX9_factor 112 = .ok (.ireturn, 1) := by decide +kernel
theorem dX9_factor_113 : decode cX9_factor 113 = .ok (.aload_n 0, 1) := by decide +kernel
theorem dX9_factor_114 : decode cX9_factor 114 = .ok (.aload_n 0, 1) := by decide +kernel
theorem dX9_factor_115 : decode cX9_factor 115 = .ok (.invokevirtual 201, 3) := by decide +kernel
theorem dX9_factor_118 : decode cX9_factor 118 = .ok (.invokevirtual 187, 3) := by decide +kernel
theorem dX9_factor_121 : decode cX9_factor 121 = .ok (.aload_n 0, 1) := by decide +kernel
theorem dX9_factor_122 : decode cX9_factor 122 = .ok (.invokevirtual 126, 3) := by decide +kernel
theorem dX9_factor_125 : decode cX9_factor 125 = .ok (.iconst 1, 1) := by decide +kernel
theorem dX9_factor_126 : decode cX9_factor 126 = .ok (.ireturn, 1) := by decide +kernel
theorem dX9_fare_0 : decode cX9_fare 0 = .ok (.aload_n 0, 1) := by decide +kernel
theorem dX9_fare_1 : decode cX9_fare 1 = .ok (.getfield 13, 3) := by decide +kernel
theorem dX9_fare_4 : decode cX9_fare 4 = .ok (.bipush 8, 2) := by decide +kernel
theorem dX9_fare_6 : decode cX9_fare 6 = .ok (.iconst 0, 1) := by decide +kernel
theorem dX9_fare_7 : decode cX9_fare 7 = .ok (.iastore, 1) := by decide +kernel
theorem dX9_fare_8 : decode cX9_fare 8 = .ok (.aload_n 0, 1) := by decide +kernel
theorem dX9_fare_9 : decode cX9_fare 9 = .ok (.iconst 0, 1) := by decide +kernel
theorem dX9_fare_10 : decode cX9_fare 10 = .ok (.putfield 181, 3) := by decide +kernel
theorem dX9_fare_13 : decode cX9_fare 13 = .ok (.aload_n 0, 1) := by decide +kernel
theorem dX9_fare_14 : decode cX9_fare 14 = .ok (.iconst 0, 1) := by decide +kernel
theorem dX9_fare_15 : decode cX9_fare 15 = .ok (.putfield 198, 3) := by decide +kernel
theorem dX9_fare_18 : decode cX9_fare 18 = .ok (.iconst 0, 1) := by decide +kernel
theorem dX9_fare_19 : decode cX9_fare 19 = .ok (.istore_n 1, 1) := by decide +kernel
theorem dX9_fare_20 : decode cX9_fare 20 = .ok (.iconst 1, 1) := by decide +kernel
theorem dX9_fare_21 : decode cX9_fare 21 = .ok (.istore_n 2, 1) := by decide +kernel
theorem dX9_fare_22 : decode cX9_fare 22 = .ok (.iload_n 2, 1) := by decide +kernel
theorem dX9_fare_23 : decode cX9_fare 23 = .ok (.ifCond .eq 146, 3) := by decide +kernel
theorem dX9_fare_26 : decode cX9_fare 26 = .ok (.aload_n 0, 1) := by decide +kernel
theorem dX9_fare_27 : decode cX9_fare 27 = .ok (.getfield 110, 3) := by decide +kernel
theorem dX9_fare_30 : decode cX9_fare 30 = .ok (.ifCond .ne 139, 3) := by decide +kernel
theorem dX9_fare_33 : decode cX9_fare 33 = .ok (.iload_n 1, 1) := by decide +kernel
theorem dX9_fare_34 : decode cX9_fare 34 = .ok (.ifCond .ne 11, 3) := by decide +kernel
theorem dX9_fare_37 : decode cX9_fare 37 = .ok (.aload_n 0, 1) := by decide +kernel
theorem dX9_fare_38 : decode cX9_fare 38 = .ok (.invokevirtual 205, 3) := by decide +kernel
theorem dX9_fare_41 : decode cX9_fare 41 = .ok (.istore_n 1, 1) := by decide +kernel
theorem dX9_fare_42 : decode cX9_fare 42 = .ok (.goto (-20), 3) := by decide +kernel
theorem dX9_fare_45 : decode cX9_fare 45 = .ok (.aload_n 0, 1) := by decide +kernel
theorem dX9_fare_46 : decode cX9_fare 46 = .ok (.getfield 100, 3) := by decide +kernel
theorem dX9_fare_49 : decode cX9_fare 49 = .ok (.invokestatic 184, 3) := by decide +kernel
theorem dX9_fare_52 : decode cX9_fare 52 = .ok (.ifCond .le 46, 3) := by decide +kernel
theorem dX9_fare_55 : decode cX9_fare 55 = .ok (.aload_n 0, 1) := by decide +kernel
theorem dX9_fare_56 : decode cX9_fare 56 = .ok (.aload_n 0, 1) := by decide +kernel
theorem dX9_fare_57 : decode cX9_fare 57 = .ok (.getfield 100, 3) := by decide +kernel
theorem dX9_fare_60 : decode cX9_fare 60 = .ok (.invokestatic 184, 3) := by decide +kernel
theorem dX9_fare_63 : decode cX9_fare 63 = .ok (.invokevirtual 209, 3) := by decide +kernel
theorem dX9_fare_66 : decode cX9_fare 66 = .ok (.aload_n 0, 1) := by decide +kernel
theorem dX9_fare_67 : decode cX9_fare 67 = .ok (.getfield 26, 3) := by decide +kernel
theorem dX9_fare_70 : decode cX9_fare 70 = .ok (.aload_n 0, 1) := by decide +kernel
theorem dX9_fare_71 : decode cX9_fare 71 = .ok (.getfield 181, 3) := by decide +kernel
theorem dX9_fare_74 : decode cX9_fare 74 = .ok (.aload_n 0, 1) := by decide +kernel
theorem dX9_fare_75 : decode cX9_fare 75 = .ok (.getfield 100, 3) := by decide +kernel
theorem dX9_fare_78 : decode cX9_fare 78 = .ok (.iastore, 1) := by decide +kernel
theorem dX9_fare_79 : decode cX9_fare 79 = .ok (.aload_n 0, 1) := by decide +kernel
theorem dX9_fare_80 : decode cX9_fare 80 = .ok (.dup, 1) := by decide +kernel
theorem dX9_fare_81 : decode cX9_fare 81 = .ok (.getfield 181, 3) := by decide +kernel
theorem dX9_fare_84 : decode cX9_fare 84 = .ok (.iconst 1, 1) := by decide +kernel
theorem dX9_fare_85 : decode cX9_fare 85 = .ok (.iadd, 1) := by decide +kernel
theorem dX9_fare_86 : decode cX9_fare 86 = .ok (.putfield 181, 3) := by decide +kernel
theorem dX9_fare_89 : decode cX9_fare 89 = .ok (.iconst 0, 1) := by decide +kernel
theorem dX9_fare_90 : decode cX9_fare 90 = .ok (.istore_n 1, 1) := by decide +kernel
theorem dX9_fare_91 : decode cX9_fare 91 = .ok (.aload_n 0, 1) := by decide +kernel
theorem dX9_fare_92 : decode cX9_fare 92 = .ok (.invokevirtual 126, 3) := by decide +kernel
theorem dX9_fare_95 : decode cX9_fare 95 = .ok (.goto (-73), 3) := by decide +kernel
theorem dX9_fare_98 : decode cX9_fare 98 = .ok (.aload_n 0, 1) := by decide +kernel
theorem dX9_fare_99 : decode cX9_fare 99 = .ok (.getfield 100, 3) := by decide +kernel
theorem dX9_fare_102 : decode cX9_fare 102 = .ok (.bipush 41, 2) := by decide +kernel
theorem dX9_fare_104 : decode cX9_fare 104 = .ok (.if_icmp .ne 42, 3) := by decide +kernel
theorem dX9_fare_107 : decode cX9_fare 107 = .ok (.aload_n 0, 1) := by decide +kernel
theorem dX9_fare_108 : decode cX9_fare 108 = .ok (.getfield 198, 3) := by decide +kernel
theorem dX9_fare_111 : decode cX9_fare 111 = .ok (.ifCond .le 35, 3) := by decide +kernel
theorem dX9_fare_114 : decode cX9_fare 114 = .ok (.aload_n 0, 1) := by decide +kernel
theorem dX9_fare_115 : decode cX9_fare 115 = .ok (.iconst 1, 1) := by decide +kernel
theorem dX9_fare_116 : decode cX9_fare 116 = .ok (.invokevirtual 209, 3) := by decide +kernel
theorem dX9_fare_119 : decode cX9_fare 119 = .ok (.aload_n 0, 1) := by decide +kernel
theorem dX9_fare_120 : decode cX9_fare 120 = .ok (.dup, 1) := by decide +kernel
theorem dX9_fare_121 : decode cX9_fare 121 = .ok (.getfield 181, 3) := by decide +kernel
theorem dX9_fare_124 : decode cX9_fare 124 = .ok (.iconst 1, 1) := by decide +kernel
theorem dX9_fare_125 : decode cX9_fare 125 = .ok (.isub, 1) := by decide +kernel
theorem dX9_fare_126 : decode cX9_fare 126 = .ok (.putfield 181, 3) := by decide +kernel
theorem dX9_fare_129 : decode cX9_fare 129 = .ok (.aload_n 0, 1) := by decide +kernel
theorem dX9_fare_130 : decode cX9_fare 130 = .ok (.dup, 1) := by decide +kernel
theorem dX9_fare_131 : decode cX9_fare 131 = .ok (.getfield 198, 3) := by decide +kernel
theorem dX9_fare_134 : decode cX9_fare 134 = .ok (.iconst 1, 1) := by decide +kernel
theorem dX9_fare_135 : decode cX9_fare 135 = .ok (.isub, 1) := by decide +kernel
theorem dX9_fare_136 : decode cX9_fare 136 = .ok (.putfield 198, 3) := by decide +kernel
theorem dX9_fare_139 : decode cX9_fare 139 = .ok (.aload_n 0, 1) := by decide +kernel
theorem dX9_fare_140 : decode cX9_fare 140 = .ok (.invokevirtual 126, 3) := by decide +kernel
theorem dX9_fare_143 : decode cX9_fare 143 = .ok (.goto (-121), 3) := by decide +kernel
theorem dX9_fare_146 : decode cX9_fare 146 = .ok (.aload_n 0, 1) := by decide +kernel
theorem dX9_fare_147 : decode cX9_fare 147 = .ok (.aload_n 0, 1) := by decide +kernel
theorem dX9_fare_148 : decode cX9_fare 148 = .ok (.getfield 198, 3) := by decide +kernel
theorem dX9_fare_151 : decode cX9_fare 151 = .ok (.ifCond .ne 7, 3) := by decide +kernel
theorem dX9_fare_154 : decode cX9_fare 154 = .ok (.iconst 1, 1) := by decide +kernel
theorem dX9_fare_155 : decode cX9_fare 155 = .ok (.goto 4, 3) := by decide +kernel
theorem dX9_fare_158 : decode cX9_fare 158 = .ok (.iconst 0, 1) := by decide +kernel
theorem dX9_fare_159 : decode cX9_fare 159 = .ok (.iconst 1, 1) := by decide +kernel
theorem dX9_fare_160 : decode cX9_fare 160 = .ok (.invokevirtual 122, 3) := by decide +kernel
theorem dX9_fare_163 : decode cX9_fare 163 = .ok (.pop, 1) := by decide +kernel
theorem dX9_fare_164 : decode cX9_fare 164 = .ok (.iconst 0, 1) := by decide +kernel
theorem dX9_fare_165 : decode cX9_fare 165 = .ok (.istore_n 2, 1) := by decide +kernel
theorem dX9_fare_166 : decode cX9_fare 166 = .ok (.goto (-144), 3) := by decide +kernel
theorem dX9_fare_169 : decode cX9_fare 169 = .ok (.aload_n 0, 1) := by decide +kernel
theorem dX9_fare_170 : decode cX9_fare 170 = .ok (.iconst 1, 1) := by decide +kernel
theorem dX9_fare_171 : decode cX9_fare 171 = .ok (.invokevirtual 209, 3) := by decide +kernel
theorem dX9_fare_174 : decode cX9_fare 174 = .ok (.return_, 1) := by decide +kernel
theorem dX9_apply_0 : decode cX9_apply 0 = .ok (.iload_n 0, 1) := by decide +kernel
theorem dX9_apply_1 : decode cX9_apply 1 = .ok (.tableswitch 43 42 45 #[39, 31, 43, 35], 31) := by decide +kernel
theorem dX9_apply_32 : decode cX9_apply 32 = .ok (.iload_n 1, 1) := by decide +kernel
theorem dX9_apply_33 : decode cX9_apply 33 = .ok (.iload_n 2, 1) := by decide +kernel
theorem dX9_apply_34 : decode cX9_apply 34 = .ok (.iadd, 1) := by decide +kernel
theorem dX9_apply_35 : decode cX9_apply 35 = .ok (.ireturn, 1) := by decide +kernel
theorem dX9_apply_36 : decode cX9_apply 36 = .ok (.iload_n 1, 1) := by decide +kernel
theorem dX9_apply_37 : decode cX9_apply 37 = .ok (.iload_n 2, 1) := by decide +kernel
theorem dX9_apply_38 : decode cX9_apply 38 = .ok (.isub, 1) := by decide +kernel
theorem dX9_apply_39 : decode cX9_apply 39 = .ok (.ireturn, 1) := by decide +kernel
theorem dX9_apply_40 : decode cX9_apply 40 = .ok (.iload_n 1, 1) := by decide +kernel
theorem dX9_apply_41 : decode cX9_apply 41 = .ok (.iload_n 2, 1) := by decide +kernel
theorem dX9_apply_42 : decode cX9_apply 42 = .ok (.imul, 1) := by decide +kernel
theorem dX9_apply_43 : decode cX9_apply 43 = .ok (.ireturn, 1) := by decide +kernel
theorem dX9_apply_44 : decode cX9_apply 44 = .ok (.iload_n 2, 1) := by decide +kernel
theorem dX9_apply_45 : decode cX9_apply 45 = .ok (.ifCond .ne 7, 3) := by decide +kernel
theorem dX9_apply_48 : decode cX9_apply 48 = .ok (.iconst 0, 1) := by decide +kernel
theorem dX9_apply_49 : decode cX9_apply 49 = .ok (.goto 6, 3) := by decide +kernel
theorem dX9_apply_52 : decode cX9_apply 52 = .ok (.iload_n 1, 1) := by decide +kernel
theorem dX9_apply_53 : decode cX9_apply 53 = .ok (.iload_n 2, 1) := by decide +kernel
theorem dX9_apply_54 : decode cX9_apply 54 = .ok (.idiv, 1) := by decide +kernel
theorem dX9_apply_55 : decode cX9_apply 55 = .ok (.ireturn, 1) := by decide +kernel
theorem dX9_fareOf_0 : decode cX9_fareOf 0 = .ok (.iconst 0, 1) := by decide +kernel
theorem dX9_fareOf_1 : decode cX9_fareOf 1 = .ok (.istore_n 3, 1) := by decide +kernel
theorem dX9_fareOf_2 : decode cX9_fareOf 2 = .ok (.iconst 0, 1) := by decide +kernel
theorem dX9_fareOf_3 : decode cX9_fareOf 3 = .ok (.istore 4, 2) := by decide +kernel
theorem dX9_fareOf_5 : decode cX9_fareOf 5 = .ok (.iload 4, 2) := by decide +kernel
theorem dX9_fareOf_7 : decode cX9_fareOf 7 = .ok (.aload_n 0, 1) := by decide +kernel
theorem dX9_fareOf_8 : decode cX9_fareOf 8 = .ok (.getfield 17, 3) := by decide +kernel
theorem dX9_fareOf_11 : decode cX9_fareOf 11 = .ok (.bipush 8, 2) := by decide +kernel
theorem dX9_fareOf_13 : decode cX9_fareOf 13 = .ok (.iaload, 1) := by decide +kernel
theorem dX9_fareOf_14 : decode cX9_fareOf 14 = .ok (.if_icmp .ge 139, 3) := by decide +kernel
theorem dX9_fareOf_17 : decode cX9_fareOf 17 = .ok (.aload_n 0, 1) := by decide +kernel
theorem dX9_fareOf_18 : decode cX9_fareOf 18 = .ok (.getfield 23, 3) := by decide +kernel
theorem dX9_fareOf_21 : decode cX9_fareOf 21 = .ok (.iload 4, 2) := by decide +kernel
theorem dX9_fareOf_23 : decode cX9_fareOf 23 = .ok (.iaload, 1) := by decide +kernel
theorem dX9_fareOf_24 : decode cX9_fareOf 24 = .ok (.istore 5, 2) := by decide +kernel
theorem dX9_fareOf_26 : decode cX9_fareOf 26 = .ok (.iload 5, 2) := by decide +kernel
theorem dX9_fareOf_28 : decode cX9_fareOf 28 = .ok (.bipush (-4), 2) := by decide +kernel
theorem dX9_fareOf_30 : decode cX9_fareOf 30 = .ok (.if_icmp .lt 86, 3) := by decide +kernel
theorem dX9_fareOf_33 : decode cX9_fareOf 33 = .ok (.aload_n 0, 1) := by decide +kernel
theorem dX9_fareOf_34 : decode cX9_fareOf 34 = .ok (.getfield 29, 3) := by decide +kernel
theorem dX9_fareOf_37 : decode cX9_fareOf 37 = .ok (.iload_n 3, 1) := by decide +kernel
theorem dX9_fareOf_38 : decode cX9_fareOf 38 = .ok (.iload 5, 2) := by decide +kernel
theorem dX9_fareOf_40 : decode cX9_fareOf 40 = .ok (.ifCond .lt 8, 3) := by decide +kernel
theorem dX9_fareOf_43 : decode cX9_fareOf 43 = .ok (.iload 5, 2) := by decide +kernel
theorem dX9_fareOf_45 : decode cX9_fareOf 45 = .ok (.goto 64, 3) := by decide +kernel
theorem dX9_fareOf_48 : decode cX9_fareOf 48 = .ok (.iload 5, 2) := by decide +kernel
theorem dX9_fareOf_50 : decode cX9_fareOf 50 = .ok (.iconst (-1), 1) := by decide +kernel
theorem dX9_fareOf_51 : decode cX9_fareOf 51 = .ok (.if_icmp .ne 12, 3) := by decide +kernel
theorem dX9_fareOf_54 : decode cX9_fareOf 54 = .ok (.aload_n 0, 1) := by decide +kernel
theorem dX9_fareOf_55 : decode cX9_fareOf 55 = .ok (.iload_n 1, 1) := by decide +kernel
theorem dX9_fareOf_56 : decode cX9_fareOf 56 = .ok (.iload_n 2, 1) := by decide +kernel
theorem dX9_fareOf_57 : decode cX9_fareOf 57 = .ok (.invokevirtual 212, 3) := by decide +kernel
theorem dX9_fareOf_60 : decode cX9_fareOf 60 = .ok (.goto 49, 3) := by decide +kernel
theorem dX9_fareOf_63 : decode cX9_fareOf 63 = .ok (.iload 5, 2) := by decide +kernel
theorem dX9_fareOf_65 : decode cX9_fareOf 65 = .ok (.bipush (-2), 2) := by decide +kernel
theorem dX9_fareOf_67 : decode cX9_fareOf 67 = .ok (.if_icmp .ne 15, 3) := by decide +kernel
theorem dX9_fareOf_70 : decode cX9_fareOf 70 = .ok (.aload_n 0, 1) := by decide +kernel
theorem dX9_fareOf_71 : decode cX9_fareOf 71 = .ok (.getfield 32, 3) := by decide +kernel
theorem dX9_fareOf_74 : decode cX9_fareOf 74 = .ok (.bipush 6, 2) := by decide +kernel
theorem dX9_fareOf_76 : decode cX9_fareOf 76 = .ok (.iload_n 1, 1) := by decide +kernel
theorem dX9_fareOf_77 : decode cX9_fareOf 77 = .ok (.iadd, 1) := by decide +kernel
theorem dX9_fareOf_78 : decode cX9_fareOf 78 = .ok (.iaload, 1) := by decide +kernel
theorem dX9_fareOf_79 : decode cX9_fareOf 79 = .ok (.goto 30, 3) := by decide +kernel
theorem dX9_fareOf_82 : decode cX9_fareOf 82 = .ok (.iload 5, 2) := by decide +kernel
theorem dX9_fareOf_84 : decode cX9_fareOf 84 = .ok (.bipush (-3), 2) := by decide +kernel
theorem dX9_fareOf_86 : decode cX9_fareOf 86 = .ok (.if_icmp .ne 11, 3) := by decide +kernel
theorem dX9_fareOf_89 : decode cX9_fareOf 89 = .ok (.aload_n 0, 1) := by decide +kernel
theorem dX9_fareOf_90 : decode cX9_fareOf 90 = .ok (.iload_n 2, 1) := by decide +kernel
theorem dX9_fareOf_91 : decode cX9_fareOf 91 = .ok (.invokevirtual 215, 3) := by decide +kernel
theorem dX9_fareOf_94 : decode cX9_fareOf 94 = .ok (.goto 15, 3) := by decide +kernel
theorem dX9_fareOf_97 : decode cX9_fareOf 97 = .ok (.aload_n 0, 1) := by decide +kernel
theorem dX9_fareOf_98 : decode cX9_fareOf 98 = .ok (.getfield 32, 3) := by decide +kernel
theorem dX9_fareOf_101 : decode cX9_fareOf 101 = .ok (.iconst 0, 1) := by decide +kernel
theorem dX9_fareOf_102 : decode cX9_fareOf 102 = .ok (.iaload, 1) := by decide +kernel
theorem dX9_fareOf_103 : decode cX9_fareOf 103 = .ok (.bipush 60, 2) := by decide +kernel
theorem dX9_fareOf_105 : decode cX9_fareOf 105 = .ok (.idiv, 1) := by decide +kernel
theorem dX9_fareOf_106 : decode cX9_fareOf 106 = .ok (.bipush 24, 2) := by decide +kernel
theorem dX9_fareOf_108 : decode cX9_fareOf 108 = .ok (.irem, 1) := by decide +kernel
theorem dX9_fareOf_109 : decode cX9_fareOf 109 = .ok (.iastore, 1) := by decide +kernel
theorem dX9_fareOf_110 : decode cX9_fareOf 110 = .ok (.iinc 3 1, 3) := by decide +kernel
theorem dX9_fareOf_113 : decode cX9_fareOf 113 = .ok (.goto 34, 3) := by decide +kernel
theorem dX9_fareOf_116 : decode cX9_fareOf 116 = .ok (.iinc 3 (-1), 3) := by decide +kernel
theorem dX9_fareOf_119 : decode cX9_fareOf 119 = .ok (.aload_n 0, 1) := by decide +kernel
theorem dX9_fareOf_120 : decode cX9_fareOf 120 = .ok (.getfield 29, 3) := by decide +kernel
theorem dX9_fareOf_123 : decode cX9_fareOf 123 = .ok (.iload_n 3, 1) := by decide +kernel
theorem dX9_fareOf_124 : decode cX9_fareOf 124 = .ok (.iconst 1, 1) := by decide +kernel
theorem dX9_fareOf_125 : decode cX9_fareOf 125 = .ok (.isub, 1) := by decide +kernel
theorem dX9_fareOf_126 : decode cX9_fareOf 126 = .ok (.iload 5, 2) := by decide +kernel
theorem dX9_fareOf_128 : decode cX9_fareOf 128 = .ok (.ineg, 1) := by decide +kernel
theorem dX9_fareOf_129 : decode cX9_fareOf 129 = .ok (.aload_n 0, 1) := by decide +kernel
theorem dX9_fareOf_130 : decode cX9_fareOf 130 = .ok (.getfield 29, 3) := by decide +kernel
theorem dX9_fareOf_133 : decode cX9_fareOf 133 = .ok (.iload_n 3, 1) := by decide +kernel
theorem dX9_fareOf_134 : decode cX9_fareOf 134 = .ok (.iconst 1, 1) := by decide +kernel
theorem dX9_fareOf_135 : decode cX9_fareOf 135 = .ok (.isub, 1) := by decide +kernel
theorem dX9_fareOf_136 : decode cX9_fareOf 136 = .ok (.iaload, 1) := by decide +kernel
theorem dX9_fareOf_137 : decode cX9_fareOf 137 = .ok (.aload_n 0, 1) := by decide +kernel
theorem dX9_fareOf_138 : decode cX9_fareOf 138 = .ok (.getfield 29, 3) := by decide +kernel
theorem dX9_fareOf_141 : decode cX9_fareOf 141 = .ok (.iload_n 3, 1) := by decide +kernel
theorem dX9_fareOf_142 : decode cX9_fareOf 142 = .ok (.iaload, 1) := by decide +kernel
theorem dX9_fareOf_143 : decode cX9_fareOf 143 = .ok (.invokestatic 218, 3) := by decide +kernel
theorem dX9_fareOf_146 : decode cX9_fareOf 146 = .ok (.iastore, 1) := by decide +kernel
theorem dX9_fareOf_147 : decode cX9_fareOf 147 = .ok (.iinc 4 1, 3) := by decide +kernel
theorem dX9_fareOf_150 : decode cX9_fareOf 150 = .ok (.goto (-145), 3) := by decide +kernel
theorem dX9_fareOf_153 : decode cX9_fareOf 153 = .ok (.aload_n 0, 1) := by decide +kernel
theorem dX9_fareOf_154 : decode cX9_fareOf 154 = .ok (.getfield 29, 3) := by decide +kernel
theorem dX9_fareOf_157 : decode cX9_fareOf 157 = .ok (.iconst 0, 1) := by decide +kernel
theorem dX9_fareOf_158 : decode cX9_fareOf 158 = .ok (.iaload, 1) := by decide +kernel
theorem dX9_fareOf_159 : decode cX9_fareOf 159 = .ok (.ifCond .ge 7, 3) := by decide +kernel
theorem dX9_fareOf_162 : decode cX9_fareOf 162 = .ok (.iconst 0, 1) := by decide +kernel
theorem dX9_fareOf_163 : decode cX9_fareOf 163 = .ok (.goto 27, 3) := by decide +kernel
theorem dX9_fareOf_166 : decode cX9_fareOf 166 = .ok (.aload_n 0, 1) := by decide +kernel
theorem dX9_fareOf_167 : decode cX9_fareOf 167 = .ok (.getfield 29, 3) := by decide +kernel
theorem dX9_fareOf_170 : decode cX9_fareOf 170 = .ok (.iconst 0, 1) := by decide +kernel
theorem dX9_fareOf_171 : decode cX9_fareOf 171 = .ok (.iaload, 1) := by decide +kernel
theorem dX9_fareOf_172 : decode cX9_fareOf 172 = .ok (.sipush 9999, 3) := by decide +kernel
theorem dX9_fareOf_175 : decode cX9_fareOf 175 = .ok (.if_icmp .le 9, 3) := by decide +kernel
theorem dX9_fareOf_178 : decode cX9_fareOf 178 = .ok (.sipush 9999, 3) := by decide +kernel
theorem dX9_fareOf_181 : decode cX9_fareOf 181 = .ok (.goto 9, 3) := by decide +kernel
theorem dX9_fareOf_184 : decode cX9_fareOf 184 = .ok (.aload_n 0, 1) := by decide +kernel
theorem dX9_fareOf_185 : decode cX9_fareOf 185 = .ok (.getfield 29, 3) := by decide +kernel
theorem dX9_fareOf_188 : decode cX9_fareOf 188 = .ok (.iconst 0, 1) := by decide +kernel
theorem dX9_fareOf_189 : decode cX9_fareOf 189 = .ok (.iaload, 1) := by decide +kernel
theorem dX9_fareOf_190 : decode cX9_fareOf 190 = .ok (.ireturn, 1) := by decide +kernel
theorem dX9_parse_0 : decode cX9_parse 0 = .ok (.aload_n 0, 1) := by decide +kernel
theorem dX9_parse_1 : decode cX9_parse 1 = .ok (.iconst 0, 1) := by decide +kernel
theorem dX9_parse_2 : decode cX9_parse 2 = .ok (.putfield 76, 3) := by decide +kernel
theorem dX9_parse_5 : decode cX9_parse 5 = .ok (.iload_n 1, 1) := by decide +kernel
theorem dX9_parse_6 : decode cX9_parse 6 = .ok (.iconst 0, 1) := by decide +kernel
theorem dX9_parse_7 : decode cX9_parse 7 = .ok (.aload_n 0, 1) := by decide +kernel
theorem dX9_parse_8 : decode cX9_parse 8 = .ok (.getfield 80, 3) := by decide +kernel
theorem dX9_parse_11 : decode cX9_parse 11 = .ok (.invokestatic 103, 3) := by decide +kernel
theorem dX9_parse_14 : decode cX9_parse 14 = .ok (.ifCond .ne 9, 3) := by decide +kernel
theorem dX9_parse_17 : decode cX9_parse 17 = .ok (.aload_n 0, 1) := by decide +kernel
theorem dX9_parse_18 : decode cX9_parse 18 = .ok (.iconst 1, 1) := by decide +kernel
theorem dX9_parse_19 : decode cX9_parse 19 = .ok (.invokevirtual 222, 3) := by decide +kernel
theorem dX9_parse_22 : decode cX9_parse 22 = .ok (.ireturn, 1) := by decide +kernel
theorem dX9_parse_23 : decode cX9_parse 23 = .ok (.aload_n 0, 1) := by decide +kernel
theorem dX9_parse_24 : decode cX9_parse 24 = .ok (.iload_n 1, 1) := by decide +kernel
theorem dX9_parse_25 : decode cX9_parse 25 = .ok (.putfield 87, 3) := by decide +kernel
theorem dX9_parse_28 : decode cX9_parse 28 = .ok (.aload_n 0, 1) := by decide +kernel
theorem dX9_parse_29 : decode cX9_parse 29 = .ok (.iconst 0, 1) := by decide +kernel
theorem dX9_parse_30 : decode cX9_parse 30 = .ok (.putfield 80, 3) := by decide +kernel
theorem dX9_parse_33 : decode cX9_parse 33 = .ok (.aload_n 0, 1) := by decide +kernel
theorem dX9_parse_34 : decode cX9_parse 34 = .ok (.iconst 0, 1) := by decide +kernel
theorem dX9_parse_35 : decode cX9_parse 35 = .ok (.putfield 90, 3) := by decide +kernel
theorem dX9_parse_38 : decode cX9_parse 38 = .ok (.aload_n 0, 1) := by decide +kernel
theorem dX9_parse_39 : decode cX9_parse 39 = .ok (.iconst 0, 1) := by decide +kernel
theorem dX9_parse_40 : decode cX9_parse 40 = .ok (.putfield 110, 3) := by decide +kernel
theorem dX9_parse_43 : decode cX9_parse 43 = .ok (.aload_n 0, 1) := by decide +kernel
theorem dX9_parse_44 : decode cX9_parse 44 = .ok (.invokevirtual 70, 3) := by decide +kernel
theorem dX9_parse_47 : decode cX9_parse 47 = .ok (.aload_n 0, 1) := by decide +kernel
theorem dX9_parse_48 : decode cX9_parse 48 = .ok (.invokevirtual 126, 3) := by decide +kernel
theorem dX9_parse_51 : decode cX9_parse 51 = .ok (.aload_n 0, 1) := by decide +kernel
theorem dX9_parse_52 : decode cX9_parse 52 = .ok (.getfield 110, 3) := by decide +kernel
theorem dX9_parse_55 : decode cX9_parse 55 = .ok (.ifCond .ne 43, 3) := by decide +kernel
theorem dX9_parse_58 : decode cX9_parse 58 = .ok (.aload_n 0, 1) := by decide +kernel
theorem dX9_parse_59 : decode cX9_parse 59 = .ok (.getfield 100, 3) := by decide +kernel
theorem dX9_parse_62 : decode cX9_parse 62 = .ok (.ifCond .eq 36, 3) := by decide +kernel
theorem dX9_parse_65 : decode cX9_parse 65 = .ok (.aload_n 0, 1) := by decide +kernel
theorem dX9_parse_66 : decode cX9_parse 66 = .ok (.invokevirtual 225, 3) := by decide +kernel
theorem dX9_parse_69 : decode cX9_parse 69 = .ok (.aload_n 0, 1) := by decide +kernel
theorem dX9_parse_70 : decode cX9_parse 70 = .ok (.aload_n 0, 1) := by decide +kernel
theorem dX9_parse_71 : decode cX9_parse 71 = .ok (.getfield 100, 3) := by decide +kernel
theorem dX9_parse_74 : decode cX9_parse 74 = .ok (.bipush 59, 2) := by decide +kernel
theorem dX9_parse_76 : decode cX9_parse 76 = .ok (.if_icmp .ne 7, 3) := by decide +kernel
theorem dX9_parse_79 : decode cX9_parse 79 = .ok (.iconst 1, 1) := by decide +kernel
theorem dX9_parse_80 : decode cX9_parse 80 = .ok (.goto 4, 3) := by decide +kernel
theorem dX9_parse_83 : decode cX9_parse 83 = .ok (.iconst 0, 1) := by decide +kernel
theorem dX9_parse_84 : decode cX9_parse 84 = .ok (.iconst 1, 1) := by decide +kernel
theorem dX9_parse_85 : decode cX9_parse 85 = .ok (.invokevirtual 122, 3) := by decide +kernel
theorem dX9_parse_88 : decode cX9_parse 88 = .ok (.ifCond .eq (-37), 3) := by decide +kernel
theorem dX9_parse_91 : decode cX9_parse 91 = .ok (.aload_n 0, 1) := by decide +kernel
theorem dX9_parse_92 : decode cX9_parse 92 = .ok (.invokevirtual 126, 3) := by decide +kernel
theorem dX9_parse_95 : decode cX9_parse 95 = .ok (.goto (-44), 3) := by decide +kernel
theorem dX9_parse_98 : decode cX9_parse 98 = .ok (.aload_n 0, 1) := by decide +kernel
theorem dX9_parse_99 : decode cX9_parse 99 = .ok (.getfield 110, 3) := by decide +kernel
theorem dX9_parse_102 : decode cX9_parse 102 = .ok (.ifCond .eq 19, 3) := by decide +kernel
theorem dX9_parse_105 : decode cX9_parse 105 = .ok (.bipush (-2), 2) := by decide +kernel
theorem dX9_parse_107 : decode cX9_parse 107 = .ok (.bipush 8, 2) := by decide +kernel
theorem dX9_parse_109 : decode cX9_parse 109 = .ok (.aload_n 0, 1) := by decide +kernel
theorem dX9_parse_110 : decode cX9_parse 110 = .ok (.getfield 113, 3) := by decide +kernel
theorem dX9_parse_113 : decode cX9_parse 113 = .ok (.imul, 1) := by decide +kernel
theorem dX9_parse_114 : decode cX9_parse 114 = .ok (.aload_n 0, 1) := by decide +kernel
theorem dX9_parse_115 : decode cX9_parse 115 = .ok (.getfield 110, 3) := by decide +kernel
theorem dX9_parse_118 : decode cX9_parse 118 = .ok (.iadd, 1) := by decide +kernel
theorem dX9_parse_119 : decode cX9_parse 119 = .ok (.isub, 1) := by decide +kernel
theorem dX9_parse_120 : decode cX9_parse 120 = .ok (.ireturn, 1) := by decide +kernel
theorem dX9_parse_121 : decode cX9_parse 121 = .ok (.aload_n 0, 1) := by decide +kernel
theorem dX9_parse_122 : decode cX9_parse 122 = .ok (.invokevirtual 73, 3) := by decide +kernel
theorem dX9_parse_125 : decode cX9_parse 125 = .ok (.aload_n 0, 1) := by decide +kernel
theorem dX9_parse_126 : decode cX9_parse 126 = .ok (.getfield 17, 3) := by decide +kernel
theorem dX9_parse_129 : decode cX9_parse 129 = .ok (.iconst 0, 1) := by decide +kernel
theorem dX9_parse_130 : decode cX9_parse 130 = .ok (.iaload, 1) := by decide +kernel
theorem dX9_parse_131 : decode cX9_parse 131 = .ok (.ireturn, 1) := by decide +kernel
theorem dX9_keep_0 : decode cX9_keep 0 = .ok (.aload_n 0, 1) := by decide +kernel
theorem dX9_keep_1 : decode cX9_keep 1 = .ok (.getfield 136, 3) := by decide +kernel
theorem dX9_keep_4 : decode cX9_keep 4 = .ok (.bipush 10, 2) := by decide +kernel
theorem dX9_keep_6 : decode cX9_keep 6 = .ok (.if_icmp .ne 50, 3) := by decide +kernel
theorem dX9_keep_9 : decode cX9_keep 9 = .ok (.iconst 0, 1) := by decide +kernel
theorem dX9_keep_10 : decode cX9_keep 10 = .ok (.istore_n 1, 1) := by decide +kernel
theorem dX9_keep_11 : decode cX9_keep 11 = .ok (.iload_n 1, 1) := by decide +kernel
theorem dX9_keep_12 : decode cX9_keep 12 = .ok (.aload_n 0, 1) := by decide +kernel
theorem dX9_keep_13 : decode cX9_keep 13 = .ok (.getfield 36, 3) := by decide +kernel
theorem dX9_keep_16 : decode cX9_keep 16 = .ok (.arraylength, 1) := by decide +kernel
theorem dX9_keep_17 : decode cX9_keep 17 = .ok (.sipush 3277, 3) := by decide +kernel
theorem dX9_keep_20 : decode cX9_keep 20 = .ok (.isub, 1) := by decide +kernel
theorem dX9_keep_21 : decode cX9_keep 21 = .ok (.if_icmp .ge 25, 3) := by decide +kernel
theorem dX9_keep_24 : decode cX9_keep 24 = .ok (.aload_n 0, 1) := by decide +kernel
theorem dX9_keep_25 : decode cX9_keep 25 = .ok (.getfield 36, 3) := by decide +kernel
theorem dX9_keep_28 : decode cX9_keep 28 = .ok (.iload_n 1, 1) := by decide +kernel
theorem dX9_keep_29 : decode cX9_keep 29 = .ok (.aload_n 0, 1) := by decide +kernel
theorem dX9_keep_30 : decode cX9_keep 30 = .ok (.getfield 36, 3) := by decide +kernel
theorem dX9_keep_33 : decode cX9_keep 33 = .ok (.iload_n 1, 1) := by decide +kernel
theorem dX9_keep_34 : decode cX9_keep 34 = .ok (.sipush 3277, 3) := by decide +kernel
theorem dX9_keep_37 : decode cX9_keep 37 = .ok (.iadd, 1) := by decide +kernel
theorem dX9_keep_38 : decode cX9_keep 38 = .ok (.iaload, 1) := by decide +kernel
theorem dX9_keep_39 : decode cX9_keep 39 = .ok (.iastore, 1) := by decide +kernel
theorem dX9_keep_40 : decode cX9_keep 40 = .ok (.iinc 1 1, 3) := by decide +kernel
theorem dX9_keep_43 : decode cX9_keep 43 = .ok (.goto (-32), 3) := by decide +kernel
theorem dX9_keep_46 : decode cX9_keep 46 = .ok (.aload_n 0, 1) := by decide +kernel
theorem dX9_keep_47 : decode cX9_keep 47 = .ok (.dup, 1) := by decide +kernel
theorem dX9_keep_48 : decode cX9_keep 48 = .ok (.getfield 136, 3) := by decide +kernel
theorem dX9_keep_51 : decode cX9_keep 51 = .ok (.iconst 1, 1) := by decide +kernel
theorem dX9_keep_52 : decode cX9_keep 52 = .ok (.isub, 1) := by decide +kernel
theorem dX9_keep_53 : decode cX9_keep 53 = .ok (.putfield 136, 3) := by decide +kernel
theorem dX9_keep_56 : decode cX9_keep 56 = .ok (.iconst 0, 1) := by decide +kernel
theorem dX9_keep_57 : decode cX9_keep 57 = .ok (.istore_n 1, 1) := by decide +kernel
theorem dX9_keep_58 : decode cX9_keep 58 = .ok (.iload_n 1, 1) := by decide +kernel
theorem dX9_keep_59 : decode cX9_keep 59 = .ok (.sipush 3277, 3) := by decide +kernel
theorem dX9_keep_62 : decode cX9_keep 62 = .ok (.if_icmp .ge 30, 3) := by decide +kernel
theorem dX9_keep_65 : decode cX9_keep 65 = .ok (.aload_n 0, 1) := by decide +kernel
theorem dX9_keep_66 : decode cX9_keep 66 = .ok (.getfield 36, 3) := by decide +kernel
theorem dX9_keep_69 : decode cX9_keep 69 = .ok (.sipush 3277, 3) := by decide +kernel
theorem dX9_keep_72 : decode cX9_keep 72 = .ok (.aload_n 0, 1) := by decide +kernel
theorem dX9_keep_73 : decode cX9_keep 73 = .ok (.getfield 136, 3) := by decide +kernel
theorem dX9_keep_76 : decode cX9_keep 76 = .ok (.imul, 1) := by decide +kernel
theorem dX9_keep_77 : decode cX9_keep 77 = .ok (.iload_n 1, 1) := by decide +kernel
theorem dX9_keep_78 : decode cX9_keep 78 = .ok (.iadd, 1) := by decide +kernel
theorem dX9_keep_79 : decode cX9_keep 79 = .ok (.aload_n 0, 1) := by decide +kernel
theorem dX9_keep_80 : decode cX9_keep 80 = .ok (.getfield 32, 3) := by decide +kernel
theorem dX9_keep_83 : decode cX9_keep 83 = .ok (.iload_n 1, 1) := by decide +kernel
theorem dX9_keep_84 : decode cX9_keep 84 = .ok (.iaload, 1) := by decide +kernel
theorem dX9_keep_85 : decode cX9_keep 85 = .ok (.iastore, 1) := by decide +kernel
theorem dX9_keep_86 : decode cX9_keep 86 = .ok (.iinc 1 1, 3) := by decide +kernel
theorem dX9_keep_89 : decode cX9_keep 89 = .ok (.goto (-31), 3) := by decide +kernel
theorem dX9_keep_92 : decode cX9_keep 92 = .ok (.aload_n 0, 1) := by decide +kernel
theorem dX9_keep_93 : decode cX9_keep 93 = .ok (.dup, 1) := by decide +kernel
theorem dX9_keep_94 : decode cX9_keep 94 = .ok (.getfield 136, 3) := by decide +kernel
theorem dX9_keep_97 : decode cX9_keep 97 = .ok (.iconst 1, 1) := by decide +kernel
theorem dX9_keep_98 : decode cX9_keep 98 = .ok (.iadd, 1) := by decide +kernel
theorem dX9_keep_99 : decode cX9_keep 99 = .ok (.putfield 136, 3) := by decide +kernel
theorem dX9_keep_102 : decode cX9_keep 102 = .ok (.return_, 1) := by decide +kernel
theorem dX9_setAside_0 : decode cX9_setAside 0 = .ok (.iconst 0, 1) := by decide +kernel
theorem dX9_setAside_1 : decode cX9_setAside 1 = .ok (.istore_n 1, 1) := by decide +kernel
theorem dX9_setAside_2 : decode cX9_setAside 2 = .ok (.iload_n 1, 1) := by decide +kernel
theorem dX9_setAside_3 : decode cX9_setAside 3 = .ok (.sipush 3277, 3) := by decide +kernel
theorem dX9_setAside_6 : decode cX9_setAside 6 = .ok (.if_icmp .ge 21, 3) := by decide +kernel
theorem dX9_setAside_9 : decode cX9_setAside 9 = .ok (.aload_n 0, 1) := by decide +kernel
theorem dX9_setAside_10 : decode cX9_setAside 10 = .ok (.getfield 46, 3) := by decide +kernel
theorem dX9_setAside_13 : decode cX9_setAside 13 = .ok (.iload_n 1, 1) := by decide +kernel
theorem dX9_setAside_14 : decode cX9_setAside 14 = .ok (.aload_n 0, 1) := by decide +kernel
theorem dX9_setAside_15 : decode cX9_setAside 15 = .ok (.getfield 32, 3) := by decide +kernel
theorem dX9_setAside_18 : decode cX9_setAside 18 = .ok (.iload_n 1, 1) := by decide +kernel
theorem dX9_setAside_19 : decode cX9_setAside 19 = .ok (.iaload, 1) := by decide +kernel
theorem dX9_setAside_20 : decode cX9_setAside 20 = .ok (.iastore, 1) := by decide +kernel
theorem dX9_setAside_21 : decode cX9_setAside 21 = .ok (.iinc 1 1, 3) := by decide +kernel
theorem dX9_setAside_24 : decode cX9_setAside 24 = .ok (.goto (-22), 3) := by decide +kernel
theorem dX9_setAside_27 : decode cX9_setAside 27 = .ok (.return_, 1) := by decide +kernel
theorem dX9_bringBack_0 : decode cX9_bringBack 0 = .ok (.iconst 0, 1) := by decide +kernel
theorem dX9_bringBack_1 : decode cX9_bringBack 1 = .ok (.istore_n 1, 1) := by decide +kernel
theorem dX9_bringBack_2 : decode cX9_bringBack 2 = .ok (.iload_n 1, 1) := by decide +kernel
theorem dX9_bringBack_3 : decode cX9_bringBack 3 = .ok (.sipush 3277, 3) := by decide +kernel
theorem dX9_bringBack_6 : decode cX9_bringBack 6 = .ok (.if_icmp .ge 21, 3) := by decide +kernel
theorem dX9_bringBack_9 : decode cX9_bringBack 9 = .ok (.aload_n 0, 1) := by decide +kernel
theorem dX9_bringBack_10 : decode cX9_bringBack 10 = .ok (.getfield 32, 3) := by decide +kernel
theorem dX9_bringBack_13 : decode cX9_bringBack 13 = .ok (.iload_n 1, 1) := by decide +kernel
theorem dX9_bringBack_14 : decode cX9_bringBack 14 = .ok (.aload_n 0, 1) := by decide +kernel
theorem dX9_bringBack_15 : decode cX9_bringBack 15 = .ok (.getfield 46, 3) := by decide +kernel
theorem dX9_bringBack_18 : decode cX9_bringBack 18 = .ok (.iload_n 1, 1) := by decide +kernel
theorem dX9_bringBack_19 : decode cX9_bringBack 19 = .ok (.iaload, 1) := by decide +kernel
theorem dX9_bringBack_20 : decode cX9_bringBack 20 = .ok (.iastore, 1) := by decide +kernel
theorem dX9_bringBack_21 : decode cX9_bringBack 21 = .ok (.iinc 1 1, 3) := by decide +kernel
theorem dX9_bringBack_24 : decode cX9_bringBack 24 = .ok (.goto (-22), 3) := by decide +kernel
theorem dX9_bringBack_27 : decode cX9_bringBack 27 = .ok (.return_, 1) := by decide +kernel
theorem dX9_isStation_0 : decode cX9_isStation 0 = .ok (.iload_n 1, 1) := by decide +kernel
theorem dX9_isStation_1 : decode cX9_isStation 1 = .ok (.iconst 0, 1) := by decide +kernel
theorem dX9_isStation_2 : decode cX9_isStation 2 = .ok (.aload_n 0, 1) := by decide +kernel
theorem dX9_isStation_3 : decode cX9_isStation 3 = .ok (.getfield 17, 3) := by decide +kernel
theorem dX9_isStation_6 : decode cX9_isStation 6 = .ok (.iconst 0, 1) := by decide +kernel
theorem dX9_isStation_7 : decode cX9_isStation 7 = .ok (.iaload, 1) := by decide +kernel
theorem dX9_isStation_8 : decode cX9_isStation 8 = .ok (.iconst 1, 1) := by decide +kernel
theorem dX9_isStation_9 : decode cX9_isStation 9 = .ok (.isub, 1) := by decide +kernel
theorem dX9_isStation_10 : decode cX9_isStation 10 = .ok (.invokestatic 103, 3) := by decide +kernel
theorem dX9_isStation_13 : decode cX9_isStation 13 = .ok (.ireturn, 1) := by decide +kernel
theorem dX9_isTruck_0 : decode cX9_isTruck 0 = .ok (.iload_n 1, 1) := by decide +kernel
theorem dX9_isTruck_1 : decode cX9_isTruck 1 = .ok (.iconst 0, 1) := by decide +kernel
theorem dX9_isTruck_2 : decode cX9_isTruck 2 = .ok (.aload_n 0, 1) := by decide +kernel
theorem dX9_isTruck_3 : decode cX9_isTruck 3 = .ok (.getfield 17, 3) := by decide +kernel
theorem dX9_isTruck_6 : decode cX9_isTruck 6 = .ok (.iconst 1, 1) := by decide +kernel
theorem dX9_isTruck_7 : decode cX9_isTruck 7 = .ok (.iaload, 1) := by decide +kernel
theorem dX9_isTruck_8 : decode cX9_isTruck 8 = .ok (.iconst 1, 1) := by decide +kernel
theorem dX9_isTruck_9 : decode cX9_isTruck 9 = .ok (.isub, 1) := by decide +kernel
theorem dX9_isTruck_10 : decode cX9_isTruck 10 = .ok (.invokestatic 103, 3) := by decide +kernel
theorem dX9_isTruck_13 : decode cX9_isTruck 13 = .ok (.ireturn, 1) := by decide +kernel
theorem dX9_of_0 : decode cX9_of 0 = .ok (.aload_n 0, 1) := by decide +kernel
theorem dX9_of_1 : decode cX9_of 1 = .ok (.getfield 32, 3) := by decide +kernel
theorem dX9_of_4 : decode cX9_of 4 = .ok (.bipush 22, 2) := by decide +kernel
theorem dX9_of_6 : decode cX9_of 6 = .ok (.bipush 18, 2) := by decide +kernel
theorem dX9_of_8 : decode cX9_of 8 = .ok (.iload_n 1, 1) := by decide +kernel
theorem dX9_of_9 : decode cX9_of 9 = .ok (.imul, 1) := by decide +kernel
theorem dX9_of_10 : decode cX9_of 10 = .ok (.iadd, 1) := by decide +kernel
theorem dX9_of_11 : decode cX9_of 11 = .ok (.iload_n 2, 1) := by decide +kernel
theorem dX9_of_12 : decode cX9_of 12 = .ok (.iadd, 1) := by decide +kernel
theorem dX9_of_13 : decode cX9_of 13 = .ok (.iaload, 1) := by decide +kernel
theorem dX9_of_14 : decode cX9_of 14 = .ok (.ireturn, 1) := by decide +kernel
theorem dX9_put_0 : decode cX9_put 0 = .ok (.aload_n 0, 1) := by decide +kernel
theorem dX9_put_1 : decode cX9_put 1 = .ok (.getfield 32, 3) := by decide +kernel
theorem dX9_put_4 : decode cX9_put 4 = .ok (.bipush 22, 2) := by decide +kernel
theorem dX9_put_6 : decode cX9_put 6 = .ok (.bipush 18, 2) := by decide +kernel
theorem dX9_put_8 : decode cX9_put 8 = .ok (.iload_n 1, 1) := by decide +kernel
theorem dX9_put_9 : decode cX9_put 9 = .ok (.imul, 1) := by decide +kernel
theorem dX9_put_10 : decode cX9_put 10 = .ok (.iadd, 1) := by decide +kernel
theorem dX9_put_11 : decode cX9_put 11 = .ok (.iload_n 2, 1) := by decide +kernel
theorem dX9_put_12 : decode cX9_put 12 = .ok (.iadd, 1) := by decide +kernel
theorem dX9_put_13 : decode cX9_put 13 = .ok (.iload_n 3, 1) := by decide +kernel
theorem dX9_put_14 : decode cX9_put 14 = .ok (.iastore, 1) := by decide +kernel
theorem dX9_put_15 : decode cX9_put 15 = .ok (.return_, 1) := by decide +kernel
theorem dX9_working_0 : decode cX9_working 0 = .ok (.aload_n 0, 1) := by decide +kernel
theorem dX9_working_1 : decode cX9_working 1 = .ok (.getfield 17, 3) := by decide +kernel
theorem dX9_working_4 : decode cX9_working 4 = .ok (.bipush 26, 2) := by decide +kernel
theorem dX9_working_6 : decode cX9_working 6 = .ok (.iload_n 1, 1) := by decide +kernel
theorem dX9_working_7 : decode cX9_working 7 = .ok (.iadd, 1) := by decide +kernel
theorem dX9_working_8 : decode cX9_working 8 = .ok (.iaload, 1) := by decide +kernel
theorem dX9_working_9 : decode cX9_working 9 = .ok (.aload_n 0, 1) := by decide +kernel
theorem dX9_working_10 : decode cX9_working 10 = .ok (.getfield 32, 3) := by decide +kernel
theorem dX9_working_13 : decode cX9_working 13 = .ok (.bipush 14, 2) := by decide +kernel
theorem dX9_working_15 : decode cX9_working 15 = .ok (.iload_n 1, 1) := by decide +kernel
theorem dX9_working_16 : decode cX9_working 16 = .ok (.iadd, 1) := by decide +kernel
theorem dX9_working_17 : decode cX9_working 17 = .ok (.iaload, 1) := by decide +kernel
theorem dX9_working_18 : decode cX9_working 18 = .ok (.isub, 1) := by decide +kernel
theorem dX9_working_19 : decode cX9_working 19 = .ok (.ireturn, 1) := by decide +kernel
theorem dX9_free_0 : decode cX9_free 0 = .ok (.aload_n 0, 1) := by decide +kernel
theorem dX9_free_1 : decode cX9_free 1 = .ok (.iload_n 1, 1) := by decide +kernel
theorem dX9_free_2 : decode cX9_free 2 = .ok (.invokevirtual 228, 3) := by decide +kernel
theorem dX9_free_5 : decode cX9_free 5 = .ok (.aload_n 0, 1) := by decide +kernel
theorem dX9_free_6 : decode cX9_free 6 = .ok (.getfield 32, 3) := by decide +kernel
theorem dX9_free_9 : decode cX9_free 9 = .ok (.bipush 6, 2) := by decide +kernel
theorem dX9_free_11 : decode cX9_free 11 = .ok (.iload_n 1, 1) := by decide +kernel
theorem dX9_free_12 : decode cX9_free 12 = .ok (.iadd, 1) := by decide +kernel
theorem dX9_free_13 : decode cX9_free 13 = .ok (.iaload, 1) := by decide +kernel
theorem dX9_free_14 : decode cX9_free 14 = .ok (.isub, 1) := by decide +kernel
theorem dX9_free_15 : decode cX9_free 15 = .ok (.ireturn, 1) := by decide +kernel
theorem dX9_mark_0 : decode cX9_mark 0 = .ok (.aload_n 0, 1) := by decide +kernel
theorem dX9_mark_1 : decode cX9_mark 1 = .ok (.iload_n 1, 1) := by decide +kernel
theorem dX9_mark_2 : decode cX9_mark 2 = .ok (.invokevirtual 228, 3) := by decide +kernel
theorem dX9_mark_5 : decode cX9_mark 5 = .ok (.aload_n 0, 1) := by decide +kernel
theorem dX9_mark_6 : decode cX9_mark 6 = .ok (.getfield 17, 3) := by decide +kernel
theorem dX9_mark_9 : decode cX9_mark 9 = .ok (.iconst 5, 1) := by decide +kernel
theorem dX9_mark_10 : decode cX9_mark 10 = .ok (.iaload, 1) := by decide +kernel
theorem dX9_mark_11 : decode cX9_mark 11 = .ok (.imul, 1) := by decide +kernel
theorem dX9_mark_12 : decode cX9_mark 12 = .ok (.bipush 100, 2) := by decide +kernel
theorem dX9_mark_14 : decode cX9_mark 14 = .ok (.idiv, 1) := by decide +kernel
theorem dX9_mark_15 : decode cX9_mark 15 = .ok (.ireturn, 1) := by decide +kernel
theorem dX9_distance_0 : decode cX9_distance 0 = .ok (.aload_n 0, 1) := by decide +kernel
theorem dX9_distance_1 : decode cX9_distance 1 = .ok (.getfield 17, 3) := by decide +kernel
theorem dX9_distance_4 : decode cX9_distance 4 = .ok (.bipush 10, 2) := by decide +kernel
theorem dX9_distance_6 : decode cX9_distance 6 = .ok (.iload_n 1, 1) := by decide +kernel
theorem dX9_distance_7 : decode cX9_distance 7 = .ok (.iadd, 1) := by decide +kernel
theorem dX9_distance_8 : decode cX9_distance 8 = .ok (.iaload, 1) := by decide +kernel
theorem dX9_distance_9 : decode cX9_distance 9 = .ok (.aload_n 0, 1) := by decide +kernel
theorem dX9_distance_10 : decode cX9_distance 10 = .ok (.getfield 17, 3) := by decide +kernel
theorem dX9_distance_13 : decode cX9_distance 13 = .ok (.bipush 10, 2) := by decide +kernel
theorem dX9_distance_15 : decode cX9_distance 15 = .ok (.iload_n 2, 1) := by decide +kernel
theorem dX9_distance_16 : decode cX9_distance 16 = .ok (.iadd, 1) := by decide +kernel
theorem dX9_distance_17 : decode cX9_distance 17 = .ok (.iaload, 1) := by decide +kernel
theorem dX9_distance_18 : decode cX9_distance 18 = .ok (.isub, 1) := by decide +kernel
theorem dX9_distance_19 : decode cX9_distance 19 = .ok (.invokestatic 231, 3) := by decide +kernel
theorem dX9_distance_22 : decode cX9_distance 22 = .ok (.aload_n 0, 1) := by decide +kernel
theorem dX9_distance_23 : decode cX9_distance 23 = .ok (.getfield 17, 3) := by decide +kernel
theorem dX9_distance_26 : decode cX9_distance 26 = .ok (.bipush 18, 2) := by decide +kernel
theorem dX9_distance_28 : decode cX9_distance 28 = .ok (.iload_n 1, 1) := by decide +kernel
theorem dX9_distance_29 : decode cX9_distance 29 = .ok (.iadd, 1) := by decide +kernel
theorem dX9_distance_30 : decode cX9_distance 30 = .ok (.iaload, 1) := by decide +kernel
theorem dX9_distance_31 : decode cX9_distance 31 = .ok (.aload_n 0, 1) := by decide +kernel
theorem dX9_distance_32 : decode cX9_distance 32 = .ok (.getfield 17, 3) := by decide +kernel
theorem dX9_distance_35 : decode cX9_distance 35 = .ok (.bipush 18, 2) := by decide +kernel
theorem dX9_distance_37 : decode cX9_distance 37 = .ok (.iload_n 2, 1) := by decide +kernel
theorem dX9_distance_38 : decode cX9_distance 38 = .ok (.iadd, 1) := by decide +kernel
theorem dX9_distance_39 : decode cX9_distance 39 = .ok (.iaload, 1) := by decide +kernel
theorem dX9_distance_40 : decode cX9_distance 40 = .ok (.isub, 1) := by decide +kernel
theorem dX9_distance_41 : decode cX9_distance 41 = .ok (.invokestatic 231, 3) := by decide +kernel
theorem dX9_distance_44 : decode cX9_distance 44 = .ok (.iadd, 1) := by decide +kernel
theorem dX9_distance_45 : decode cX9_distance 45 = .ok (.ireturn, 1) := by decide +kernel
theorem dX9_ride_0 : decode cX9_ride 0 = .ok (.iconst 1, 1) := by decide +kernel
theorem dX9_ride_1 : decode cX9_ride 1 = .ok (.aload_n 0, 1) := by decide +kernel
theorem dX9_ride_2 : decode cX9_ride 2 = .ok (.iload_n 1, 1) := by decide +kernel
theorem dX9_ride_3 : decode cX9_ride 3 = .ok (.iload_n 2, 1) := by decide +kernel
theorem dX9_ride_4 : decode cX9_ride 4 = .ok (.invokevirtual 234, 3) := by decide +kernel
theorem dX9_ride_7 : decode cX9_ride 7 = .ok (.aload_n 0, 1) := by decide +kernel
theorem dX9_ride_8 : decode cX9_ride 8 = .ok (.getfield 17, 3) := by decide +kernel
theorem dX9_ride_11 : decode cX9_ride 11 = .ok (.iconst 3, 1) := by decide +kernel
theorem dX9_ride_12 : decode cX9_ride 12 = .ok (.iaload, 1) := by decide +kernel
theorem dX9_ride_13 : decode cX9_ride 13 = .ok (.imul, 1) := by decide +kernel
theorem dX9_ride_14 : decode cX9_ride 14 = .ok (.bipush 10, 2) := by decide +kernel
theorem dX9_ride_16 : decode cX9_ride 16 = .ok (.idiv, 1) := by decide +kernel
theorem dX9_ride_17 : decode cX9_ride 17 = .ok (.iadd, 1) := by decide +kernel
theorem dX9_ride_18 : decode cX9_ride 18 = .ok (.ireturn, 1) := by decide +kernel
theorem dX9_drive_0 : decode cX9_drive 0 = .ok (.iconst 1, 1) := by decide +kernel
theorem dX9_drive_1 : decode cX9_drive 1 = .ok (.aload_n 0, 1) := by decide +kernel
theorem dX9_drive_2 : decode cX9_drive 2 = .ok (.iload_n 1, 1) := by decide +kernel
theorem dX9_drive_3 : decode cX9_drive 3 = .ok (.iload_n 2, 1) := by decide +kernel
theorem dX9_drive_4 : decode cX9_drive 4 = .ok (.invokevirtual 234, 3) := by decide +kernel
theorem dX9_drive_7 : decode cX9_drive 7 = .ok (.aload_n 0, 1) := by decide +kernel
theorem dX9_drive_8 : decode cX9_drive 8 = .ok (.getfield 17, 3) := by decide +kernel
theorem dX9_drive_11 : decode cX9_drive 11 = .ok (.iconst 4, 1) := by decide +kernel
theorem dX9_drive_12 : decode cX9_drive 12 = .ok (.iaload, 1) := by decide +kernel
theorem dX9_drive_13 : decode cX9_drive 13 = .ok (.imul, 1) := by decide +kernel
theorem dX9_drive_14 : decode cX9_drive 14 = .ok (.bipush 10, 2) := by decide +kernel
theorem dX9_drive_16 : decode cX9_drive 16 = .ok (.idiv, 1) := by decide +kernel
theorem dX9_drive_17 : decode cX9_drive 17 = .ok (.iadd, 1) := by decide +kernel
theorem dX9_drive_18 : decode cX9_drive 18 = .ok (.ireturn, 1) := by decide +kernel
theorem dX9_isEven_0 : decode cX9_isEven 0 = .ok (.aload_n 0, 1) := by decide +kernel
theorem dX9_isEven_1 : decode cX9_isEven 1 = .ok (.getfield 32, 3) := by decide +kernel
theorem dX9_isEven_4 : decode cX9_isEven 4 = .ok (.bipush 6, 2) := by decide +kernel
theorem dX9_isEven_6 : decode cX9_isEven 6 = .ok (.iload_n 1, 1) := by decide +kernel
theorem dX9_isEven_7 : decode cX9_isEven 7 = .ok (.iadd, 1) := by decide +kernel
theorem dX9_isEven_8 : decode cX9_isEven 8 = .ok (.iaload, 1) := by decide +kernel
theorem dX9_isEven_9 : decode cX9_isEven 9 = .ok (.aload_n 0, 1) := by decide +kernel
theorem dX9_isEven_10 : decode cX9_isEven 10 = .ok (.iload_n 1, 1) := by decide +kernel
theorem dX9_isEven_11 : decode cX9_isEven 11 = .ok (.invokevirtual 237, 3) := by decide +kernel
theorem dX9_isEven_14 : decode cX9_isEven 14 = .ok (.if_icmp .lt 20, 3) := by decide +kernel
theorem dX9_isEven_17 : decode cX9_isEven 17 = .ok (.aload_n 0, 1) := by decide +kernel
theorem dX9_isEven_18 : decode cX9_isEven 18 = .ok (.iload_n 1, 1) := by decide +kernel
theorem dX9_isEven_19 : decode cX9_isEven 19 = .ok (.invokevirtual 215, 3) := by decide +kernel
theorem dX9_isEven_22 : decode cX9_isEven 22 = .ok (.aload_n 0, 1) := by decide +kernel
theorem dX9_isEven_23 : decode cX9_isEven 23 = .ok (.iload_n 1, 1) := by decide +kernel
theorem dX9_isEven_24 : decode cX9_isEven 24 = .ok (.invokevirtual 237, 3) := by decide +kernel
theorem dX9_isEven_27 : decode cX9_isEven 27 = .ok (.if_icmp .lt 7, 3) := by decide +kernel
theorem dX9_isEven_30 : decode cX9_isEven 30 = .ok (.iconst 1, 1) := by decide +kernel
theorem dX9_isEven_31 : decode cX9_isEven 31 = .ok (.goto 4, 3) := by decide +kernel
theorem dX9_isEven_34 : decode cX9_isEven 34 = .ok (.iconst 0, 1) := by decide +kernel
theorem dX9_isEven_35 : decode cX9_isEven 35 = .ok (.ireturn, 1) := by decide +kernel
theorem dX9_size_0 : decode cX9_size 0 = .ok (.aload_n 0, 1) := by decide +kernel
theorem dX9_size_1 : decode cX9_size 1 = .ok (.iconst 0, 1) := by decide +kernel
theorem dX9_size_2 : decode cX9_size 2 = .ok (.putfield 76, 3) := by decide +kernel
theorem dX9_size_5 : decode cX9_size 5 = .ok (.iload_n 1, 1) := by decide +kernel
theorem dX9_size_6 : decode cX9_size 6 = .ok (.iconst 0, 1) := by decide +kernel
theorem dX9_size_7 : decode cX9_size 7 = .ok (.iconst 2, 1) := by decide +kernel
theorem dX9_size_8 : decode cX9_size 8 = .ok (.invokestatic 103, 3) := by decide +kernel
theorem dX9_size_11 : decode cX9_size 11 = .ok (.ifCond .eq 14, 3) := by decide +kernel
theorem dX9_size_14 : decode cX9_size 14 = .ok (.aload_n 0, 1) := by decide +kernel
theorem dX9_size_15 : decode cX9_size 15 = .ok (.getfield 17, 3) := by decide +kernel
theorem dX9_size_18 : decode cX9_size 18 = .ok (.iconst 0, 1) := by decide +kernel
theorem dX9_size_19 : decode cX9_size 19 = .ok (.iload_n 1, 1) := by decide +kernel
theorem dX9_size_20 : decode cX9_size 20 = .ok (.iadd, 1) := by decide +kernel
theorem dX9_size_21 : decode cX9_size 21 = .ok (.iaload, 1) := by decide +kernel
theorem dX9_size_22 : decode cX9_size 22 = .ok (.goto 8, 3) := by decide +kernel
theorem dX9_size_25 : decode cX9_size 25 = .ok (.aload_n 0, 1) := by decide +kernel
theorem dX9_size_26 : decode cX9_size 26 = .ok (.iconst 1, 1) := by decide +kernel
theorem dX9_size_27 : decode cX9_size 27 = .ok (.invokevirtual 222, 3) := by decide +kernel
theorem dX9_size_30 : decode cX9_size 30 = .ok (.ireturn, 1) := by decide +kernel
theorem dX9_time_0 : decode cX9_time 0 = .ok (.aload_n 0, 1) := by decide +kernel
theorem dX9_time_1 : decode cX9_time 1 = .ok (.aload_n 0, 1) := by decide +kernel
theorem dX9_time_2 : decode cX9_time 2 = .ok (.getfield 32, 3) := by decide +kernel
theorem dX9_time_5 : decode cX9_time 5 = .ok (.iconst 0, 1) := by decide +kernel
theorem dX9_time_6 : decode cX9_time 6 = .ok (.iaload, 1) := by decide +kernel
theorem dX9_time_7 : decode cX9_time 7 = .ok (.invokevirtual 240, 3) := by decide +kernel
theorem dX9_time_10 : decode cX9_time 10 = .ok (.ireturn, 1) := by decide +kernel
theorem dX9_loads_0 : decode cX9_loads 0 = .ok (.iconst 0, 1) := by decide +kernel
theorem dX9_loads_1 : decode cX9_loads 1 = .ok (.istore_n 1, 1) := by decide +kernel
theorem dX9_loads_2 : decode cX9_loads 2 = .ok (.iconst 0, 1) := by decide +kernel
theorem dX9_loads_3 : decode cX9_loads 3 = .ok (.istore_n 2, 1) := by decide +kernel
theorem dX9_loads_4 : decode cX9_loads 4 = .ok (.iload_n 2, 1) := by decide +kernel
theorem dX9_loads_5 : decode cX9_loads 5 = .ok (.aload_n 0, 1) := by decide +kernel
theorem dX9_loads_6 : decode cX9_loads 6 = .ok (.getfield 17, 3) := by decide +kernel
theorem dX9_loads_9 : decode cX9_loads 9 = .ok (.iconst 1, 1) := by decide +kernel
theorem dX9_loads_10 : decode cX9_loads 10 = .ok (.iaload, 1) := by decide +kernel
theorem dX9_loads_11 : decode cX9_loads 11 = .ok (.if_icmp .ge 18, 3) := by decide +kernel
theorem dX9_loads_14 : decode cX9_loads 14 = .ok (.iload_n 1, 1) := by decide +kernel
theorem dX9_loads_15 : decode cX9_loads 15 = .ok (.aload_n 0, 1) := by decide +kernel
theorem dX9_loads_16 : decode cX9_loads 16 = .ok (.iload_n 2, 1) := by decide +kernel
theorem dX9_loads_17 : decode cX9_loads 17 = .ok (.iconst 4, 1) := by decide +kernel
theorem dX9_loads_18 : decode cX9_loads 18 = .ok (.invokevirtual 243, 3) := by decide +kernel
theorem dX9_loads_21 : decode cX9_loads 21 = .ok (.iadd, 1) := by decide +kernel
theorem dX9_loads_22 : decode cX9_loads 22 = .ok (.istore_n 1, 1) := by decide +kernel
theorem dX9_loads_23 : decode cX9_loads 23 = .ok (.iinc 2 1, 3) := by decide +kernel
theorem dX9_loads_26 : decode cX9_loads 26 = .ok (.goto (-22), 3) := by decide +kernel
theorem dX9_loads_29 : decode cX9_loads 29 = .ok (.iload_n 1, 1) := by decide +kernel
theorem dX9_loads_30 : decode cX9_loads 30 = .ok (.ireturn, 1) := by decide +kernel
theorem dX9_all_0 : decode cX9_all 0 = .ok (.aload_n 0, 1) := by decide +kernel
theorem dX9_all_1 : decode cX9_all 1 = .ok (.invokevirtual 246, 3) := by decide +kernel
theorem dX9_all_4 : decode cX9_all 4 = .ok (.aload_n 0, 1) := by decide +kernel
theorem dX9_all_5 : decode cX9_all 5 = .ok (.getfield 32, 3) := by decide +kernel
theorem dX9_all_8 : decode cX9_all 8 = .ok (.sipush 204, 3) := by decide +kernel
theorem dX9_all_11 : decode cX9_all 11 = .ok (.iaload, 1) := by decide +kernel
theorem dX9_all_12 : decode cX9_all 12 = .ok (.iadd, 1) := by decide +kernel
theorem dX9_all_13 : decode cX9_all 13 = .ok (.istore_n 1, 1) := by decide +kernel
theorem dX9_all_14 : decode cX9_all 14 = .ok (.iconst 0, 1) := by decide +kernel
theorem dX9_all_15 : decode cX9_all 15 = .ok (.istore_n 2, 1) := by decide +kernel
theorem dX9_all_16 : decode cX9_all 16 = .ok (.iload_n 2, 1) := by decide +kernel
theorem dX9_all_17 : decode cX9_all 17 = .ok (.aload_n 0, 1) := by decide +kernel
theorem dX9_all_18 : decode cX9_all 18 = .ok (.getfield 17, 3) := by decide +kernel
theorem dX9_all_21 : decode cX9_all 21 = .ok (.iconst 0, 1) := by decide +kernel
theorem dX9_all_22 : decode cX9_all 22 = .ok (.iaload, 1) := by decide +kernel
theorem dX9_all_23 : decode cX9_all 23 = .ok (.if_icmp .ge 21, 3) := by decide +kernel
theorem dX9_all_26 : decode cX9_all 26 = .ok (.iload_n 1, 1) := by decide +kernel
theorem dX9_all_27 : decode cX9_all 27 = .ok (.aload_n 0, 1) := by decide +kernel
theorem dX9_all_28 : decode cX9_all 28 = .ok (.getfield 32, 3) := by decide +kernel
theorem dX9_all_31 : decode cX9_all 31 = .ok (.bipush 6, 2) := by decide +kernel
theorem dX9_all_33 : decode cX9_all 33 = .ok (.iload_n 2, 1) := by decide +kernel
theorem dX9_all_34 : decode cX9_all 34 = .ok (.iadd, 1) := by decide +kernel
theorem dX9_all_35 : decode cX9_all 35 = .ok (.iaload, 1) := by decide +kernel
theorem dX9_all_36 : decode cX9_all 36 = .ok (.iadd, 1) := by decide +kernel
theorem dX9_all_37 : decode cX9_all 37 = .ok (.istore_n 1, 1) := by decide +kernel
theorem dX9_all_38 : decode cX9_all 38 = .ok (.iinc 2 1, 3) := by decide +kernel
theorem dX9_all_41 : decode cX9_all 41 = .ok (.goto (-25), 3) := by decide +kernel
theorem dX9_all_44 : decode cX9_all 44 = .ok (.iload_n 1, 1) := by decide +kernel
theorem dX9_all_45 : decode cX9_all 45 = .ok (.ireturn, 1) := by decide +kernel
theorem dX9_fleet_0 : decode cX9_fleet 0 = .ok (.aload_n 0, 1) := by decide +kernel
theorem dX9_fleet_1 : decode cX9_fleet 1 = .ok (.aload_n 0, 1) := by decide +kernel
theorem dX9_fleet_2 : decode cX9_fleet 2 = .ok (.invokevirtual 249, 3) := by decide +kernel
theorem dX9_fleet_5 : decode cX9_fleet 5 = .ok (.invokevirtual 240, 3) := by decide +kernel
theorem dX9_fleet_8 : decode cX9_fleet 8 = .ok (.ireturn, 1) := by decide +kernel
theorem dX9_bikes_0 : decode cX9_bikes 0 = .ok (.aload_n 0, 1) := by decide +kernel
theorem dX9_bikes_1 : decode cX9_bikes 1 = .ok (.iconst 0, 1) := by decide +kernel
theorem dX9_bikes_2 : decode cX9_bikes 2 = .ok (.putfield 76, 3) := by decide +kernel
theorem dX9_bikes_5 : decode cX9_bikes 5 = .ok (.aload_n 0, 1) := by decide +kernel
theorem dX9_bikes_6 : decode cX9_bikes 6 = .ok (.iload_n 1, 1) := by decide +kernel
theorem dX9_bikes_7 : decode cX9_bikes 7 = .ok (.invokevirtual 252, 3) := by decide +kernel
theorem dX9_bikes_10 : decode cX9_bikes 10 = .ok (.ifCond .eq 15, 3) := by decide +kernel
theorem dX9_bikes_13 : decode cX9_bikes 13 = .ok (.aload_n 0, 1) := by decide +kernel
theorem dX9_bikes_14 : decode cX9_bikes 14 = .ok (.getfield 32, 3) := by decide +kernel
theorem dX9_bikes_17 : decode cX9_bikes 17 = .ok (.bipush 6, 2) := by decide +kernel
theorem dX9_bikes_19 : decode cX9_bikes 19 = .ok (.iload_n 1, 1) := by decide +kernel
theorem dX9_bikes_20 : decode cX9_bikes 20 = .ok (.iadd, 1) := by decide +kernel
theorem dX9_bikes_21 : decode cX9_bikes 21 = .ok (.iaload, 1) := by decide +kernel
theorem dX9_bikes_22 : decode cX9_bikes 22 = .ok (.goto 8, 3) := by decide +kernel
theorem dX9_bikes_25 : decode cX9_bikes 25 = .ok (.aload_n 0, 1) := by decide +kernel
theorem dX9_bikes_26 : decode cX9_bikes 26 = .ok (.iconst 1, 1) := by decide +kernel
theorem dX9_bikes_27 : decode cX9_bikes 27 = .ok (.invokevirtual 222, 3) := by decide +kernel
theorem dX9_bikes_30 : decode cX9_bikes 30 = .ok (.ireturn, 1) := by decide +kernel
theorem dX9_freeDocks_0 : decode cX9_freeDocks 0 = .ok (.aload_n 0, 1) := by decide +kernel
theorem dX9_freeDocks_1 : decode cX9_freeDocks 1 = .ok (.iconst 0, 1) := by decide +kernel
theorem dX9_freeDocks_2 : decode cX9_freeDocks 2 = .ok (.putfield 76, 3) := by decide +kernel
theorem dX9_freeDocks_5 : decode cX9_freeDocks 5 = .ok (.aload_n 0, 1) := by decide +kernel
theorem dX9_freeDocks_6 : decode cX9_freeDocks 6 = .ok (.iload_n 1, 1) := by decide +kernel
theorem dX9_freeDocks_7 : decode cX9_freeDocks 7 = .ok (.invokevirtual 252, 3) := by decide +kernel
theorem dX9_freeDocks_10 : decode cX9_freeDocks 10 = .ok (.ifCond .eq 11, 3) := by decide +kernel
theorem dX9_freeDocks_13 : decode cX9_freeDocks 13 = .ok (.aload_n 0, 1) := by decide +kernel
theorem dX9_freeDocks_14 : decode cX9_freeDocks 14 = .ok (.iload_n 1, 1) := by decide +kernel
theorem dX9_freeDocks_15 : decode cX9_freeDocks 15 = .ok (.invokevirtual 215, 3) := by decide +kernel
theorem dX9_freeDocks_18 : decode cX9_freeDocks 18 = .ok (.goto 8, 3) := by decide +kernel
theorem dX9_freeDocks_21 : decode cX9_freeDocks 21 = .ok (.aload_n 0, 1) := by decide +kernel
theorem dX9_freeDocks_22 : decode cX9_freeDocks 22 = .ok (.iconst 1, 1) := by decide +kernel
theorem dX9_freeDocks_23 : decode cX9_freeDocks 23 = .ok (.invokevirtual 222, 3) := by decide +kernel
theorem dX9_freeDocks_26 : decode cX9_freeDocks 26 = .ok (.ireturn, 1) := by decide +kernel
theorem dX9_brokenDocks_0 : decode cX9_brokenDocks 0 = .ok (.aload_n 0, 1) := by decide +kernel
theorem dX9_brokenDocks_1 : decode cX9_brokenDocks 1 = .ok (.iconst 0, 1) := by decide +kernel
theorem dX9_brokenDocks_2 : decode cX9_brokenDocks 2 = .ok (.putfield 76, 3) := by decide +kernel
theorem dX9_brokenDocks_5 : decode cX9_brokenDocks 5 = .ok (.aload_n 0, 1) := by decide +kernel
theorem dX9_brokenDocks_6 : decode cX9_brokenDocks 6 = .ok (.iload_n 1, 1) := by decide +kernel
theorem dX9_brokenDocks_7 : decode cX9_brokenDocks 7 = .ok (.invokevirtual 252, 3) := by decide +kernel
theorem dX9_brokenDocks_10 : decode cX9_brokenDocks 10 = .ok (.ifCond .eq 15, 3) := by decide +kernel
theorem dX9_brokenDocks_13 : decode cX9_brokenDocks 13 = .ok (.aload_n 0, 1) := by decide +kernel
theorem dX9_brokenDocks_14 : decode cX9_brokenDocks 14 = .ok (.getfield 32, 3) := by decide +kernel
theorem dX9_brokenDocks_17 : decode cX9_brokenDocks 17 = .ok (.bipush 14, 2) := by decide +kernel
theorem dX9_brokenDocks_19 : decode cX9_brokenDocks 19 = .ok (.iload_n 1, 1) := by decide +kernel
theorem dX9_brokenDocks_20 : decode cX9_brokenDocks 20 = .ok (.iadd, 1) := by decide +kernel
theorem dX9_brokenDocks_21 : decode cX9_brokenDocks 21 = .ok (.iaload, 1) := by decide +kernel
theorem dX9_brokenDocks_22 : decode cX9_brokenDocks 22 = .ok (.goto 8, 3) := by decide +kernel
theorem dX9_brokenDocks_25 : decode cX9_brokenDocks 25 = .ok (.aload_n 0, 1) := by decide +kernel
theorem dX9_brokenDocks_26 : decode cX9_brokenDocks 26 = .ok (.iconst 1, 1) := by decide +kernel
theorem dX9_brokenDocks_27 : decode cX9_brokenDocks 27 = .ok (.invokevirtual 222, 3) := by decide +kernel
theorem dX9_brokenDocks_30 : decode cX9_brokenDocks 30 = .ok (.ireturn, 1) := by decide +kernel
theorem dX9_isBalanced_0 : decode cX9_isBalanced 0 = .ok (.aload_n 0, 1) := by decide +kernel
theorem dX9_isBalanced_1 : decode cX9_isBalanced 1 = .ok (.aload_n 0, 1) := by decide +kernel
theorem dX9_isBalanced_2 : decode cX9_isBalanced 2 = .ok (.iload_n 1, 1) := by decide +kernel
theorem dX9_isBalanced_3 : decode cX9_isBalanced 3 = .ok (.invokevirtual 252, 3) := by decide +kernel
theorem dX9_isBalanced_6 : decode cX9_isBalanced 6 = .ok (.ifCond .eq 7, 3) := by decide +kernel
theorem dX9_isBalanced_9 : decode cX9_isBalanced 9 = .ok (.iconst 0, 1) := by decide +kernel
theorem dX9_isBalanced_10 : decode cX9_isBalanced 10 = .ok (.goto 4, 3) := by decide +kernel
theorem dX9_isBalanced_13 : decode cX9_isBalanced 13 = .ok (.iconst 1, 1) := by decide +kernel
theorem dX9_isBalanced_14 : decode cX9_isBalanced 14 = .ok (.putfield 76, 3) := by decide +kernel
theorem dX9_isBalanced_17 : decode cX9_isBalanced 17 = .ok (.aload_n 0, 1) := by decide +kernel
theorem dX9_isBalanced_18 : decode cX9_isBalanced 18 = .ok (.getfield 76, 3) := by decide +kernel
theorem dX9_isBalanced_21 : decode cX9_isBalanced 21 = .ok (.ifCond .ne 15, 3) := by decide +kernel
theorem dX9_isBalanced_24 : decode cX9_isBalanced 24 = .ok (.aload_n 0, 1) := by decide +kernel
theorem dX9_isBalanced_25 : decode cX9_isBalanced 25 = .ok (.iload_n 1, 1) := by decide +kernel
theorem dX9_isBalanced_26 : decode cX9_isBalanced 26 = .ok (.invokevirtual 255, 3) := by decide +kernel
theorem dX9_isBalanced_29 : decode cX9_isBalanced 29 = .ok (.ifCond .eq 7, 3) := by decide +kernel
theorem dX9_isBalanced_32 : decode cX9_isBalanced 32 = .ok (.iconst 1, 1) := by decide +kernel
theorem dX9_isBalanced_33 : decode cX9_isBalanced 33 = .ok (.goto 4, 3) := by decide +kernel
theorem dX9_isBalanced_36 : decode cX9_isBalanced 36 = .ok (.iconst 0, 1) := by decide +kernel
theorem dX9_isBalanced_37 : decode cX9_isBalanced 37 = .ok (.ireturn, 1) := by decide +kernel
theorem dX9_atLeast0_0 : decode cX9_atLeast0 0 = .ok (.iload_n 0, 1) := by decide +kernel
theorem dX9_atLeast0_1 : decode cX9_atLeast0 1 = .ok (.ifCond .ge 7, 3) := by decide +kernel
theorem dX9_atLeast0_4 : decode cX9_atLeast0 4 = .ok (.iconst 0, 1) := by decide +kernel
theorem dX9_atLeast0_5 : decode cX9_atLeast0 5 = .ok (.goto 4, 3) := by decide +kernel
theorem dX9_atLeast0_8 : decode cX9_atLeast0 8 = .ok (.iload_n 0, 1) := by decide +kernel
theorem dX9_atLeast0_9 : decode cX9_atLeast0 9 = .ok (.ireturn, 1) := by decide +kernel
theorem dX9_imbalance_0 : decode cX9_imbalance 0 = .ok (.iconst 0, 1) := by decide +kernel
theorem dX9_imbalance_1 : decode cX9_imbalance 1 = .ok (.istore_n 1, 1) := by decide +kernel
theorem dX9_imbalance_2 : decode cX9_imbalance 2 = .ok (.iconst 0, 1) := by decide +kernel
theorem dX9_imbalance_3 : decode cX9_imbalance 3 = .ok (.istore_n 2, 1) := by decide +kernel
theorem dX9_imbalance_4 : decode cX9_imbalance 4 = .ok (.iload_n 2, 1) := by decide +kernel
theorem dX9_imbalance_5 : decode cX9_imbalance 5 = .ok (.aload_n 0, 1) := by decide +kernel
theorem dX9_imbalance_6 : decode cX9_imbalance 6 = .ok (.getfield 17, 3) := by decide +kernel
theorem dX9_imbalance_9 : decode cX9_imbalance 9 = .ok (.iconst 0, 1) := by decide +kernel
theorem dX9_imbalance_10 : decode cX9_imbalance 10 = .ok (.iaload, 1) := by decide +kernel
theorem dX9_imbalance_11 : decode cX9_imbalance 11 = .ok (.if_icmp .ge 45, 3) := by decide +kernel
theorem dX9_imbalance_14 : decode cX9_imbalance 14 = .ok (.iload_n 1, 1) := by decide +kernel
theorem dX9_imbalance_15 : decode cX9_imbalance 15 = .ok (.aload_n 0, 1) := by decide +kernel
theorem dX9_imbalance_16 : decode cX9_imbalance 16 = .ok (.iload_n 2, 1) := by decide +kernel
theorem dX9_imbalance_17 : decode cX9_imbalance 17 = .ok (.invokevirtual 237, 3) := by decide +kernel
theorem dX9_imbalance_20 : decode cX9_imbalance 20 = .ok (.aload_n 0, 1) := by decide +kernel
theorem dX9_imbalance_21 : decode cX9_imbalance 21 = .ok (.getfield 32, 3) := by decide +kernel
theorem dX9_imbalance_24 : decode cX9_imbalance 24 = .ok (.bipush 6, 2) := by decide +kernel
theorem dX9_imbalance_26 : decode cX9_imbalance 26 = .ok (.iload_n 2, 1) := by decide +kernel
theorem dX9_imbalance_27 : decode cX9_imbalance 27 = .ok (.iadd, 1) := by decide +kernel
theorem dX9_imbalance_28 : decode cX9_imbalance 28 = .ok (.iaload, 1) := by decide +kernel
theorem dX9_imbalance_29 : decode cX9_imbalance 29 = .ok (.isub, 1) := by decide +kernel
theorem dX9_imbalance_30 : decode cX9_imbalance 30 = .ok (.invokestatic 258, 3) := by decide +kernel
theorem dX9_imbalance_33 : decode cX9_imbalance 33 = .ok (.aload_n 0, 1) := by decide +kernel
theorem dX9_imbalance_34 : decode cX9_imbalance 34 = .ok (.iload_n 2, 1) := by decide +kernel
theorem dX9_imbalance_35 : decode cX9_imbalance 35 = .ok (.invokevirtual 237, 3) := by decide +kernel
theorem dX9_imbalance_38 : decode cX9_imbalance 38 = .ok (.aload_n 0, 1) := by decide +kernel
theorem dX9_imbalance_39 : decode cX9_imbalance 39 = .ok (.iload_n 2, 1) := by decide +kernel
theorem dX9_imbalance_40 : decode cX9_imbalance 40 = .ok (.invokevirtual 215, 3) := by decide +kernel
theorem dX9_imbalance_43 : decode cX9_imbalance 43 = .ok (.isub, 1) := by decide +kernel
theorem dX9_imbalance_44 : decode cX9_imbalance 44 = .ok (.invokestatic 258, 3) := by decide +kernel
theorem dX9_imbalance_47 : decode cX9_imbalance 47 = .ok (.iadd, 1) := by decide +kernel
theorem dX9_imbalance_48 : decode cX9_imbalance 48 = .ok (.iadd, 1) := by decide +kernel
theorem dX9_imbalance_49 : decode cX9_imbalance 49 = .ok (.istore_n 1, 1) := by decide +kernel
theorem dX9_imbalance_50 : decode cX9_imbalance 50 = .ok (.iinc 2 1, 3) := by decide +kernel
theorem dX9_imbalance_53 : decode cX9_imbalance 53 = .ok (.goto (-49), 3) := by decide +kernel
theorem dX9_imbalance_56 : decode cX9_imbalance 56 = .ok (.aload_n 0, 1) := by decide +kernel
theorem dX9_imbalance_57 : decode cX9_imbalance 57 = .ok (.iload_n 1, 1) := by decide +kernel
theorem dX9_imbalance_58 : decode cX9_imbalance 58 = .ok (.invokevirtual 240, 3) := by decide +kernel
theorem dX9_imbalance_61 : decode cX9_imbalance 61 = .ok (.ireturn, 1) := by decide +kernel
theorem dX9_nearestTo_0 : decode cX9_nearestTo 0 = .ok (.iconst (-1), 1) := by decide +kernel
theorem dX9_nearestTo_1 : decode cX9_nearestTo 1 = .ok (.istore_n 3, 1) := by decide +kernel
theorem dX9_nearestTo_2 : decode cX9_nearestTo 2 = .ok (.iconst 0, 1) := by decide +kernel
theorem dX9_nearestTo_3 : decode cX9_nearestTo 3 = .ok (.istore 4, 2) := by decide +kernel
theorem dX9_nearestTo_5 : decode cX9_nearestTo 5 = .ok (.iload 4, 2) := by decide +kernel
theorem dX9_nearestTo_7 : decode cX9_nearestTo 7 = .ok (.aload_n 0, 1) := by decide +kernel
theorem dX9_nearestTo_8 : decode cX9_nearestTo 8 = .ok (.getfield 17, 3) := by decide +kernel
theorem dX9_nearestTo_11 : decode cX9_nearestTo 11 = .ok (.iconst 0, 1) := by decide +kernel
theorem dX9_nearestTo_12 : decode cX9_nearestTo 12 = .ok (.iaload, 1) := by decide +kernel
theorem dX9_nearestTo_13 : decode cX9_nearestTo 13 = .ok (.if_icmp .ge 67, 3) := by decide +kernel
theorem dX9_nearestTo_16 : decode cX9_nearestTo 16 = .ok (.iload 4, 2) := by decide +kernel
theorem dX9_nearestTo_18 : decode cX9_nearestTo 18 = .ok (.iload_n 1, 1) := by decide +kernel
theorem dX9_nearestTo_19 : decode cX9_nearestTo 19 = .ok (.if_icmp .eq 55, 3) := by decide +kernel
theorem dX9_nearestTo_22 : decode cX9_nearestTo 22 = .ok (.iload_n 2, 1) := by decide +kernel
theorem dX9_nearestTo_23 : decode cX9_nearestTo 23 = .ok (.ifCond .eq 12, 3) := by decide +kernel
theorem dX9_nearestTo_26 : decode cX9_nearestTo 26 = .ok (.aload_n 0, 1) := by decide +kernel
theorem dX9_nearestTo_27 : decode cX9_nearestTo 27 = .ok (.iload 4, 2) := by decide +kernel
theorem dX9_nearestTo_29 : decode cX9_nearestTo 29 = .ok (.invokevirtual 215, 3) := by decide +kernel
theorem dX9_nearestTo_32 : decode cX9_nearestTo 32 = .ok (.goto 13, 3) := by decide +kernel
theorem dX9_nearestTo_35 : decode cX9_nearestTo 35 = .ok (.aload_n 0, 1) := by decide +kernel
theorem dX9_nearestTo_36 : decode cX9_nearestTo 36 = .ok (.getfield 32, 3) := by decide +kernel
theorem dX9_nearestTo_39 : decode cX9_nearestTo 39 = .ok (.bipush 6, 2) := by decide +kernel
theorem dX9_nearestTo_41 : decode cX9_nearestTo 41 = .ok (.iload 4, 2) := by decide +kernel
theorem dX9_nearestTo_43 : decode cX9_nearestTo 43 = .ok (.iadd, 1) := by decide +kernel
theorem dX9_nearestTo_44 : decode cX9_nearestTo 44 = .ok (.iaload, 1) := by decide +kernel
theorem dX9_nearestTo_45 : decode cX9_nearestTo 45 = .ok (.ifCond .ne 6, 3) := by decide +kernel
theorem dX9_nearestTo_48 : decode cX9_nearestTo 48 = .ok (.goto 26, 3) := by decide +kernel
theorem dX9_nearestTo_51 : decode cX9_nearestTo 51 = .ok (.iload_n 3, 1) := by decide +kernel
theorem dX9_nearestTo_52 : decode cX9_nearestTo 52 = .ok (.ifCond .lt 19, 3) := by decide +kernel
theorem dX9_nearestTo_55 : decode cX9_nearestTo 55 = .ok (.aload_n 0, 1) := by decide +kernel
theorem dX9_nearestTo_56 : decode cX9_nearestTo 56 = .ok (.iload_n 1, 1) := by decide +kernel
theorem dX9_nearestTo_57 : decode cX9_nearestTo 57 = .ok (.iload 4, 2) := by decide +kernel
theorem dX9_nearestTo_59 : decode cX9_nearestTo 59 = .ok (.invokevirtual 234, 3) := by decide +kernel
theorem dX9_nearestTo_62 : decode cX9_nearestTo 62 = .ok (.aload_n 0, 1) := by decide +kernel
theorem dX9_nearestTo_63 : decode cX9_nearestTo 63 = .ok (.iload_n 1, 1) := by decide +kernel
theorem dX9_nearestTo_64 : decode cX9_nearestTo 64 = .ok (.iload_n 3, 1) := by decide +kernel
theorem dX9_nearestTo_65 : decode cX9_nearestTo 65 = .ok (.invokevirtual 234, 3) := by decide +kernel
theorem dX9_nearestTo_68 : decode cX9_nearestTo 68 = .ok (.if_icmp .ge 6, 3) := by decide +kernel
theorem dX9_nearestTo_71 : decode cX9_nearestTo 71 = .ok (.iload 4, 2) := by decide +kernel
theorem dX9_nearestTo_73 : decode cX9_nearestTo 73 = .ok (.istore_n 3, 1) := by decide +kernel
theorem dX9_nearestTo_74 : decode cX9_nearestTo 74 = .ok (.iinc 4 1, 3) := by decide +kernel
theorem dX9_nearestTo_77 : decode cX9_nearestTo 77 = .ok (.goto (-72), 3) := by decide +kernel
theorem dX9_nearestTo_80 : decode cX9_nearestTo 80 = .ok (.iload_n 3, 1) := by decide +kernel
theorem dX9_nearestTo_81 : decode cX9_nearestTo 81 = .ok (.ireturn, 1) := by decide +kernel
theorem dX9_nearest_0 : decode cX9_nearest 0 = .ok (.aload_n 0, 1) := by decide +kernel
theorem dX9_nearest_1 : decode cX9_nearest 1 = .ok (.iconst 0, 1) := by decide +kernel
theorem dX9_nearest_2 : decode cX9_nearest 2 = .ok (.putfield 76, 3) := by decide +kernel
theorem dX9_nearest_5 : decode cX9_nearest 5 = .ok (.aload_n 0, 1) := by decide +kernel
theorem dX9_nearest_6 : decode cX9_nearest 6 = .ok (.iload_n 1, 1) := by decide +kernel
theorem dX9_nearest_7 : decode cX9_nearest 7 = .ok (.invokevirtual 252, 3) := by decide +kernel
theorem dX9_nearest_10 : decode cX9_nearest 10 = .ok (.ifCond .eq 12, 3) := by decide +kernel
theorem dX9_nearest_13 : decode cX9_nearest 13 = .ok (.aload_n 0, 1) := by decide +kernel
theorem dX9_nearest_14 : decode cX9_nearest 14 = .ok (.iload_n 1, 1) := by decide +kernel
theorem dX9_nearest_15 : decode cX9_nearest 15 = .ok (.iload_n 2, 1) := by decide +kernel
theorem dX9_nearest_16 : decode cX9_nearest 16 = .ok (.invokevirtual 261, 3) := by decide +kernel
theorem dX9_nearest_19 : decode cX9_nearest 19 = .ok (.goto 8, 3) := by decide +kernel
theorem dX9_nearest_22 : decode cX9_nearest 22 = .ok (.aload_n 0, 1) := by decide +kernel
theorem dX9_nearest_23 : decode cX9_nearest 23 = .ok (.iconst 1, 1) := by decide +kernel
theorem dX9_nearest_24 : decode cX9_nearest 24 = .ok (.invokevirtual 222, 3) := by decide +kernel
theorem dX9_nearest_27 : decode cX9_nearest 27 = .ok (.ireturn, 1) := by decide +kernel
theorem dX9_areStations_0 : decode cX9_areStations 0 = .ok (.aload_n 0, 1) := by decide +kernel
theorem dX9_areStations_1 : decode cX9_areStations 1 = .ok (.iload_n 1, 1) := by decide +kernel
theorem dX9_areStations_2 : decode cX9_areStations 2 = .ok (.invokevirtual 252, 3) := by decide +kernel
theorem dX9_areStations_5 : decode cX9_areStations 5 = .ok (.ifCond .eq 15, 3) := by decide +kernel
theorem dX9_areStations_8 : decode cX9_areStations 8 = .ok (.aload_n 0, 1) := by decide +kernel
theorem dX9_areStations_9 : decode cX9_areStations 9 = .ok (.iload_n 2, 1) := by decide +kernel
theorem dX9_areStations_10 : decode cX9_areStations 10 = .ok (.invokevirtual 252, 3) := by decide +kernel
theorem dX9_areStations_13 : decode cX9_areStations 13 = .ok (.ifCond .eq 7, 3) := by decide +kernel
theorem dX9_areStations_16 : decode cX9_areStations 16 = .ok (.iconst 1, 1) := by decide +kernel
theorem dX9_areStations_17 : decode cX9_areStations 17 = .ok (.goto 4, 3) := by decide +kernel
theorem dX9_areStations_20 : decode cX9_areStations 20 = .ok (.iconst 0, 1) := by decide +kernel
theorem dX9_areStations_21 : decode cX9_areStations 21 = .ok (.ireturn, 1) := by decide +kernel
theorem dX9_rideMinutes_0 : decode cX9_rideMinutes 0 = .ok (.aload_n 0, 1) := by decide +kernel
theorem dX9_rideMinutes_1 : decode cX9_rideMinutes 1 = .ok (.iconst 0, 1) := by decide +kernel
theorem dX9_rideMinutes_2 : decode cX9_rideMinutes 2 = .ok (.putfield 76, 3) := by decide +kernel
theorem dX9_rideMinutes_5 : decode cX9_rideMinutes 5 = .ok (.aload_n 0, 1) := by decide +kernel
theorem dX9_rideMinutes_6 : decode cX9_rideMinutes 6 = .ok (.iload_n 1, 1) := by decide +kernel
theorem dX9_rideMinutes_7 : decode cX9_rideMinutes 7 = .ok (.iload_n 2, 1) := by decide +kernel
theorem dX9_rideMinutes_8 : decode cX9_rideMinutes 8 = .ok (.invokevirtual 265, 3) := by decide +kernel
theorem dX9_rideMinutes_11 : decode cX9_rideMinutes 11 = .ok (.ifCond .eq 12, 3) := by decide +kernel
theorem dX9_rideMinutes_14 : decode cX9_rideMinutes 14 = .ok (.aload_n 0, 1) := by decide +kernel
theorem dX9_rideMinutes_15 : decode cX9_rideMinutes 15 = .ok (.iload_n 1, 1) := by decide +kernel
theorem dX9_rideMinutes_16 : decode cX9_rideMinutes 16 = .ok (.iload_n 2, 1) := by decide +kernel
theorem dX9_rideMinutes_17 : decode cX9_rideMinutes 17 = .ok (.invokevirtual 212, 3) := by decide +kernel
theorem dX9_rideMinutes_20 : decode cX9_rideMinutes 20 = .ok (.goto 8, 3) := by decide +kernel
theorem dX9_rideMinutes_23 : decode cX9_rideMinutes 23 = .ok (.aload_n 0, 1) := by decide +kernel
theorem dX9_rideMinutes_24 : decode cX9_rideMinutes 24 = .ok (.iconst 1, 1) := by decide +kernel
theorem dX9_rideMinutes_25 : decode cX9_rideMinutes 25 = .ok (.invokevirtual 222, 3) := by decide +kernel
theorem dX9_rideMinutes_28 : decode cX9_rideMinutes 28 = .ok (.ireturn, 1) := by decide +kernel
theorem dX9_quote_0 : decode cX9_quote 0 = .ok (.aload_n 0, 1) := by decide +kernel
theorem dX9_quote_1 : decode cX9_quote 1 = .ok (.iconst 0, 1) := by decide +kernel
theorem dX9_quote_2 : decode cX9_quote 2 = .ok (.putfield 76, 3) := by decide +kernel
theorem dX9_quote_5 : decode cX9_quote 5 = .ok (.aload_n 0, 1) := by decide +kernel
theorem dX9_quote_6 : decode cX9_quote 6 = .ok (.iload_n 1, 1) := by decide +kernel
theorem dX9_quote_7 : decode cX9_quote 7 = .ok (.iload_n 2, 1) := by decide +kernel
theorem dX9_quote_8 : decode cX9_quote 8 = .ok (.invokevirtual 265, 3) := by decide +kernel
theorem dX9_quote_11 : decode cX9_quote 11 = .ok (.ifCond .eq 12, 3) := by decide +kernel
theorem dX9_quote_14 : decode cX9_quote 14 = .ok (.aload_n 0, 1) := by decide +kernel
theorem dX9_quote_15 : decode cX9_quote 15 = .ok (.iload_n 1, 1) := by decide +kernel
theorem dX9_quote_16 : decode cX9_quote 16 = .ok (.iload_n 2, 1) := by decide +kernel
theorem dX9_quote_17 : decode cX9_quote 17 = .ok (.invokevirtual 268, 3) := by decide +kernel
theorem dX9_quote_20 : decode cX9_quote 20 = .ok (.goto 8, 3) := by decide +kernel
theorem dX9_quote_23 : decode cX9_quote 23 = .ok (.aload_n 0, 1) := by decide +kernel
theorem dX9_quote_24 : decode cX9_quote 24 = .ok (.iconst 1, 1) := by decide +kernel
theorem dX9_quote_25 : decode cX9_quote 25 = .ok (.invokevirtual 222, 3) := by decide +kernel
theorem dX9_quote_28 : decode cX9_quote 28 = .ok (.ireturn, 1) := by decide +kernel
theorem dX9_bonus_0 : decode cX9_bonus 0 = .ok (.aload_n 0, 1) := by decide +kernel
theorem dX9_bonus_1 : decode cX9_bonus 1 = .ok (.getfield 32, 3) := by decide +kernel
theorem dX9_bonus_4 : decode cX9_bonus 4 = .ok (.bipush 6, 2) := by decide +kernel
theorem dX9_bonus_6 : decode cX9_bonus 6 = .ok (.iload_n 1, 1) := by decide +kernel
theorem dX9_bonus_7 : decode cX9_bonus 7 = .ok (.iadd, 1) := by decide +kernel
theorem dX9_bonus_8 : decode cX9_bonus 8 = .ok (.iaload, 1) := by decide +kernel
theorem dX9_bonus_9 : decode cX9_bonus 9 = .ok (.bipush 100, 2) := by decide +kernel
theorem dX9_bonus_11 : decode cX9_bonus 11 = .ok (.imul, 1) := by decide +kernel
theorem dX9_bonus_12 : decode cX9_bonus 12 = .ok (.aload_n 0, 1) := by decide +kernel
theorem dX9_bonus_13 : decode cX9_bonus 13 = .ok (.getfield 17, 3) := by decide +kernel
theorem dX9_bonus_16 : decode cX9_bonus 16 = .ok (.bipush 6, 2) := by decide +kernel
theorem dX9_bonus_18 : decode cX9_bonus 18 = .ok (.iaload, 1) := by decide +kernel
theorem dX9_bonus_19 : decode cX9_bonus 19 = .ok (.aload_n 0, 1) := by decide +kernel
theorem dX9_bonus_20 : decode cX9_bonus 20 = .ok (.iload_n 1, 1) := by decide +kernel
theorem dX9_bonus_21 : decode cX9_bonus 21 = .ok (.invokevirtual 228, 3) := by decide +kernel
theorem dX9_bonus_24 : decode cX9_bonus 24 = .ok (.imul, 1) := by decide +kernel
theorem dX9_bonus_25 : decode cX9_bonus 25 = .ok (.if_icmp .ge 13, 3) := by decide +kernel
theorem dX9_bonus_28 : decode cX9_bonus 28 = .ok (.aload_n 0, 1) := by decide +kernel
theorem dX9_bonus_29 : decode cX9_bonus 29 = .ok (.getfield 17, 3) := by decide +kernel
theorem dX9_bonus_32 : decode cX9_bonus 32 = .ok (.bipush 7, 2) := by decide +kernel
theorem dX9_bonus_34 : decode cX9_bonus 34 = .ok (.iaload, 1) := by decide +kernel
theorem dX9_bonus_35 : decode cX9_bonus 35 = .ok (.goto 4, 3) := by decide +kernel
theorem dX9_bonus_38 : decode cX9_bonus 38 = .ok (.iconst 0, 1) := by decide +kernel
theorem dX9_bonus_39 : decode cX9_bonus 39 = .ok (.ireturn, 1) := by decide +kernel
theorem dX9_bonusAt_0 : decode cX9_bonusAt 0 = .ok (.aload_n 0, 1) := by decide +kernel
theorem dX9_bonusAt_1 : decode cX9_bonusAt 1 = .ok (.iconst 0, 1) := by decide +kernel
theorem dX9_bonusAt_2 : decode cX9_bonusAt 2 = .ok (.putfield 76, 3) := by decide +kernel
theorem dX9_bonusAt_5 : decode cX9_bonusAt 5 = .ok (.aload_n 0, 1) := by decide +kernel
theorem dX9_bonusAt_6 : decode cX9_bonusAt 6 = .ok (.iload_n 1, 1) := by decide +kernel
theorem dX9_bonusAt_7 : decode cX9_bonusAt 7 = .ok (.invokevirtual 252, 3) := by decide +kernel
theorem dX9_bonusAt_10 : decode cX9_bonusAt 10 = .ok (.ifCond .eq 11, 3) := by decide +kernel
theorem dX9_bonusAt_13 : decode cX9_bonusAt 13 = .ok (.aload_n 0, 1) := by decide +kernel
theorem dX9_bonusAt_14 : decode cX9_bonusAt 14 = .ok (.iload_n 1, 1) := by decide +kernel
theorem dX9_bonusAt_15 : decode cX9_bonusAt 15 = .ok (.invokevirtual 271, 3) := by decide +kernel
theorem dX9_bonusAt_18 : decode cX9_bonusAt 18 = .ok (.goto 8, 3) := by decide +kernel
theorem dX9_bonusAt_21 : decode cX9_bonusAt 21 = .ok (.aload_n 0, 1) := by decide +kernel
theorem dX9_bonusAt_22 : decode cX9_bonusAt 22 = .ok (.iconst 1, 1) := by decide +kernel
theorem dX9_bonusAt_23 : decode cX9_bonusAt 23 = .ok (.invokevirtual 222, 3) := by decide +kernel
theorem dX9_bonusAt_26 : decode cX9_bonusAt 26 = .ok (.ireturn, 1) := by decide +kernel
theorem dX9_bestDeal_0 : decode cX9_bestDeal 0 = .ok (.aload_n 0, 1) := by decide +kernel
theorem dX9_bestDeal_1 : decode cX9_bestDeal 1 = .ok (.iconst 0, 1) := by decide +kernel
theorem dX9_bestDeal_2 : decode cX9_bestDeal 2 = .ok (.putfield 76, 3) := by decide +kernel
theorem dX9_bestDeal_5 : decode cX9_bestDeal 5 = .ok (.aload_n 0, 1) := by decide +kernel
theorem dX9_bestDeal_6 : decode cX9_bestDeal 6 = .ok (.iload_n 1, 1) := by decide +kernel
theorem dX9_bestDeal_7 : decode cX9_bestDeal 7 = .ok (.invokevirtual 252, 3) := by decide +kernel
theorem dX9_bestDeal_10 : decode cX9_bestDeal 10 = .ok (.ifCond .ne 9, 3) := by decide +kernel
theorem dX9_bestDeal_13 : decode cX9_bestDeal 13 = .ok (.aload_n 0, 1) := by decide +kernel
theorem dX9_bestDeal_14 : decode cX9_bestDeal 14 = .ok (.iconst 1, 1) := by decide +kernel
theorem dX9_bestDeal_15 : decode cX9_bestDeal 15 = .ok (.invokevirtual 222, 3) := by decide +kernel
theorem dX9_bestDeal_18 : decode cX9_bestDeal 18 = .ok (.ireturn, 1) := by decide +kernel
theorem dX9_bestDeal_19 : decode cX9_bestDeal 19 = .ok (.iconst (-1), 1) := by decide +kernel
theorem dX9_bestDeal_20 : decode cX9_bestDeal 20 = .ok (.istore_n 2, 1) := by decide +kernel
theorem dX9_bestDeal_21 : decode cX9_bestDeal 21 = .ok (.iconst 0, 1) := by decide +kernel
theorem dX9_bestDeal_22 : decode cX9_bestDeal 22 = .ok (.istore_n 3, 1) := by decide +kernel
theorem dX9_bestDeal_23 : decode cX9_bestDeal 23 = .ok (.iconst 0, 1) := by decide +kernel
theorem dX9_bestDeal_24 : decode cX9_bestDeal 24 = .ok (.istore 4, 2) := by decide +kernel
theorem dX9_bestDeal_26 : decode cX9_bestDeal 26 = .ok (.iload 4, 2) := by decide +kernel
theorem dX9_bestDeal_28 : decode cX9_bestDeal 28 = .ok (.aload_n 0, 1) := by decide +kernel
theorem dX9_bestDeal_29 : decode cX9_bestDeal 29 = .ok (.getfield 17, 3) := by decide +kernel
theorem dX9_bestDeal_32 : decode cX9_bestDeal 32 = .ok (.iconst 0, 1) := by decide +kernel
theorem dX9_bestDeal_33 : decode cX9_bestDeal 33 = .ok (.iaload, 1) := by decide +kernel
theorem dX9_bestDeal_34 : decode cX9_bestDeal 34 = .ok (.if_icmp .ge 62, 3) := by decide +kernel
theorem dX9_bestDeal_37 : decode cX9_bestDeal 37 = .ok (.iload 4, 2) := by decide +kernel
theorem dX9_bestDeal_39 : decode cX9_bestDeal 39 = .ok (.iload_n 1, 1) := by decide +kernel
theorem dX9_bestDeal_40 : decode cX9_bestDeal 40 = .ok (.if_icmp .eq 50, 3) := by decide +kernel
theorem dX9_bestDeal_43 : decode cX9_bestDeal 43 = .ok (.aload_n 0, 1) := by decide +kernel
theorem dX9_bestDeal_44 : decode cX9_bestDeal 44 = .ok (.iload 4, 2) := by decide +kernel
theorem dX9_bestDeal_46 : decode cX9_bestDeal 46 = .ok (.invokevirtual 215, 3) := by decide +kernel
theorem dX9_bestDeal_49 : decode cX9_bestDeal 49 = .ok (.ifCond .ne 6, 3) := by decide +kernel
theorem dX9_bestDeal_52 : decode cX9_bestDeal 52 = .ok (.goto 38, 3) := by decide +kernel
theorem dX9_bestDeal_55 : decode cX9_bestDeal 55 = .ok (.aload_n 0, 1) := by decide +kernel
theorem dX9_bestDeal_56 : decode cX9_bestDeal 56 = .ok (.iload_n 1, 1) := by decide +kernel
theorem dX9_bestDeal_57 : decode cX9_bestDeal 57 = .ok (.iload 4, 2) := by decide +kernel
theorem dX9_bestDeal_59 : decode cX9_bestDeal 59 = .ok (.invokevirtual 268, 3) := by decide +kernel
theorem dX9_bestDeal_62 : decode cX9_bestDeal 62 = .ok (.aload_n 0, 1) := by decide +kernel
theorem dX9_bestDeal_63 : decode cX9_bestDeal 63 = .ok (.iload 4, 2) := by decide +kernel
theorem dX9_bestDeal_65 : decode cX9_bestDeal 65 = .ok (.invokevirtual 271, 3) := by decide +kernel
theorem dX9_bestDeal_68 : decode cX9_bestDeal 68 = .ok (.isub, 1) := by decide +kernel
theorem dX9_bestDeal_69 : decode cX9_bestDeal 69 = .ok (.istore 5, 2) := by decide +kernel
theorem dX9_bestDeal_71 : decode cX9_bestDeal 71 = .ok (.iload_n 2, 1) := by decide +kernel
theorem dX9_bestDeal_72 : decode cX9_bestDeal 72 = .ok (.ifCond .lt 12, 3) := by decide +kernel
theorem dX9_bestDeal_75 : decode cX9_bestDeal 75 = .ok (.iload 5, 2) := by decide +kernel
theorem dX9_bestDeal_77 : decode cX9_bestDeal 77 = .ok (.iload_n 3, 1) := by decide +kernel
theorem dX9_bestDeal_78 : decode cX9_bestDeal 78 = .ok (.if_icmp .lt 6, 3) := by decide +kernel
theorem dX9_bestDeal_81 : decode cX9_bestDeal 81 = .ok (.goto 9, 3) := by decide +kernel
theorem dX9_bestDeal_84 : decode cX9_bestDeal 84 = .ok (.iload 4, 2) := by decide +kernel
theorem dX9_bestDeal_86 : decode cX9_bestDeal 86 = .ok (.istore_n 2, 1) := by decide +kernel
theorem dX9_bestDeal_87 : decode cX9_bestDeal 87 = .ok (.iload 5, 2) := by decide +kernel
theorem dX9_bestDeal_89 : decode cX9_bestDeal 89 = .ok (.istore_n 3, 1) := by decide +kernel
theorem dX9_bestDeal_90 : decode cX9_bestDeal 90 = .ok (.iinc 4 1, 3) := by decide +kernel
theorem dX9_bestDeal_93 : decode cX9_bestDeal 93 = .ok (.goto (-67), 3) := by decide +kernel
theorem dX9_bestDeal_96 : decode cX9_bestDeal 96 = .ok (.iload_n 2, 1) := by decide +kernel
theorem dX9_bestDeal_97 : decode cX9_bestDeal 97 = .ok (.ireturn, 1) := by decide +kernel
theorem dX9_riders_0 : decode cX9_riders 0 = .ok (.aload_n 0, 1) := by decide +kernel
theorem dX9_riders_1 : decode cX9_riders 1 = .ok (.aload_n 0, 1) := by decide +kernel
theorem dX9_riders_2 : decode cX9_riders 2 = .ok (.getfield 32, 3) := by decide +kernel
theorem dX9_riders_5 : decode cX9_riders 5 = .ok (.sipush 204, 3) := by decide +kernel
theorem dX9_riders_8 : decode cX9_riders 8 = .ok (.iaload, 1) := by decide +kernel
theorem dX9_riders_9 : decode cX9_riders 9 = .ok (.invokevirtual 240, 3) := by decide +kernel
theorem dX9_riders_12 : decode cX9_riders 12 = .ok (.ireturn, 1) := by decide +kernel
theorem dX9_riderAt_0 : decode cX9_riderAt 0 = .ok (.aload_n 0, 1) := by decide +kernel
theorem dX9_riderAt_1 : decode cX9_riderAt 1 = .ok (.getfield 32, 3) := by decide +kernel
theorem dX9_riderAt_4 : decode cX9_riderAt 4 = .ok (.sipush 205, 3) := by decide +kernel
theorem dX9_riderAt_7 : decode cX9_riderAt 7 = .ok (.iconst 3, 1) := by decide +kernel
theorem dX9_riderAt_8 : decode cX9_riderAt 8 = .ok (.iload_n 1, 1) := by decide +kernel
theorem dX9_riderAt_9 : decode cX9_riderAt 9 = .ok (.imul, 1) := by decide +kernel
theorem dX9_riderAt_10 : decode cX9_riderAt 10 = .ok (.iadd, 1) := by decide +kernel
theorem dX9_riderAt_11 : decode cX9_riderAt 11 = .ok (.iload_n 2, 1) := by decide +kernel
theorem dX9_riderAt_12 : decode cX9_riderAt 12 = .ok (.iadd, 1) := by decide +kernel
theorem dX9_riderAt_13 : decode cX9_riderAt 13 = .ok (.iaload, 1) := by decide +kernel
theorem dX9_riderAt_14 : decode cX9_riderAt 14 = .ok (.ireturn, 1) := by decide +kernel
theorem dX9_isAhead_0 : decode cX9_isAhead 0 = .ok (.aload_n 0, 1) := by decide +kernel
theorem dX9_isAhead_1 : decode cX9_isAhead 1 = .ok (.iload_n 1, 1) := by decide +kernel
theorem dX9_isAhead_2 : decode cX9_isAhead 2 = .ok (.iconst 0, 1) := by decide +kernel
theorem dX9_isAhead_3 : decode cX9_isAhead 3 = .ok (.invokevirtual 274, 3) := by decide +kernel
theorem dX9_isAhead_6 : decode cX9_isAhead 6 = .ok (.aload_n 0, 1) := by decide +kernel
theorem dX9_isAhead_7 : decode cX9_isAhead 7 = .ok (.iload_n 2, 1) := by decide +kernel
theorem dX9_isAhead_8 : decode cX9_isAhead 8 = .ok (.iconst 0, 1) := by decide +kernel
theorem dX9_isAhead_9 : decode cX9_isAhead 9 = .ok (.invokevirtual 274, 3) := by decide +kernel
theorem dX9_isAhead_12 : decode cX9_isAhead 12 = .ok (.if_icmp .eq 26, 3) := by decide +kernel
theorem dX9_isAhead_15 : decode cX9_isAhead 15 = .ok (.aload_n 0, 1) := by decide +kernel
theorem dX9_isAhead_16 : decode cX9_isAhead 16 = .ok (.iload_n 1, 1) := by decide +kernel
theorem dX9_isAhead_17 : decode cX9_isAhead 17 = .ok (.iconst 0, 1) := by decide +kernel
theorem dX9_isAhead_18 : decode cX9_isAhead 18 = .ok (.invokevirtual 274, 3) := by decide +kernel
theorem dX9_isAhead_21 : decode cX9_isAhead 21 = .ok (.aload_n 0, 1) := by decide +kernel
theorem dX9_isAhead_22 : decode cX9_isAhead 22 = .ok (.iload_n 2, 1) := by decide +kernel
theorem dX9_isAhead_23 : decode cX9_isAhead 23 = .ok (.iconst 0, 1) := by decide +kernel
theorem dX9_isAhead_24 : decode cX9_isAhead 24 = .ok (.invokevirtual 274, 3) := by decide +kernel
theorem dX9_isAhead_27 : decode cX9_isAhead 27 = .ok (.if_icmp .ge 7, 3) := by decide +kernel
theorem dX9_isAhead_30 : decode cX9_isAhead 30 = .ok (.iconst 1, 1) := by decide +kernel
theorem dX9_isAhead_31 : decode cX9_isAhead 31 = .ok (.goto 17, 3) := by decide +kernel
theorem dX9_isAhead_34 : decode cX9_isAhead 34 = .ok (.iconst 0, 1) := by decide +kernel
theorem dX9_isAhead_35 : decode cX9_isAhead 35 = .ok (.goto 13, 3) := by decide +kernel
theorem dX9_isAhead_38 : decode cX9_isAhead 38 = .ok (.iload_n 1, 1) := by decide +kernel
theorem dX9_isAhead_39 : decode cX9_isAhead 39 = .ok (.iload_n 2, 1) := by decide +kernel
theorem dX9_isAhead_40 : decode cX9_isAhead 40 = .ok (.if_icmp .ge 7, 3) := by decide +kernel
theorem dX9_isAhead_43 : decode cX9_isAhead 43 = .ok (.iconst 1, 1) := by decide +kernel
theorem dX9_isAhead_44 : decode cX9_isAhead 44 = .ok (.goto 4, 3) := by decide +kernel
theorem dX9_isAhead_47 : decode cX9_isAhead 47 = .ok (.iconst 0, 1) := by decide +kernel
theorem dX9_isAhead_48 : decode cX9_isAhead 48 = .ok (.ireturn, 1) := by decide +kernel
theorem dX9_rider_0 : decode cX9_rider 0 = .ok (.aload_n 0, 1) := by decide +kernel
theorem dX9_rider_1 : decode cX9_rider 1 = .ok (.iconst 0, 1) := by decide +kernel
theorem dX9_rider_2 : decode cX9_rider 2 = .ok (.putfield 76, 3) := by decide +kernel
theorem dX9_rider_5 : decode cX9_rider 5 = .ok (.iload_n 1, 1) := by decide +kernel
theorem dX9_rider_6 : decode cX9_rider 6 = .ok (.iconst 0, 1) := by decide +kernel
theorem dX9_rider_7 : decode cX9_rider 7 = .ok (.aload_n 0, 1) := by decide +kernel
theorem dX9_rider_8 : decode cX9_rider 8 = .ok (.getfield 32, 3) := by decide +kernel
theorem dX9_rider_11 : decode cX9_rider 11 = .ok (.sipush 204, 3) := by decide +kernel
theorem dX9_rider_14 : decode cX9_rider 14 = .ok (.iaload, 1) := by decide +kernel
theorem dX9_rider_15 : decode cX9_rider 15 = .ok (.iconst 1, 1) := by decide +kernel
theorem dX9_rider_16 : decode cX9_rider 16 = .ok (.isub, 1) := by decide +kernel
theorem dX9_rider_17 : decode cX9_rider 17 = .ok (.invokestatic 103, 3) := by decide +kernel
theorem dX9_rider_20 : decode cX9_rider 20 = .ok (.ifCond .ne 9, 3) := by decide +kernel
theorem dX9_rider_23 : decode cX9_rider 23 = .ok (.aload_n 0, 1) := by decide +kernel
theorem dX9_rider_24 : decode cX9_rider 24 = .ok (.iconst 1, 1) := by decide +kernel
theorem dX9_rider_25 : decode cX9_rider 25 = .ok (.invokevirtual 222, 3) := by decide +kernel
theorem dX9_rider_28 : decode cX9_rider 28 = .ok (.ireturn, 1) := by decide +kernel
theorem dX9_rider_29 : decode cX9_rider 29 = .ok (.iload_n 2, 1) := by decide +kernel
theorem dX9_rider_30 : decode cX9_rider 30 = .ok (.iconst 0, 1) := by decide +kernel
theorem dX9_rider_31 : decode cX9_rider 31 = .ok (.iconst 2, 1) := by decide +kernel
theorem dX9_rider_32 : decode cX9_rider 32 = .ok (.invokestatic 103, 3) := by decide +kernel
theorem dX9_rider_35 : decode cX9_rider 35 = .ok (.ifCond .ne 9, 3) := by decide +kernel
theorem dX9_rider_38 : decode cX9_rider 38 = .ok (.aload_n 0, 1) := by decide +kernel
theorem dX9_rider_39 : decode cX9_rider 39 = .ok (.iconst 2, 1) := by decide +kernel
theorem dX9_rider_40 : decode cX9_rider 40 = .ok (.invokevirtual 222, 3) := by decide +kernel
theorem dX9_rider_43 : decode cX9_rider 43 = .ok (.ireturn, 1) := by decide +kernel
theorem dX9_rider_44 : decode cX9_rider 44 = .ok (.iconst (-1), 1) := by decide +kernel
theorem dX9_rider_45 : decode cX9_rider 45 = .ok (.istore_n 3, 1) := by decide +kernel
theorem dX9_rider_46 : decode cX9_rider 46 = .ok (.iconst 0, 1) := by decide +kernel
theorem dX9_rider_47 : decode cX9_rider 47 = .ok (.istore 4, 2) := by decide +kernel
theorem dX9_rider_49 : decode cX9_rider 49 = .ok (.iload 4, 2) := by decide +kernel
theorem dX9_rider_51 : decode cX9_rider 51 = .ok (.aload_n 0, 1) := by decide +kernel
theorem dX9_rider_52 : decode cX9_rider 52 = .ok (.getfield 32, 3) := by decide +kernel
theorem dX9_rider_55 : decode cX9_rider 55 = .ok (.sipush 204, 3) := by decide +kernel
theorem dX9_rider_58 : decode cX9_rider 58 = .ok (.iaload, 1) := by decide +kernel
theorem dX9_rider_59 : decode cX9_rider 59 = .ok (.if_icmp .ge 68, 3) := by decide +kernel
theorem dX9_rider_62 : decode cX9_rider 62 = .ok (.iload_n 3, 1) := by decide +kernel
theorem dX9_rider_63 : decode cX9_rider 63 = .ok (.ifCond .ge 64, 3) := by decide +kernel
theorem dX9_rider_66 : decode cX9_rider 66 = .ok (.iconst 0, 1) := by decide +kernel
theorem dX9_rider_67 : decode cX9_rider 67 = .ok (.istore 5, 2) := by decide +kernel
theorem dX9_rider_69 : decode cX9_rider 69 = .ok (.iconst 0, 1) := by decide +kernel
theorem dX9_rider_70 : decode cX9_rider 70 = .ok (.istore 6, 2) := by decide +kernel
theorem dX9_rider_72 : decode cX9_rider 72 = .ok (.iload 6, 2) := by decide +kernel
theorem dX9_rider_74 : decode cX9_rider 74 = .ok (.aload_n 0, 1) := by decide +kernel
theorem dX9_rider_75 : decode cX9_rider 75 = .ok (.getfield 32, 3) := by decide +kernel
theorem dX9_rider_78 : decode cX9_rider 78 = .ok (.sipush 204, 3) := by decide +kernel
theorem dX9_rider_81 : decode cX9_rider 81 = .ok (.iaload, 1) := by decide +kernel
theorem dX9_rider_82 : decode cX9_rider 82 = .ok (.if_icmp .ge 30, 3) := by decide +kernel
theorem dX9_rider_85 : decode cX9_rider 85 = .ok (.iload 6, 2) := by decide +kernel
theorem dX9_rider_87 : decode cX9_rider 87 = .ok (.iload 4, 2) := by decide +kernel
theorem dX9_rider_89 : decode cX9_rider 89 = .ok (.if_icmp .eq 17, 3) := by decide +kernel
theorem dX9_rider_92 : decode cX9_rider 92 = .ok (.aload_n 0, 1) := by decide +kernel
theorem dX9_rider_93 : decode cX9_rider 93 = .ok (.iload 6, 2) := by decide +kernel
theorem dX9_rider_95 : decode cX9_rider 95 = .ok (.iload 4, 2) := by decide +kernel
theorem dX9_rider_97 : decode cX9_rider 97 = .ok (.invokevirtual 277, 3) := by decide +kernel
theorem dX9_rider_100 : decode cX9_rider 100 = .ok (.ifCond .eq 6, 3) := by decide +kernel
theorem dX9_rider_103 : decode cX9_rider 103 = .ok (.iinc 5 1, 3) := by decide +kernel
theorem dX9_rider_106 : decode cX9_rider 106 = .ok (.iinc 6 1, 3) := by decide +kernel
theorem dX9_rider_109 : decode cX9_rider 109 = .ok (.goto (-37), 3) := by decide +kernel
theorem dX9_rider_112 : decode cX9_rider 112 = .ok (.iload 5, 2) := by decide +kernel
theorem dX9_rider_114 : decode cX9_rider 114 = .ok (.iload_n 1, 1) := by decide +kernel
theorem dX9_rider_115 : decode cX9_rider 115 = .ok (.if_icmp .ne 6, 3) := by decide +kernel
theorem dX9_rider_118 : decode cX9_rider 118 = .ok (.iload 4, 2) := by decide +kernel
theorem dX9_rider_120 : decode cX9_rider 120 = .ok (.istore_n 3, 1) := by decide +kernel
theorem dX9_rider_121 : decode cX9_rider 121 = .ok (.iinc 4 1, 3) := by decide +kernel
theorem dX9_rider_124 : decode cX9_rider 124 = .ok (.goto (-75), 3) := by decide +kernel
theorem dX9_rider_127 : decode cX9_rider 127 = .ok (.aload_n 0, 1) := by decide +kernel
theorem dX9_rider_128 : decode cX9_rider 128 = .ok (.iload_n 3, 1) := by decide +kernel
theorem dX9_rider_129 : decode cX9_rider 129 = .ok (.iload_n 2, 1) := by decide +kernel
theorem dX9_rider_130 : decode cX9_rider 130 = .ok (.invokevirtual 274, 3) := by decide +kernel
theorem dX9_rider_133 : decode cX9_rider 133 = .ok (.ireturn, 1) := by decide +kernel
theorem dX9_begin_0 : decode cX9_begin 0 = .ok (.aload_n 0, 1) := by decide +kernel
theorem dX9_begin_1 : decode cX9_begin 1 = .ok (.getfield 32, 3) := by decide +kernel
theorem dX9_begin_4 : decode cX9_begin 4 = .ok (.iconst 1, 1) := by decide +kernel
theorem dX9_begin_5 : decode cX9_begin 5 = .ok (.dup2, 1) := by decide +kernel
theorem dX9_begin_6 : decode cX9_begin 6 = .ok (.iaload, 1) := by decide +kernel
theorem dX9_begin_7 : decode cX9_begin 7 = .ok (.aload_n 0, 1) := by decide +kernel
theorem dX9_begin_8 : decode cX9_begin 8 = .ok (.iload_n 1, 1) := by decide +kernel
theorem dX9_begin_9 : decode cX9_begin 9 = .ok (.iload_n 2, 1) := by decide +kernel
theorem dX9_begin_10 : decode cX9_begin 10 = .ok (.invokevirtual 268, 3) := by decide +kernel
theorem dX9_begin_13 : decode cX9_begin 13 = .ok (.iadd, 1) := by decide +kernel
theorem dX9_begin_14 : decode cX9_begin 14 = .ok (.iastore, 1) := by decide +kernel
theorem dX9_begin_15 : decode cX9_begin 15 = .ok (.aload_n 0, 1) := by decide +kernel
theorem dX9_begin_16 : decode cX9_begin 16 = .ok (.getfield 32, 3) := by decide +kernel
theorem dX9_begin_19 : decode cX9_begin 19 = .ok (.bipush 6, 2) := by decide +kernel
theorem dX9_begin_21 : decode cX9_begin 21 = .ok (.iload_n 1, 1) := by decide +kernel
theorem dX9_begin_22 : decode cX9_begin 22 = .ok (.iadd, 1) := by decide +kernel
theorem dX9_begin_23 : decode cX9_begin 23 = .ok (.dup2, 1) := by decide +kernel
theorem dX9_begin_24 : decode cX9_begin 24 = .ok (.iaload, 1) := by decide +kernel
theorem dX9_begin_25 : decode cX9_begin 25 = .ok (.iconst 1, 1) := by decide +kernel
theorem dX9_begin_26 : decode cX9_begin 26 = .ok (.isub, 1) := by decide +kernel
theorem dX9_begin_27 : decode cX9_begin 27 = .ok (.iastore, 1) := by decide +kernel
theorem dX9_begin_28 : decode cX9_begin 28 = .ok (.bipush 8, 2) := by decide +kernel
theorem dX9_begin_30 : decode cX9_begin 30 = .ok (.iload_n 1, 1) := by decide +kernel
theorem dX9_begin_31 : decode cX9_begin 31 = .ok (.imul, 1) := by decide +kernel
theorem dX9_begin_32 : decode cX9_begin 32 = .ok (.iload_n 2, 1) := by decide +kernel
theorem dX9_begin_33 : decode cX9_begin 33 = .ok (.iadd, 1) := by decide +kernel
theorem dX9_begin_34 : decode cX9_begin 34 = .ok (.istore_n 3, 1) := by decide +kernel
theorem dX9_begin_35 : decode cX9_begin 35 = .ok (.aload_n 0, 1) := by decide +kernel
theorem dX9_begin_36 : decode cX9_begin 36 = .ok (.getfield 32, 3) := by decide +kernel
theorem dX9_begin_39 : decode cX9_begin 39 = .ok (.iconst 3, 1) := by decide +kernel
theorem dX9_begin_40 : decode cX9_begin 40 = .ok (.dup2, 1) := by decide +kernel
theorem dX9_begin_41 : decode cX9_begin 41 = .ok (.iaload, 1) := by decide +kernel
theorem dX9_begin_42 : decode cX9_begin 42 = .ok (.iconst 1, 1) := by decide +kernel
theorem dX9_begin_43 : decode cX9_begin 43 = .ok (.iadd, 1) := by decide +kernel
theorem dX9_begin_44 : decode cX9_begin 44 = .ok (.iastore, 1) := by decide +kernel
theorem dX9_begin_45 : decode cX9_begin 45 = .ok (.aload_n 0, 1) := by decide +kernel
theorem dX9_begin_46 : decode cX9_begin 46 = .ok (.getfield 32, 3) := by decide +kernel
theorem dX9_begin_49 : decode cX9_begin 49 = .ok (.bipush 76, 2) := by decide +kernel
theorem dX9_begin_51 : decode cX9_begin 51 = .ok (.iload_n 3, 1) := by decide +kernel
theorem dX9_begin_52 : decode cX9_begin 52 = .ok (.iadd, 1) := by decide +kernel
theorem dX9_begin_53 : decode cX9_begin 53 = .ok (.iaload, 1) := by decide +kernel
theorem dX9_begin_54 : decode cX9_begin 54 = .ok (.ifCond .ne 19, 3) := by decide +kernel
theorem dX9_begin_57 : decode cX9_begin 57 = .ok (.aload_n 0, 1) := by decide +kernel
theorem dX9_begin_58 : decode cX9_begin 58 = .ok (.getfield 32, 3) := by decide +kernel
theorem dX9_begin_61 : decode cX9_begin 61 = .ok (.sipush 140, 3) := by decide +kernel
theorem dX9_begin_64 : decode cX9_begin 64 = .ok (.iload_n 3, 1) := by decide +kernel
theorem dX9_begin_65 : decode cX9_begin 65 = .ok (.iadd, 1) := by decide +kernel
theorem dX9_begin_66 : decode cX9_begin 66 = .ok (.aload_n 0, 1) := by decide +kernel
theorem dX9_begin_67 : decode cX9_begin 67 = .ok (.getfield 32, 3) := by decide +kernel
theorem dX9_begin_70 : decode cX9_begin 70 = .ok (.iconst 3, 1) := by decide +kernel
theorem dX9_begin_71 : decode cX9_begin 71 = .ok (.iaload, 1) := by decide +kernel
theorem dX9_begin_72 : decode cX9_begin 72 = .ok (.iastore, 1) := by decide +kernel
theorem dX9_begin_73 : decode cX9_begin 73 = .ok (.aload_n 0, 1) := by decide +kernel
theorem dX9_begin_74 : decode cX9_begin 74 = .ok (.getfield 32, 3) := by decide +kernel
theorem dX9_begin_77 : decode cX9_begin 77 = .ok (.bipush 76, 2) := by decide +kernel
theorem dX9_begin_79 : decode cX9_begin 79 = .ok (.iload_n 3, 1) := by decide +kernel
theorem dX9_begin_80 : decode cX9_begin 80 = .ok (.iadd, 1) := by decide +kernel
theorem dX9_begin_81 : decode cX9_begin 81 = .ok (.dup2, 1) := by decide +kernel
theorem dX9_begin_82 : decode cX9_begin 82 = .ok (.iaload, 1) := by decide +kernel
theorem dX9_begin_83 : decode cX9_begin 83 = .ok (.iconst 1, 1) := by decide +kernel
theorem dX9_begin_84 : decode cX9_begin 84 = .ok (.iadd, 1) := by decide +kernel
theorem dX9_begin_85 : decode cX9_begin 85 = .ok (.iastore, 1) := by decide +kernel
theorem dX9_begin_86 : decode cX9_begin 86 = .ok (.sipush 205, 3) := by decide +kernel
theorem dX9_begin_89 : decode cX9_begin 89 = .ok (.iconst 3, 1) := by decide +kernel
theorem dX9_begin_90 : decode cX9_begin 90 = .ok (.aload_n 0, 1) := by decide +kernel
theorem dX9_begin_91 : decode cX9_begin 91 = .ok (.getfield 32, 3) := by decide +kernel
theorem dX9_begin_94 : decode cX9_begin 94 = .ok (.sipush 204, 3) := by decide +kernel
theorem dX9_begin_97 : decode cX9_begin 97 = .ok (.iaload, 1) := by decide +kernel
theorem dX9_begin_98 : decode cX9_begin 98 = .ok (.imul, 1) := by decide +kernel
theorem dX9_begin_99 : decode cX9_begin 99 = .ok (.iadd, 1) := by decide +kernel
theorem dX9_begin_100 : decode cX9_begin 100 = .ok (.istore 4, 2) := by decide +kernel
theorem dX9_begin_102 : decode cX9_begin 102 = .ok (.aload_n 0, 1) := by decide +kernel
theorem dX9_begin_103 : decode cX9_begin 103 = .ok (.getfield 32, 3) := by decide +kernel
theorem dX9_begin_106 : decode cX9_begin 106 = .ok (.iload 4, 2) := by decide +kernel
theorem dX9_begin_108 : decode cX9_begin 108 = .ok (.aload_n 0, 1) := by decide +kernel
theorem dX9_begin_109 : decode cX9_begin 109 = .ok (.getfield 32, 3) := by decide +kernel
theorem dX9_begin_112 : decode cX9_begin 112 = .ok (.iconst 0, 1) := by decide +kernel
theorem dX9_begin_113 : decode cX9_begin 113 = .ok (.iaload, 1) := by decide +kernel
theorem dX9_begin_114 : decode cX9_begin 114 = .ok (.aload_n 0, 1) := by decide +kernel
theorem dX9_begin_115 : decode cX9_begin 115 = .ok (.iload_n 1, 1) := by decide +kernel
theorem dX9_begin_116 : decode cX9_begin 116 = .ok (.iload_n 2, 1) := by decide +kernel
theorem dX9_begin_117 : decode cX9_begin 117 = .ok (.invokevirtual 212, 3) := by decide +kernel
theorem dX9_begin_120 : decode cX9_begin 120 = .ok (.iadd, 1) := by decide +kernel
theorem dX9_begin_121 : decode cX9_begin 121 = .ok (.iastore, 1) := by decide +kernel
theorem dX9_begin_122 : decode cX9_begin 122 = .ok (.aload_n 0, 1) := by decide +kernel
theorem dX9_begin_123 : decode cX9_begin 123 = .ok (.getfield 32, 3) := by decide +kernel
theorem dX9_begin_126 : decode cX9_begin 126 = .ok (.iload 4, 2) := by decide +kernel
theorem dX9_begin_128 : decode cX9_begin 128 = .ok (.iconst 1, 1) := by decide +kernel
theorem dX9_begin_129 : decode cX9_begin 129 = .ok (.iadd, 1) := by decide +kernel
theorem dX9_begin_130 : decode cX9_begin 130 = .ok (.iload_n 2, 1) := by decide +kernel
theorem dX9_begin_131 : decode cX9_begin 131 = .ok (.iastore, 1) := by decide +kernel
theorem dX9_begin_132 : decode cX9_begin 132 = .ok (.aload_n 0, 1) := by decide +kernel
theorem dX9_begin_133 : decode cX9_begin 133 = .ok (.getfield 32, 3) := by decide +kernel
theorem dX9_begin_136 : decode cX9_begin 136 = .ok (.iload 4, 2) := by decide +kernel
theorem dX9_begin_138 : decode cX9_begin 138 = .ok (.iconst 2, 1) := by decide +kernel
theorem dX9_begin_139 : decode cX9_begin 139 = .ok (.iadd, 1) := by decide +kernel
theorem dX9_begin_140 : decode cX9_begin 140 = .ok (.iload_n 1, 1) := by decide +kernel
theorem dX9_begin_141 : decode cX9_begin 141 = .ok (.iastore, 1) := by decide +kernel
theorem dX9_begin_142 : decode cX9_begin 142 = .ok (.aload_n 0, 1) := by decide +kernel
theorem dX9_begin_143 : decode cX9_begin 143 = .ok (.getfield 32, 3) := by decide +kernel
theorem dX9_begin_146 : decode cX9_begin 146 = .ok (.sipush 204, 3) := by decide +kernel
theorem dX9_begin_149 : decode cX9_begin 149 = .ok (.dup2, 1) := by decide +kernel
theorem dX9_begin_150 : decode cX9_begin 150 = .ok (.iaload, 1) := by decide +kernel
theorem dX9_begin_151 : decode cX9_begin 151 = .ok (.iconst 1, 1) := by decide +kernel
theorem dX9_begin_152 : decode cX9_begin 152 = .ok (.iadd, 1) := by decide +kernel
theorem dX9_begin_153 : decode cX9_begin 153 = .ok (.iastore, 1) := by decide +kernel
theorem dX9_begin_154 : decode cX9_begin 154 = .ok (.aload_n 0, 1) := by decide +kernel
theorem dX9_begin_155 : decode cX9_begin 155 = .ok (.getfield 32, 3) := by decide +kernel
theorem dX9_begin_158 : decode cX9_begin 158 = .ok (.iload 4, 2) := by decide +kernel
theorem dX9_begin_160 : decode cX9_begin 160 = .ok (.iaload, 1) := by decide +kernel
theorem dX9_begin_161 : decode cX9_begin 161 = .ok (.ireturn, 1) := by decide +kernel
theorem dX9_ridesBetween_0 : decode cX9_ridesBetween 0 = .ok (.aload_n 0, 1) := by decide +kernel
theorem dX9_ridesBetween_1 : decode cX9_ridesBetween 1 = .ok (.iconst 0, 1) := by decide +kernel
theorem dX9_ridesBetween_2 : decode cX9_ridesBetween 2 = .ok (.putfield 76, 3) := by decide +kernel
theorem dX9_ridesBetween_5 : decode cX9_ridesBetween 5 = .ok (.aload_n 0, 1) := by decide +kernel
theorem dX9_ridesBetween_6 : decode cX9_ridesBetween 6 = .ok (.iload_n 1, 1) := by decide +kernel
theorem dX9_ridesBetween_7 : decode cX9_ridesBetween 7 = .ok (.iload_n 2, 1) := by decide +kernel
theorem dX9_ridesBetween_8 : decode cX9_ridesBetween 8 = .ok (.invokevirtual 265, 3) := by decide +kernel
theorem dX9_ridesBetween_11 : decode cX9_ridesBetween 11 = .ok (.ifCond .eq 20, 3) := by decide +kernel
theorem dX9_ridesBetween_14 : decode cX9_ridesBetween 14 = .ok (.aload_n 0, 1) := by decide +kernel
theorem dX9_ridesBetween_15 : decode cX9_ridesBetween 15 = .ok (.getfield 32, 3) := by decide +kernel
theorem dX9_ridesBetween_18 : decode cX9_ridesBetween 18 = .ok (.bipush 76, 2) := by decide +kernel
theorem dX9_ridesBetween_20 : decode cX9_ridesBetween 20 = .ok (.bipush 8, 2) := by decide +kernel
theorem dX9_ridesBetween_22 : decode cX9_ridesBetween 22 = .ok (.iload_n 1, 1) := by decide +kernel
theorem dX9_ridesBetween_23 : decode cX9_ridesBetween 23 = .ok (.imul, 1) := by decide +kernel
theorem dX9_ridesBetween_24 : decode cX9_ridesBetween 24 = .ok (.iadd, 1) := by decide +kernel
theorem dX9_ridesBetween_25 : decode cX9_ridesBetween 25 = .ok (.iload_n 2, 1) := by decide +kernel
theorem dX9_ridesBetween_26 : decode cX9_ridesBetween 26 = .ok (.iadd, 1) := by decide +kernel
theorem dX9_ridesBetween_27 : decode cX9_ridesBetween 27 = .ok (.iaload, 1) := by decide +kernel
theorem dX9_ridesBetween_28 : decode cX9_ridesBetween 28 = .ok (.goto 8, 3) := by decide +kernel
theorem dX9_ridesBetween_31 : decode cX9_ridesBetween 31 = .ok (.aload_n 0, 1) := by decide +kernel
theorem dX9_ridesBetween_32 : decode cX9_ridesBetween 32 = .ok (.iconst 1, 1) := by decide +kernel
theorem dX9_ridesBetween_33 : decode cX9_ridesBetween 33 = .ok (.invokevirtual 222, 3) := by decide +kernel
theorem dX9_ridesBetween_36 : decode cX9_ridesBetween 36 = .ok (.ireturn, 1) := by decide +kernel
theorem dX9_busiestPair_0 : decode cX9_busiestPair 0 = .ok (.iconst (-1), 1) := by decide +kernel
theorem dX9_busiestPair_1 : decode cX9_busiestPair 1 = .ok (.istore_n 1, 1) := by decide +kernel
theorem dX9_busiestPair_2 : decode cX9_busiestPair 2 = .ok (.iconst 0, 1) := by decide +kernel
theorem dX9_busiestPair_3 : decode cX9_busiestPair 3 = .ok (.istore_n 2, 1) := by decide +kernel
theorem dX9_busiestPair_4 : decode cX9_busiestPair 4 = .ok (.iload_n 2, 1) := by decide +kernel
theorem dX9_busiestPair_5 : decode cX9_busiestPair 5 = .ok (.bipush 64, 2) := by decide +kernel
theorem dX9_busiestPair_7 : decode cX9_busiestPair 7 = .ok (.if_icmp .ge 105, 3) := by decide +kernel
theorem dX9_busiestPair_10 : decode cX9_busiestPair 10 = .ok (.aload_n 0, 1) := by decide +kernel
theorem dX9_busiestPair_11 : decode cX9_busiestPair 11 = .ok (.getfield 32, 3) := by decide +kernel
theorem dX9_busiestPair_14 : decode cX9_busiestPair 14 = .ok (.bipush 76, 2) := by decide +kernel
theorem dX9_busiestPair_16 : decode cX9_busiestPair 16 = .ok (.iload_n 2, 1) := by decide +kernel
theorem dX9_busiestPair_17 : decode cX9_busiestPair 17 = .ok (.iadd, 1) := by decide +kernel
theorem dX9_busiestPair_18 : decode cX9_busiestPair 18 = .ok (.iaload, 1) := by decide +kernel
theorem dX9_busiestPair_19 : decode cX9_busiestPair 19 = .ok (.ifCond .ne 6, 3) := by decide +kernel
theorem dX9_busiestPair_22 : decode cX9_busiestPair 22 = .ok (.goto 84, 3) := by decide +kernel
theorem dX9_busiestPair_25 : decode cX9_busiestPair 25 = .ok (.iload_n 1, 1) := by decide +kernel
theorem dX9_busiestPair_26 : decode cX9_busiestPair 26 = .ok (.ifCond .lt 24, 3) := by decide +kernel
theorem dX9_busiestPair_29 : decode cX9_busiestPair 29 = .ok (.aload_n 0, 1) := by decide +kernel
theorem dX9_busiestPair_30 : decode cX9_busiestPair 30 = .ok (.getfield 32, 3) := by decide +kernel
theorem dX9_busiestPair_33 : decode cX9_busiestPair 33 = .ok (.bipush 76, 2) := by decide +kernel
theorem dX9_busiestPair_35 : decode cX9_busiestPair 35 = .ok (.iload_n 2, 1) := by decide +kernel
theorem dX9_busiestPair_36 : decode cX9_busiestPair 36 = .ok (.iadd, 1) := by decide +kernel
theorem dX9_busiestPair_37 : decode cX9_busiestPair 37 = .ok (.iaload, 1) := by decide +kernel
theorem dX9_busiestPair_38 : decode cX9_busiestPair 38 = .ok (.aload_n 0, 1) := by decide +kernel
theorem dX9_busiestPair_39 : decode cX9_busiestPair 39 = .ok (.getfield 32, 3) := by decide +kernel
theorem dX9_busiestPair_42 : decode cX9_busiestPair 42 = .ok (.bipush 76, 2) := by decide +kernel
theorem dX9_busiestPair_44 : decode cX9_busiestPair 44 = .ok (.iload_n 1, 1) := by decide +kernel
theorem dX9_busiestPair_45 : decode cX9_busiestPair 45 = .ok (.iadd, 1) := by decide +kernel
theorem dX9_busiestPair_46 : decode cX9_busiestPair 46 = .ok (.iaload, 1) := by decide +kernel
theorem dX9_busiestPair_47 : decode cX9_busiestPair 47 = .ok (.if_icmp .le 7, 3) := by decide +kernel
theorem dX9_busiestPair_50 : decode cX9_busiestPair 50 = .ok (.iconst 1, 1) := by decide +kernel
theorem dX9_busiestPair_51 : decode cX9_busiestPair 51 = .ok (.goto 4, 3) := by decide +kernel
theorem dX9_busiestPair_54 : decode cX9_busiestPair 54 = .ok (.iconst 0, 1) := by decide +kernel
theorem dX9_busiestPair_55 : decode cX9_busiestPair 55 = .ok (.istore_n 3, 1) := by decide +kernel
theorem dX9_busiestPair_56 : decode cX9_busiestPair 56 = .ok (.iload_n 3, 1) := by decide +kernel
theorem dX9_busiestPair_57 : decode cX9_busiestPair 57 = .ok (.ifCond .ne 47, 3) := by decide +kernel
theorem dX9_busiestPair_60 : decode cX9_busiestPair 60 = .ok (.aload_n 0, 1) := by decide +kernel
theorem dX9_busiestPair_61 : decode cX9_busiestPair 61 = .ok (.getfield 32, 3) := by decide +kernel
theorem dX9_busiestPair_64 : decode cX9_busiestPair 64 = .ok (.bipush 76, 2) := by decide +kernel
theorem dX9_busiestPair_66 : decode cX9_busiestPair 66 = .ok (.iload_n 2, 1) := by decide +kernel
theorem dX9_busiestPair_67 : decode cX9_busiestPair 67 = .ok (.iadd, 1) := by decide +kernel
theorem dX9_busiestPair_68 : decode cX9_busiestPair 68 = .ok (.iaload, 1) := by decide +kernel
theorem dX9_busiestPair_69 : decode cX9_busiestPair 69 = .ok (.aload_n 0, 1) := by decide +kernel
theorem dX9_busiestPair_70 : decode cX9_busiestPair 70 = .ok (.getfield 32, 3) := by decide +kernel
theorem dX9_busiestPair_73 : decode cX9_busiestPair 73 = .ok (.bipush 76, 2) := by decide +kernel
theorem dX9_busiestPair_75 : decode cX9_busiestPair 75 = .ok (.iload_n 1, 1) := by decide +kernel
theorem dX9_busiestPair_76 : decode cX9_busiestPair 76 = .ok (.iadd, 1) := by decide +kernel
theorem dX9_busiestPair_77 : decode cX9_busiestPair 77 = .ok (.iaload, 1) := by decide +kernel
theorem dX9_busiestPair_78 : decode cX9_busiestPair 78 = .ok (.if_icmp .ne 28, 3) := by decide +kernel
theorem dX9_busiestPair_81 : decode cX9_busiestPair 81 = .ok (.aload_n 0, 1) := by decide +kernel
theorem dX9_busiestPair_82 : decode cX9_busiestPair 82 = .ok (.getfield 32, 3) := by decide +kernel
theorem dX9_busiestPair_85 : decode cX9_busiestPair 85 = .ok (.sipush 140, 3) := by decide +kernel
theorem dX9_busiestPair_88 : decode cX9_busiestPair 88 = .ok (.iload_n 2, 1) := by decide +kernel
theorem dX9_busiestPair_89 : decode cX9_busiestPair 89 = .ok (.iadd, 1) := by decide +kernel
theorem dX9_busiestPair_90 : decode cX9_busiestPair 90 = .ok (.iaload, 1) := by decide +kernel
theorem dX9_busiestPair_91 : decode cX9_busiestPair 91 = .ok (.aload_n 0, 1) := by decide +kernel
theorem dX9_busiestPair_92 : decode cX9_busiestPair 92 = .ok (.getfield 32, 3) := by decide +kernel
theorem dX9_busiestPair_95 : decode cX9_busiestPair 95 = .ok (.sipush 140, 3) := by decide +kernel
theorem dX9_busiestPair_98 : decode cX9_busiestPair 98 = .ok (.iload_n 1, 1) := by decide +kernel
theorem dX9_busiestPair_99 : decode cX9_busiestPair 99 = .ok (.iadd, 1) := by decide +kernel
theorem dX9_busiestPair_100 : decode cX9_busiestPair 100 = .ok (.iaload, 1) := by decide +kernel
theorem dX9_busiestPair_101 : decode cX9_busiestPair 101 = .ok (.if_icmp .ge 5, 3) := by decide +kernel
theorem dX9_busiestPair_104 : decode cX9_busiestPair 104 = .ok (.iload_n 2, 1) := by decide +kernel
theorem dX9_busiestPair_105 : decode cX9_busiestPair 105 = .ok (.istore_n 1, 1) := by decide +kernel
theorem dX9_busiestPair_106 : decode cX9_busiestPair 106 = .ok (.iinc 2 1, 3) := by decide +kernel
theorem dX9_busiestPair_109 : decode cX9_busiestPair 109 = .ok (.goto (-105), 3) := by decide +kernel
theorem dX9_busiestPair_112 : decode cX9_busiestPair 112 = .ok (.aload_n 0, 1) := by decide +kernel
theorem dX9_busiestPair_113 : decode cX9_busiestPair 113 = .ok (.iload_n 1, 1) := by decide +kernel
theorem dX9_busiestPair_114 : decode cX9_busiestPair 114 = .ok (.invokevirtual 240, 3) := by decide +kernel
theorem dX9_busiestPair_117 : decode cX9_busiestPair 117 = .ok (.ireturn, 1) := by decide +kernel
theorem dX9_truck_0 : decode cX9_truck 0 = .ok (.aload_n 0, 1) := by decide +kernel
theorem dX9_truck_1 : decode cX9_truck 1 = .ok (.iconst 0, 1) := by decide +kernel
theorem dX9_truck_2 : decode cX9_truck 2 = .ok (.putfield 76, 3) := by decide +kernel
theorem dX9_truck_5 : decode cX9_truck 5 = .ok (.aload_n 0, 1) := by decide +kernel
theorem dX9_truck_6 : decode cX9_truck 6 = .ok (.iload_n 1, 1) := by decide +kernel
theorem dX9_truck_7 : decode cX9_truck 7 = .ok (.invokevirtual 280, 3) := by decide +kernel
theorem dX9_truck_10 : decode cX9_truck 10 = .ok (.ifCond .ne 9, 3) := by decide +kernel
theorem dX9_truck_13 : decode cX9_truck 13 = .ok (.aload_n 0, 1) := by decide +kernel
theorem dX9_truck_14 : decode cX9_truck 14 = .ok (.iconst 1, 1) := by decide +kernel
theorem dX9_truck_15 : decode cX9_truck 15 = .ok (.invokevirtual 222, 3) := by decide +kernel
theorem dX9_truck_18 : decode cX9_truck 18 = .ok (.ireturn, 1) := by decide +kernel
theorem dX9_truck_19 : decode cX9_truck 19 = .ok (.iload_n 2, 1) := by decide +kernel
theorem dX9_truck_20 : decode cX9_truck 20 = .ok (.tableswitch 85 0 5 #[40, 47, 54, 61, 68, 78], 40) := by decide +kernel
theorem dX9_truck_60 : decode cX9_truck 60 = .ok (.aload_n 0, 1) := by decide +kernel
theorem dX9_truck_61 : decode cX9_truck 61 = .ok (.iload_n 1, 1) := by decide +kernel
theorem dX9_truck_62 : decode cX9_truck 62 = .ok (.iconst 0, 1) := by decide +kernel
theorem dX9_truck_63 : decode cX9_truck 63 = .ok (.invokevirtual 243, 3) := by decide +kernel
theorem dX9_truck_66 : decode cX9_truck 66 = .ok (.ireturn, 1) := by decide +kernel
theorem dX9_truck_67 : decode cX9_truck 67 = .ok (.aload_n 0, 1) := by decide +kernel
theorem dX9_truck_68 : decode cX9_truck 68 = .ok (.iload_n 1, 1) := by decide +kernel
theorem dX9_truck_69 : decode cX9_truck 69 = .ok (.iconst 1, 1) := by decide +kernel
theorem dX9_truck_70 : decode cX9_truck 70 = .ok (.invokevirtual 243, 3) := by decide +kernel
theorem dX9_truck_73 : decode cX9_truck 73 = .ok (.ireturn, 1) := by decide +kernel
theorem dX9_truck_74 : decode cX9_truck 74 = .ok (.aload_n 0, 1) := by decide +kernel
theorem dX9_truck_75 : decode cX9_truck 75 = .ok (.iload_n 1, 1) := by decide +kernel
theorem dX9_truck_76 : decode cX9_truck 76 = .ok (.iconst 2, 1) := by decide +kernel
theorem dX9_truck_77 : decode cX9_truck 77 = .ok (.invokevirtual 243, 3) := by decide +kernel
theorem dX9_truck_80 : decode cX9_truck 80 = .ok (.ireturn, 1) := by decide +kernel
theorem dX9_truck_81 : decode cX9_truck 81 = .ok (.aload_n 0, 1) := by decide +kernel
theorem dX9_truck_82 : decode cX9_truck 82 = .ok (.iload_n 1, 1) := by decide +kernel
theorem dX9_truck_83 : decode cX9_truck 83 = .ok (.iconst 4, 1) := by decide +kernel
theorem dX9_truck_84 : decode cX9_truck 84 = .ok (.invokevirtual 243, 3) := by decide +kernel
theorem dX9_truck_87 : decode cX9_truck 87 = .ok (.ireturn, 1) := by decide +kernel
theorem dX9_truck_88 : decode cX9_truck 88 = .ok (.aload_n 0, 1) := by decide +kernel
theorem dX9_truck_89 : decode cX9_truck 89 = .ok (.getfield 17, 3) := by decide +kernel
theorem dX9_truck_92 : decode cX9_truck 92 = .ok (.bipush 45, 2) := by decide +kernel
theorem dX9_truck_94 : decode cX9_truck 94 = .ok (.iload_n 1, 1) := by decide +kernel
theorem dX9_truck_95 : decode cX9_truck 95 = .ok (.iadd, 1) := by decide +kernel
theorem dX9_truck_96 : decode cX9_truck 96 = .ok (.iaload, 1) := by decide +kernel
theorem dX9_truck_97 : decode cX9_truck 97 = .ok (.ireturn, 1) := by decide +kernel
theorem dX9_truck_98 : decode cX9_truck 98 = .ok (.aload_n 0, 1) := by decide +kernel
theorem dX9_truck_99 : decode cX9_truck 99 = .ok (.iload_n 1, 1) := by decide +kernel
theorem dX9_truck_100 : decode cX9_truck 100 = .ok (.iconst 5, 1) := by decide +kernel
theorem dX9_truck_101 : decode cX9_truck 101 = .ok (.invokevirtual 243, 3) := by decide +kernel
theorem dX9_truck_104 : decode cX9_truck 104 = .ok (.ireturn, 1) := by decide +kernel
theorem dX9_truck_105 : decode cX9_truck 105 = .ok (.aload_n 0, 1) := by decide +kernel
theorem dX9_truck_106 : decode cX9_truck 106 = .ok (.iconst 2, 1) := by decide +kernel
theorem dX9_truck_107 : decode cX9_truck 107 = .ok (.invokevirtual 222, 3) := by decide +kernel
theorem dX9_truck_110 : decode cX9_truck 110 = .ok (.ireturn, 1) := by decide +kernel
theorem dX9_least_0 : decode cX9_least 0 = .ok (.iload_n 0, 1) := by decide +kernel
theorem dX9_least_1 : decode cX9_least 1 = .ok (.iload_n 1, 1) := by decide +kernel
theorem dX9_least_2 : decode cX9_least 2 = .ok (.if_icmp .ge 16, 3) := by decide +kernel
theorem dX9_least_5 : decode cX9_least 5 = .ok (.iload_n 0, 1) := by decide +kernel
theorem dX9_least_6 : decode cX9_least 6 = .ok (.iload_n 2, 1) := by decide +kernel
theorem dX9_least_7 : decode cX9_least 7 = .ok (.if_icmp .ge 7, 3) := by decide +kernel
theorem dX9_least_10 : decode cX9_least 10 = .ok (.iload_n 0, 1) := by decide +kernel
theorem dX9_least_11 : decode cX9_least 11 = .ok (.goto 17, 3) := by decide +kernel
theorem dX9_least_14 : decode cX9_least 14 = .ok (.iload_n 2, 1) := by decide +kernel
theorem dX9_least_15 : decode cX9_least 15 = .ok (.goto 13, 3) := by decide +kernel
theorem dX9_least_18 : decode cX9_least 18 = .ok (.iload_n 1, 1) := by decide +kernel
theorem dX9_least_19 : decode cX9_least 19 = .ok (.iload_n 2, 1) := by decide +kernel
theorem dX9_least_20 : decode cX9_least 20 = .ok (.if_icmp .ge 7, 3) := by decide +kernel
theorem dX9_least_23 : decode cX9_least 23 = .ok (.iload_n 1, 1) := by decide +kernel
theorem dX9_least_24 : decode cX9_least 24 = .ok (.goto 4, 3) := by decide +kernel
theorem dX9_least_27 : decode cX9_least 27 = .ok (.iload_n 2, 1) := by decide +kernel
theorem dX9_least_28 : decode cX9_least 28 = .ok (.ireturn, 1) := by decide +kernel
theorem dX9_carryOut_0 : decode cX9_carryOut 0 = .ok (.iload_n 3, 1) := by decide +kernel
theorem dX9_carryOut_1 : decode cX9_carryOut 1 = .ok (.aload_n 0, 1) := by decide +kernel
theorem dX9_carryOut_2 : decode cX9_carryOut 2 = .ok (.getfield 32, 3) := by decide +kernel
theorem dX9_carryOut_5 : decode cX9_carryOut 5 = .ok (.bipush 6, 2) := by decide +kernel
theorem dX9_carryOut_7 : decode cX9_carryOut 7 = .ok (.iload_n 2, 1) := by decide +kernel
theorem dX9_carryOut_8 : decode cX9_carryOut 8 = .ok (.iadd, 1) := by decide +kernel
theorem dX9_carryOut_9 : decode cX9_carryOut 9 = .ok (.iaload, 1) := by decide +kernel
theorem dX9_carryOut_10 : decode cX9_carryOut 10 = .ok (.isub, 1) := by decide +kernel
theorem dX9_carryOut_11 : decode cX9_carryOut 11 = .ok (.istore 4, 2) := by decide +kernel
theorem dX9_carryOut_13 : decode cX9_carryOut 13 = .ok (.iload 4, 2) := by decide +kernel
theorem dX9_carryOut_15 : decode cX9_carryOut 15 = .ok (.ifCond .le 22, 3) := by decide +kernel
theorem dX9_carryOut_18 : decode cX9_carryOut 18 = .ok (.iload 4, 2) := by decide +kernel
theorem dX9_carryOut_20 : decode cX9_carryOut 20 = .ok (.aload_n 0, 1) := by decide +kernel
theorem dX9_carryOut_21 : decode cX9_carryOut 21 = .ok (.iload_n 1, 1) := by decide +kernel
theorem dX9_carryOut_22 : decode cX9_carryOut 22 = .ok (.iconst 4, 1) := by decide +kernel
theorem dX9_carryOut_23 : decode cX9_carryOut 23 = .ok (.invokevirtual 243, 3) := by decide +kernel
theorem dX9_carryOut_26 : decode cX9_carryOut 26 = .ok (.aload_n 0, 1) := by decide +kernel
theorem dX9_carryOut_27 : decode cX9_carryOut 27 = .ok (.iload_n 2, 1) := by decide +kernel
theorem dX9_carryOut_28 : decode cX9_carryOut 28 = .ok (.invokevirtual 215, 3) := by decide +kernel
theorem dX9_carryOut_31 : decode cX9_carryOut 31 = .ok (.invokestatic 283, 3) := by decide +kernel
theorem dX9_carryOut_34 : decode cX9_carryOut 34 = .ok (.goto 29, 3) := by decide +kernel
theorem dX9_carryOut_37 : decode cX9_carryOut 37 = .ok (.iload 4, 2) := by decide +kernel
theorem dX9_carryOut_39 : decode cX9_carryOut 39 = .ok (.ineg, 1) := by decide +kernel
theorem dX9_carryOut_40 : decode cX9_carryOut 40 = .ok (.aload_n 0, 1) := by decide +kernel
theorem dX9_carryOut_41 : decode cX9_carryOut 41 = .ok (.getfield 17, 3) := by decide +kernel
theorem dX9_carryOut_44 : decode cX9_carryOut 44 = .ok (.bipush 45, 2) := by decide +kernel
theorem dX9_carryOut_46 : decode cX9_carryOut 46 = .ok (.iload_n 1, 1) := by decide +kernel
theorem dX9_carryOut_47 : decode cX9_carryOut 47 = .ok (.iadd, 1) := by decide +kernel
theorem dX9_carryOut_48 : decode cX9_carryOut 48 = .ok (.iaload, 1) := by decide +kernel
theorem dX9_carryOut_49 : decode cX9_carryOut 49 = .ok (.aload_n 0, 1) := by decide +kernel
theorem dX9_carryOut_50 : decode cX9_carryOut 50 = .ok (.iload_n 1, 1) := by decide +kernel
theorem dX9_carryOut_51 : decode cX9_carryOut 51 = .ok (.iconst 4, 1) := by decide +kernel
theorem dX9_carryOut_52 : decode cX9_carryOut 52 = .ok (.invokevirtual 243, 3) := by decide +kernel
theorem dX9_carryOut_55 : decode cX9_carryOut 55 = .ok (.isub, 1) := by decide +kernel
theorem dX9_carryOut_56 : decode cX9_carryOut 56 = .ok (.iload 4, 2) := by decide +kernel
theorem dX9_carryOut_58 : decode cX9_carryOut 58 = .ok (.ineg, 1) := by decide +kernel
theorem dX9_carryOut_59 : decode cX9_carryOut 59 = .ok (.invokestatic 283, 3) := by decide +kernel
theorem dX9_carryOut_62 : decode cX9_carryOut 62 = .ok (.ineg, 1) := by decide +kernel
theorem dX9_carryOut_63 : decode cX9_carryOut 63 = .ok (.istore 5, 2) := by decide +kernel
theorem dX9_carryOut_65 : decode cX9_carryOut 65 = .ok (.aload_n 0, 1) := by decide +kernel
theorem dX9_carryOut_66 : decode cX9_carryOut 66 = .ok (.getfield 32, 3) := by decide +kernel
theorem dX9_carryOut_69 : decode cX9_carryOut 69 = .ok (.bipush 6, 2) := by decide +kernel
theorem dX9_carryOut_71 : decode cX9_carryOut 71 = .ok (.iload_n 2, 1) := by decide +kernel
theorem dX9_carryOut_72 : decode cX9_carryOut 72 = .ok (.iadd, 1) := by decide +kernel
theorem dX9_carryOut_73 : decode cX9_carryOut 73 = .ok (.dup2, 1) := by decide +kernel
theorem dX9_carryOut_74 : decode cX9_carryOut 74 = .ok (.iaload, 1) := by decide +kernel
theorem dX9_carryOut_75 : decode cX9_carryOut 75 = .ok (.iload 5, 2) := by decide +kernel
theorem dX9_carryOut_77 : decode cX9_carryOut 77 = .ok (.iadd, 1) := by decide +kernel
theorem dX9_carryOut_78 : decode cX9_carryOut 78 = .ok (.iastore, 1) := by decide +kernel
theorem dX9_carryOut_79 : decode cX9_carryOut 79 = .ok (.aload_n 0, 1) := by decide +kernel
theorem dX9_carryOut_80 : decode cX9_carryOut 80 = .ok (.iload_n 1, 1) := by decide +kernel
theorem dX9_carryOut_81 : decode cX9_carryOut 81 = .ok (.iconst 4, 1) := by decide +kernel
theorem dX9_carryOut_82 : decode cX9_carryOut 82 = .ok (.aload_n 0, 1) := by decide +kernel
theorem dX9_carryOut_83 : decode cX9_carryOut 83 = .ok (.iload_n 1, 1) := by decide +kernel
theorem dX9_carryOut_84 : decode cX9_carryOut 84 = .ok (.iconst 4, 1) := by decide +kernel
theorem dX9_carryOut_85 : decode cX9_carryOut 85 = .ok (.invokevirtual 243, 3) := by decide +kernel
theorem dX9_carryOut_88 : decode cX9_carryOut 88 = .ok (.iload 5, 2) := by decide +kernel
theorem dX9_carryOut_90 : decode cX9_carryOut 90 = .ok (.isub, 1) := by decide +kernel
theorem dX9_carryOut_91 : decode cX9_carryOut 91 = .ok (.invokevirtual 132, 3) := by decide +kernel
theorem dX9_carryOut_94 : decode cX9_carryOut 94 = .ok (.return_, 1) := by decide +kernel
theorem dX9_goOn_0 : decode cX9_goOn 0 = .ok (.aload_n 0, 1) := by decide +kernel
theorem dX9_goOn_1 : decode cX9_goOn 1 = .ok (.iload_n 1, 1) := by decide +kernel
theorem dX9_goOn_2 : decode cX9_goOn 2 = .ok (.iconst 0, 1) := by decide +kernel
theorem dX9_goOn_3 : decode cX9_goOn 3 = .ok (.invokevirtual 243, 3) := by decide +kernel
theorem dX9_goOn_6 : decode cX9_goOn 6 = .ok (.ifCond .lt 152, 3) := by decide +kernel
theorem dX9_goOn_9 : decode cX9_goOn 9 = .ok (.aload_n 0, 1) := by decide +kernel
theorem dX9_goOn_10 : decode cX9_goOn 10 = .ok (.iload_n 1, 1) := by decide +kernel
theorem dX9_goOn_11 : decode cX9_goOn 11 = .ok (.iconst 5, 1) := by decide +kernel
theorem dX9_goOn_12 : decode cX9_goOn 12 = .ok (.invokevirtual 243, 3) := by decide +kernel
theorem dX9_goOn_15 : decode cX9_goOn 15 = .ok (.ifCond .le 143, 3) := by decide +kernel
theorem dX9_goOn_18 : decode cX9_goOn 18 = .ok (.aload_n 0, 1) := by decide +kernel
theorem dX9_goOn_19 : decode cX9_goOn 19 = .ok (.iload_n 1, 1) := by decide +kernel
theorem dX9_goOn_20 : decode cX9_goOn 20 = .ok (.bipush 6, 2) := by decide +kernel
theorem dX9_goOn_22 : decode cX9_goOn 22 = .ok (.invokevirtual 243, 3) := by decide +kernel
theorem dX9_goOn_25 : decode cX9_goOn 25 = .ok (.istore_n 2, 1) := by decide +kernel
theorem dX9_goOn_26 : decode cX9_goOn 26 = .ok (.aload_n 0, 1) := by decide +kernel
theorem dX9_goOn_27 : decode cX9_goOn 27 = .ok (.iload_n 1, 1) := by decide +kernel
theorem dX9_goOn_28 : decode cX9_goOn 28 = .ok (.bipush 7, 2) := by decide +kernel
theorem dX9_goOn_30 : decode cX9_goOn 30 = .ok (.invokevirtual 243, 3) := by decide +kernel
theorem dX9_goOn_33 : decode cX9_goOn 33 = .ok (.istore_n 3, 1) := by decide +kernel
theorem dX9_goOn_34 : decode cX9_goOn 34 = .ok (.aload_n 0, 1) := by decide +kernel
theorem dX9_goOn_35 : decode cX9_goOn 35 = .ok (.iload_n 1, 1) := by decide +kernel
theorem dX9_goOn_36 : decode cX9_goOn 36 = .ok (.iconst 5, 1) := by decide +kernel
theorem dX9_goOn_37 : decode cX9_goOn 37 = .ok (.aload_n 0, 1) := by decide +kernel
theorem dX9_goOn_38 : decode cX9_goOn 38 = .ok (.iload_n 1, 1) := by decide +kernel
theorem dX9_goOn_39 : decode cX9_goOn 39 = .ok (.iconst 5, 1) := by decide +kernel
theorem dX9_goOn_40 : decode cX9_goOn 40 = .ok (.invokevirtual 243, 3) := by decide +kernel
theorem dX9_goOn_43 : decode cX9_goOn 43 = .ok (.iconst 1, 1) := by decide +kernel
theorem dX9_goOn_44 : decode cX9_goOn 44 = .ok (.isub, 1) := by decide +kernel
theorem dX9_goOn_45 : decode cX9_goOn 45 = .ok (.invokevirtual 132, 3) := by decide +kernel
theorem dX9_goOn_48 : decode cX9_goOn 48 = .ok (.bipush 6, 2) := by decide +kernel
theorem dX9_goOn_50 : decode cX9_goOn 50 = .ok (.istore 4, 2) := by decide +kernel
theorem dX9_goOn_52 : decode cX9_goOn 52 = .ok (.iload 4, 2) := by decide +kernel
theorem dX9_goOn_54 : decode cX9_goOn 54 = .ok (.bipush 6, 2) := by decide +kernel
theorem dX9_goOn_56 : decode cX9_goOn 56 = .ok (.iconst 2, 1) := by decide +kernel
theorem dX9_goOn_57 : decode cX9_goOn 57 = .ok (.aload_n 0, 1) := by decide +kernel
theorem dX9_goOn_58 : decode cX9_goOn 58 = .ok (.iload_n 1, 1) := by decide +kernel
theorem dX9_goOn_59 : decode cX9_goOn 59 = .ok (.iconst 5, 1) := by decide +kernel
theorem dX9_goOn_60 : decode cX9_goOn 60 = .ok (.invokevirtual 243, 3) := by decide +kernel
theorem dX9_goOn_63 : decode cX9_goOn 63 = .ok (.imul, 1) := by decide +kernel
theorem dX9_goOn_64 : decode cX9_goOn 64 = .ok (.iadd, 1) := by decide +kernel
theorem dX9_goOn_65 : decode cX9_goOn 65 = .ok (.if_icmp .ge 25, 3) := by decide +kernel
theorem dX9_goOn_68 : decode cX9_goOn 68 = .ok (.aload_n 0, 1) := by decide +kernel
theorem dX9_goOn_69 : decode cX9_goOn 69 = .ok (.iload_n 1, 1) := by decide +kernel
theorem dX9_goOn_70 : decode cX9_goOn 70 = .ok (.iload 4, 2) := by decide +kernel
theorem dX9_goOn_72 : decode cX9_goOn 72 = .ok (.aload_n 0, 1) := by decide +kernel
theorem dX9_goOn_73 : decode cX9_goOn 73 = .ok (.iload_n 1, 1) := by decide +kernel
theorem dX9_goOn_74 : decode cX9_goOn 74 = .ok (.iload 4, 2) := by decide +kernel
theorem dX9_goOn_76 : decode cX9_goOn 76 = .ok (.iconst 2, 1) := by decide +kernel
theorem dX9_goOn_77 : decode cX9_goOn 77 = .ok (.iadd, 1) := by decide +kernel
theorem dX9_goOn_78 : decode cX9_goOn 78 = .ok (.invokevirtual 243, 3) := by decide +kernel
theorem dX9_goOn_81 : decode cX9_goOn 81 = .ok (.invokevirtual 132, 3) := by decide +kernel
theorem dX9_goOn_84 : decode cX9_goOn 84 = .ok (.iinc 4 1, 3) := by decide +kernel
theorem dX9_goOn_87 : decode cX9_goOn 87 = .ok (.goto (-35), 3) := by decide +kernel
theorem dX9_goOn_90 : decode cX9_goOn 90 = .ok (.iload_n 2, 1) := by decide +kernel
theorem dX9_goOn_91 : decode cX9_goOn 91 = .ok (.aload_n 0, 1) := by decide +kernel
theorem dX9_goOn_92 : decode cX9_goOn 92 = .ok (.iload_n 1, 1) := by decide +kernel
theorem dX9_goOn_93 : decode cX9_goOn 93 = .ok (.iconst 0, 1) := by decide +kernel
theorem dX9_goOn_94 : decode cX9_goOn 94 = .ok (.invokevirtual 243, 3) := by decide +kernel
theorem dX9_goOn_97 : decode cX9_goOn 97 = .ok (.if_icmp .ne 13, 3) := by decide +kernel
theorem dX9_goOn_100 : decode cX9_goOn 100 = .ok (.aload_n 0, 1) := by decide +kernel
theorem dX9_goOn_101 : decode cX9_goOn 101 = .ok (.iload_n 1, 1) := by decide +kernel
theorem dX9_goOn_102 : decode cX9_goOn 102 = .ok (.iload_n 2, 1) := by decide +kernel
theorem dX9_goOn_103 : decode cX9_goOn 103 = .ok (.iload_n 3, 1) := by decide +kernel
theorem dX9_goOn_104 : decode cX9_goOn 104 = .ok (.invokevirtual 286, 3) := by decide +kernel
theorem dX9_goOn_107 : decode cX9_goOn 107 = .ok (.goto (-107), 3) := by decide +kernel
theorem dX9_goOn_110 : decode cX9_goOn 110 = .ok (.aload_n 0, 1) := by decide +kernel
theorem dX9_goOn_111 : decode cX9_goOn 111 = .ok (.iload_n 1, 1) := by decide +kernel
theorem dX9_goOn_112 : decode cX9_goOn 112 = .ok (.iconst 1, 1) := by decide +kernel
theorem dX9_goOn_113 : decode cX9_goOn 113 = .ok (.iload_n 2, 1) := by decide +kernel
theorem dX9_goOn_114 : decode cX9_goOn 114 = .ok (.invokevirtual 132, 3) := by decide +kernel
theorem dX9_goOn_117 : decode cX9_goOn 117 = .ok (.aload_n 0, 1) := by decide +kernel
theorem dX9_goOn_118 : decode cX9_goOn 118 = .ok (.iload_n 1, 1) := by decide +kernel
theorem dX9_goOn_119 : decode cX9_goOn 119 = .ok (.iconst 2, 1) := by decide +kernel
theorem dX9_goOn_120 : decode cX9_goOn 120 = .ok (.aload_n 0, 1) := by decide +kernel
theorem dX9_goOn_121 : decode cX9_goOn 121 = .ok (.getfield 32, 3) := by decide +kernel
theorem dX9_goOn_124 : decode cX9_goOn 124 = .ok (.iconst 0, 1) := by decide +kernel
theorem dX9_goOn_125 : decode cX9_goOn 125 = .ok (.iaload, 1) := by decide +kernel
theorem dX9_goOn_126 : decode cX9_goOn 126 = .ok (.aload_n 0, 1) := by decide +kernel
theorem dX9_goOn_127 : decode cX9_goOn 127 = .ok (.aload_n 0, 1) := by decide +kernel
theorem dX9_goOn_128 : decode cX9_goOn 128 = .ok (.iload_n 1, 1) := by decide +kernel
theorem dX9_goOn_129 : decode cX9_goOn 129 = .ok (.iconst 0, 1) := by decide +kernel
theorem dX9_goOn_130 : decode cX9_goOn 130 = .ok (.invokevirtual 243, 3) := by decide +kernel
theorem dX9_goOn_133 : decode cX9_goOn 133 = .ok (.iload_n 2, 1) := by decide +kernel
theorem dX9_goOn_134 : decode cX9_goOn 134 = .ok (.invokevirtual 289, 3) := by decide +kernel
theorem dX9_goOn_137 : decode cX9_goOn 137 = .ok (.iadd, 1) := by decide +kernel
theorem dX9_goOn_138 : decode cX9_goOn 138 = .ok (.invokevirtual 132, 3) := by decide +kernel
theorem dX9_goOn_141 : decode cX9_goOn 141 = .ok (.aload_n 0, 1) := by decide +kernel
theorem dX9_goOn_142 : decode cX9_goOn 142 = .ok (.iload_n 1, 1) := by decide +kernel
theorem dX9_goOn_143 : decode cX9_goOn 143 = .ok (.iconst 3, 1) := by decide +kernel
theorem dX9_goOn_144 : decode cX9_goOn 144 = .ok (.iload_n 3, 1) := by decide +kernel
theorem dX9_goOn_145 : decode cX9_goOn 145 = .ok (.invokevirtual 132, 3) := by decide +kernel
theorem dX9_goOn_148 : decode cX9_goOn 148 = .ok (.aload_n 0, 1) := by decide +kernel
theorem dX9_goOn_149 : decode cX9_goOn 149 = .ok (.iload_n 1, 1) := by decide +kernel
theorem dX9_goOn_150 : decode cX9_goOn 150 = .ok (.iconst 0, 1) := by decide +kernel
theorem dX9_goOn_151 : decode cX9_goOn 151 = .ok (.iconst (-1), 1) := by decide +kernel
theorem dX9_goOn_152 : decode cX9_goOn 152 = .ok (.invokevirtual 132, 3) := by decide +kernel
theorem dX9_goOn_155 : decode cX9_goOn 155 = .ok (.goto (-155), 3) := by decide +kernel
theorem dX9_goOn_158 : decode cX9_goOn 158 = .ok (.return_, 1) := by decide +kernel
theorem dX9_arrive_0 : decode cX9_arrive 0 = .ok (.aload_n 0, 1) := by decide +kernel
theorem dX9_arrive_1 : decode cX9_arrive 1 = .ok (.iload_n 1, 1) := by decide +kernel
theorem dX9_arrive_2 : decode cX9_arrive 2 = .ok (.iconst 1, 1) := by decide +kernel
theorem dX9_arrive_3 : decode cX9_arrive 3 = .ok (.invokevirtual 243, 3) := by decide +kernel
theorem dX9_arrive_6 : decode cX9_arrive 6 = .ok (.istore_n 2, 1) := by decide +kernel
theorem dX9_arrive_7 : decode cX9_arrive 7 = .ok (.aload_n 0, 1) := by decide +kernel
theorem dX9_arrive_8 : decode cX9_arrive 8 = .ok (.iload_n 1, 1) := by decide +kernel
theorem dX9_arrive_9 : decode cX9_arrive 9 = .ok (.iconst 0, 1) := by decide +kernel
theorem dX9_arrive_10 : decode cX9_arrive 10 = .ok (.iload_n 2, 1) := by decide +kernel
theorem dX9_arrive_11 : decode cX9_arrive 11 = .ok (.invokevirtual 132, 3) := by decide +kernel
theorem dX9_arrive_14 : decode cX9_arrive 14 = .ok (.aload_n 0, 1) := by decide +kernel
theorem dX9_arrive_15 : decode cX9_arrive 15 = .ok (.iload_n 1, 1) := by decide +kernel
theorem dX9_arrive_16 : decode cX9_arrive 16 = .ok (.iconst 1, 1) := by decide +kernel
theorem dX9_arrive_17 : decode cX9_arrive 17 = .ok (.iconst (-1), 1) := by decide +kernel
theorem dX9_arrive_18 : decode cX9_arrive 18 = .ok (.invokevirtual 132, 3) := by decide +kernel
theorem dX9_arrive_21 : decode cX9_arrive 21 = .ok (.aload_n 0, 1) := by decide +kernel
theorem dX9_arrive_22 : decode cX9_arrive 22 = .ok (.iload_n 1, 1) := by decide +kernel
theorem dX9_arrive_23 : decode cX9_arrive 23 = .ok (.iconst 2, 1) := by decide +kernel
theorem dX9_arrive_24 : decode cX9_arrive 24 = .ok (.iconst (-1), 1) := by decide +kernel
theorem dX9_arrive_25 : decode cX9_arrive 25 = .ok (.invokevirtual 132, 3) := by decide +kernel
theorem dX9_arrive_28 : decode cX9_arrive 28 = .ok (.aload_n 0, 1) := by decide +kernel
theorem dX9_arrive_29 : decode cX9_arrive 29 = .ok (.iload_n 1, 1) := by decide +kernel
theorem dX9_arrive_30 : decode cX9_arrive 30 = .ok (.iload_n 2, 1) := by decide +kernel
theorem dX9_arrive_31 : decode cX9_arrive 31 = .ok (.aload_n 0, 1) := by decide +kernel
theorem dX9_arrive_32 : decode cX9_arrive 32 = .ok (.iload_n 1, 1) := by decide +kernel
theorem dX9_arrive_33 : decode cX9_arrive 33 = .ok (.iconst 3, 1) := by decide +kernel
theorem dX9_arrive_34 : decode cX9_arrive 34 = .ok (.invokevirtual 243, 3) := by decide +kernel
theorem dX9_arrive_37 : decode cX9_arrive 37 = .ok (.invokevirtual 286, 3) := by decide +kernel
theorem dX9_arrive_40 : decode cX9_arrive 40 = .ok (.aload_n 0, 1) := by decide +kernel
theorem dX9_arrive_41 : decode cX9_arrive 41 = .ok (.iload_n 1, 1) := by decide +kernel
theorem dX9_arrive_42 : decode cX9_arrive 42 = .ok (.invokevirtual 292, 3) := by decide +kernel
theorem dX9_arrive_45 : decode cX9_arrive 45 = .ok (.return_, 1) := by decide +kernel
theorem dX9_loadsBehind_0 : decode cX9_loadsBehind 0 = .ok (.iconst 0, 1) := by decide +kernel
theorem dX9_loadsBehind_1 : decode cX9_loadsBehind 1 = .ok (.istore 4, 2) := by decide +kernel
theorem dX9_loadsBehind_3 : decode cX9_loadsBehind 3 = .ok (.aload_n 0, 1) := by decide +kernel
theorem dX9_loadsBehind_4 : decode cX9_loadsBehind 4 = .ok (.iload_n 2, 1) := by decide +kernel
theorem dX9_loadsBehind_5 : decode cX9_loadsBehind 5 = .ok (.invokevirtual 237, 3) := by decide +kernel
theorem dX9_loadsBehind_8 : decode cX9_loadsBehind 8 = .ok (.istore 5, 2) := by decide +kernel
theorem dX9_loadsBehind_10 : decode cX9_loadsBehind 10 = .ok (.iload 5, 2) := by decide +kernel
theorem dX9_loadsBehind_12 : decode cX9_loadsBehind 12 = .ok (.aload_n 0, 1) := by decide +kernel
theorem dX9_loadsBehind_13 : decode cX9_loadsBehind 13 = .ok (.iload_n 2, 1) := by decide +kernel
theorem dX9_loadsBehind_14 : decode cX9_loadsBehind 14 = .ok (.invokevirtual 228, 3) := by decide +kernel
theorem dX9_loadsBehind_17 : decode cX9_loadsBehind 17 = .ok (.aload_n 0, 1) := by decide +kernel
theorem dX9_loadsBehind_18 : decode cX9_loadsBehind 18 = .ok (.iload_n 2, 1) := by decide +kernel
theorem dX9_loadsBehind_19 : decode cX9_loadsBehind 19 = .ok (.invokevirtual 237, 3) := by decide +kernel
theorem dX9_loadsBehind_22 : decode cX9_loadsBehind 22 = .ok (.isub, 1) := by decide +kernel
theorem dX9_loadsBehind_23 : decode cX9_loadsBehind 23 = .ok (.if_icmp .gt 45, 3) := by decide +kernel
theorem dX9_loadsBehind_26 : decode cX9_loadsBehind 26 = .ok (.aload_n 0, 1) := by decide +kernel
theorem dX9_loadsBehind_27 : decode cX9_loadsBehind 27 = .ok (.getfield 32, 3) := by decide +kernel
theorem dX9_loadsBehind_30 : decode cX9_loadsBehind 30 = .ok (.bipush 6, 2) := by decide +kernel
theorem dX9_loadsBehind_32 : decode cX9_loadsBehind 32 = .ok (.iload_n 2, 1) := by decide +kernel
theorem dX9_loadsBehind_33 : decode cX9_loadsBehind 33 = .ok (.iadd, 1) := by decide +kernel
theorem dX9_loadsBehind_34 : decode cX9_loadsBehind 34 = .ok (.iaload, 1) := by decide +kernel
theorem dX9_loadsBehind_35 : decode cX9_loadsBehind 35 = .ok (.iload 5, 2) := by decide +kernel
theorem dX9_loadsBehind_37 : decode cX9_loadsBehind 37 = .ok (.isub, 1) := by decide +kernel
theorem dX9_loadsBehind_38 : decode cX9_loadsBehind 38 = .ok (.istore 6, 2) := by decide +kernel
theorem dX9_loadsBehind_40 : decode cX9_loadsBehind 40 = .ok (.iload 4, 2) := by decide +kernel
theorem dX9_loadsBehind_42 : decode cX9_loadsBehind 42 = .ok (.iload 6, 2) := by decide +kernel
theorem dX9_loadsBehind_44 : decode cX9_loadsBehind 44 = .ok (.ifCond .lt 10, 3) := by decide +kernel
theorem dX9_loadsBehind_47 : decode cX9_loadsBehind 47 = .ok (.iload_n 1, 1) := by decide +kernel
theorem dX9_loadsBehind_48 : decode cX9_loadsBehind 48 = .ok (.iload 6, 2) := by decide +kernel
theorem dX9_loadsBehind_50 : decode cX9_loadsBehind 50 = .ok (.ishl, 1) := by decide +kernel
theorem dX9_loadsBehind_51 : decode cX9_loadsBehind 51 = .ok (.goto 8, 3) := by decide +kernel
theorem dX9_loadsBehind_54 : decode cX9_loadsBehind 54 = .ok (.iload_n 1, 1) := by decide +kernel
theorem dX9_loadsBehind_55 : decode cX9_loadsBehind 55 = .ok (.iload 6, 2) := by decide +kernel
theorem dX9_loadsBehind_57 : decode cX9_loadsBehind 57 = .ok (.ineg, 1) := by decide +kernel
theorem dX9_loadsBehind_58 : decode cX9_loadsBehind 58 = .ok (.ishr, 1) := by decide +kernel
theorem dX9_loadsBehind_59 : decode cX9_loadsBehind 59 = .ok (.ior, 1) := by decide +kernel
theorem dX9_loadsBehind_60 : decode cX9_loadsBehind 60 = .ok (.istore 4, 2) := by decide +kernel
theorem dX9_loadsBehind_62 : decode cX9_loadsBehind 62 = .ok (.iinc 5 1, 3) := by decide +kernel
theorem dX9_loadsBehind_65 : decode cX9_loadsBehind 65 = .ok (.goto (-55), 3) := by decide +kernel
theorem dX9_loadsBehind_68 : decode cX9_loadsBehind 68 = .ok (.iload 4, 2) := by decide +kernel
theorem dX9_loadsBehind_70 : decode cX9_loadsBehind 70 = .ok (.iconst 1, 1) := by decide +kernel
theorem dX9_loadsBehind_71 : decode cX9_loadsBehind 71 = .ok (.iload_n 3, 1) := by decide +kernel
theorem dX9_loadsBehind_72 : decode cX9_loadsBehind 72 = .ok (.iconst 1, 1) := by decide +kernel
theorem dX9_loadsBehind_73 : decode cX9_loadsBehind 73 = .ok (.iadd, 1) := by decide +kernel
theorem dX9_loadsBehind_74 : decode cX9_loadsBehind 74 = .ok (.ishl, 1) := by decide +kernel
theorem dX9_loadsBehind_75 : decode cX9_loadsBehind 75 = .ok (.iconst 1, 1) := by decide +kernel
theorem dX9_loadsBehind_76 : decode cX9_loadsBehind 76 = .ok (.isub, 1) := by decide +kernel
theorem dX9_loadsBehind_77 : decode cX9_loadsBehind 77 = .ok (.iand, 1) := by decide +kernel
theorem dX9_loadsBehind_78 : decode cX9_loadsBehind 78 = .ok (.ireturn, 1) := by decide +kernel
theorem dX9_isAllEven_0 : decode cX9_isAllEven 0 = .ok (.iconst 0, 1) := by decide +kernel
theorem dX9_isAllEven_1 : decode cX9_isAllEven 1 = .ok (.istore_n 2, 1) := by decide +kernel
theorem dX9_isAllEven_2 : decode cX9_isAllEven 2 = .ok (.iload_n 2, 1) := by decide +kernel
theorem dX9_isAllEven_3 : decode cX9_isAllEven 3 = .ok (.aload_n 0, 1) := by decide +kernel
theorem dX9_isAllEven_4 : decode cX9_isAllEven 4 = .ok (.getfield 17, 3) := by decide +kernel
theorem dX9_isAllEven_7 : decode cX9_isAllEven 7 = .ok (.iconst 0, 1) := by decide +kernel
theorem dX9_isAllEven_8 : decode cX9_isAllEven 8 = .ok (.iaload, 1) := by decide +kernel
theorem dX9_isAllEven_9 : decode cX9_isAllEven 9 = .ok (.if_icmp .ge 27, 3) := by decide +kernel
theorem dX9_isAllEven_12 : decode cX9_isAllEven 12 = .ok (.iload_n 1, 1) := by decide +kernel
theorem dX9_isAllEven_13 : decode cX9_isAllEven 13 = .ok (.iload_n 2, 1) := by decide +kernel
theorem dX9_isAllEven_14 : decode cX9_isAllEven 14 = .ok (.ishr, 1) := by decide +kernel
theorem dX9_isAllEven_15 : decode cX9_isAllEven 15 = .ok (.iconst 1, 1) := by decide +kernel
theorem dX9_isAllEven_16 : decode cX9_isAllEven 16 = .ok (.iand, 1) := by decide +kernel
theorem dX9_isAllEven_17 : decode cX9_isAllEven 17 = .ok (.ifCond .ne 13, 3) := by decide +kernel
theorem dX9_isAllEven_20 : decode cX9_isAllEven 20 = .ok (.aload_n 0, 1) := by decide +kernel
theorem dX9_isAllEven_21 : decode cX9_isAllEven 21 = .ok (.iload_n 2, 1) := by decide +kernel
theorem dX9_isAllEven_22 : decode cX9_isAllEven 22 = .ok (.invokevirtual 255, 3) := by decide +kernel
theorem dX9_isAllEven_25 : decode cX9_isAllEven 25 = .ok (.ifCond .ne 5, 3) := by decide +kernel
theorem dX9_isAllEven_28 : decode cX9_isAllEven 28 = .ok (.iconst 0, 1) := by decide +kernel
theorem dX9_isAllEven_29 : decode cX9_isAllEven 29 = .ok (.ireturn, 1) := by decide +kernel
theorem dX9_isAllEven_30 : decode cX9_isAllEven 30 = .ok (.iinc 2 1, 3) := by decide +kernel
theorem dX9_isAllEven_33 : decode cX9_isAllEven 33 = .ok (.goto (-31), 3) := by decide +kernel
theorem dX9_isAllEven_36 : decode cX9_isAllEven 36 = .ok (.iconst 1, 1) := by decide +kernel
theorem dX9_isAllEven_37 : decode cX9_isAllEven 37 = .ok (.ireturn, 1) := by decide +kernel
theorem dX9_comeTo_0 : decode cX9_comeTo 0 = .ok (.aload_n 0, 1) := by decide +kernel
theorem dX9_comeTo_1 : decode cX9_comeTo 1 = .ok (.getfield 55, 3) := by decide +kernel
theorem dX9_comeTo_4 : decode cX9_comeTo 4 = .ok (.iload_n 1, 1) := by decide +kernel
theorem dX9_comeTo_5 : decode cX9_comeTo 5 = .ok (.iload_n 2, 1) := by decide +kernel
theorem dX9_comeTo_6 : decode cX9_comeTo 6 = .ok (.iastore, 1) := by decide +kernel
theorem dX9_comeTo_7 : decode cX9_comeTo 7 = .ok (.aload_n 0, 1) := by decide +kernel
theorem dX9_comeTo_8 : decode cX9_comeTo 8 = .ok (.getfield 58, 3) := by decide +kernel
theorem dX9_comeTo_11 : decode cX9_comeTo 11 = .ok (.iload_n 1, 1) := by decide +kernel
theorem dX9_comeTo_12 : decode cX9_comeTo 12 = .ok (.iload_n 3, 1) := by decide +kernel
theorem dX9_comeTo_13 : decode cX9_comeTo 13 = .ok (.iastore, 1) := by decide +kernel
theorem dX9_comeTo_14 : decode cX9_comeTo 14 = .ok (.aload_n 0, 1) := by decide +kernel
theorem dX9_comeTo_15 : decode cX9_comeTo 15 = .ok (.getfield 61, 3) := by decide +kernel
theorem dX9_comeTo_18 : decode cX9_comeTo 18 = .ok (.iload_n 1, 1) := by decide +kernel
theorem dX9_comeTo_19 : decode cX9_comeTo 19 = .ok (.iload 4, 2) := by decide +kernel
theorem dX9_comeTo_21 : decode cX9_comeTo 21 = .ok (.iastore, 1) := by decide +kernel
theorem dX9_comeTo_22 : decode cX9_comeTo 22 = .ok (.aload_n 0, 1) := by decide +kernel
theorem dX9_comeTo_23 : decode cX9_comeTo 23 = .ok (.getfield 64, 3) := by decide +kernel
theorem dX9_comeTo_26 : decode cX9_comeTo 26 = .ok (.iload_n 1, 1) := by decide +kernel
theorem dX9_comeTo_27 : decode cX9_comeTo 27 = .ok (.iload 5, 2) := by decide +kernel
theorem dX9_comeTo_29 : decode cX9_comeTo 29 = .ok (.iastore, 1) := by decide +kernel
theorem dX9_comeTo_30 : decode cX9_comeTo 30 = .ok (.aload_n 0, 1) := by decide +kernel
theorem dX9_comeTo_31 : decode cX9_comeTo 31 = .ok (.getfield 67, 3) := by decide +kernel
theorem dX9_comeTo_34 : decode cX9_comeTo 34 = .ok (.iload_n 1, 1) := by decide +kernel
theorem dX9_comeTo_35 : decode cX9_comeTo 35 = .ok (.bipush 8, 2) := by decide +kernel
theorem dX9_comeTo_37 : decode cX9_comeTo 37 = .ok (.iastore, 1) := by decide +kernel
theorem dX9_comeTo_38 : decode cX9_comeTo 38 = .ok (.iload 5, 2) := by decide +kernel
theorem dX9_comeTo_40 : decode cX9_comeTo 40 = .ok (.ifCond .eq 36, 3) := by decide +kernel
theorem dX9_comeTo_43 : decode cX9_comeTo 43 = .ok (.aload_n 0, 1) := by decide +kernel
theorem dX9_comeTo_44 : decode cX9_comeTo 44 = .ok (.getfield 295, 3) := by decide +kernel
theorem dX9_comeTo_47 : decode cX9_comeTo 47 = .ok (.ifCond .lt 30, 3) := by decide +kernel
theorem dX9_comeTo_50 : decode cX9_comeTo 50 = .ok (.iload 4, 2) := by decide +kernel
theorem dX9_comeTo_52 : decode cX9_comeTo 52 = .ok (.aload_n 0, 1) := by decide +kernel
theorem dX9_comeTo_53 : decode cX9_comeTo 53 = .ok (.getfield 295, 3) := by decide +kernel
theorem dX9_comeTo_56 : decode cX9_comeTo 56 = .ok (.if_icmp .gt 20, 3) := by decide +kernel
theorem dX9_comeTo_59 : decode cX9_comeTo 59 = .ok (.iload 4, 2) := by decide +kernel
theorem dX9_comeTo_61 : decode cX9_comeTo 61 = .ok (.aload_n 0, 1) := by decide +kernel
theorem dX9_comeTo_62 : decode cX9_comeTo 62 = .ok (.getfield 295, 3) := by decide +kernel
theorem dX9_comeTo_65 : decode cX9_comeTo 65 = .ok (.if_icmp .ne 12, 3) := by decide +kernel
theorem dX9_comeTo_68 : decode cX9_comeTo 68 = .ok (.iload_n 1, 1) := by decide +kernel
theorem dX9_comeTo_69 : decode cX9_comeTo 69 = .ok (.aload_n 0, 1) := by decide +kernel
theorem dX9_comeTo_70 : decode cX9_comeTo 70 = .ok (.getfield 298, 3) := by decide +kernel
theorem dX9_comeTo_73 : decode cX9_comeTo 73 = .ok (.if_icmp .lt 4, 3) := by decide +kernel
theorem dX9_comeTo_76 : decode cX9_comeTo 76 = .ok (.return_, 1) := by decide +kernel
theorem dX9_comeTo_77 : decode cX9_comeTo 77 = .ok (.aload_n 0, 1) := by decide +kernel
theorem dX9_comeTo_78 : decode cX9_comeTo 78 = .ok (.iload_n 3, 1) := by decide +kernel
theorem dX9_comeTo_79 : decode cX9_comeTo 79 = .ok (.invokevirtual 301, 3) := by decide +kernel
theorem dX9_comeTo_82 : decode cX9_comeTo 82 = .ok (.ifCond .ne 11, 3) := by decide +kernel
theorem dX9_comeTo_85 : decode cX9_comeTo 85 = .ok (.aload_n 0, 1) := by decide +kernel
theorem dX9_comeTo_86 : decode cX9_comeTo 86 = .ok (.getfield 67, 3) := by decide +kernel
theorem dX9_comeTo_89 : decode cX9_comeTo 89 = .ok (.iload_n 1, 1) := by decide +kernel
theorem dX9_comeTo_90 : decode cX9_comeTo 90 = .ok (.iconst 0, 1) := by decide +kernel
theorem dX9_comeTo_91 : decode cX9_comeTo 91 = .ok (.iastore, 1) := by decide +kernel
theorem dX9_comeTo_92 : decode cX9_comeTo 92 = .ok (.return_, 1) := by decide +kernel
theorem dX9_comeTo_93 : decode cX9_comeTo 93 = .ok (.aload_n 0, 1) := by decide +kernel
theorem dX9_comeTo_94 : decode cX9_comeTo 94 = .ok (.iload 4, 2) := by decide +kernel
theorem dX9_comeTo_96 : decode cX9_comeTo 96 = .ok (.putfield 295, 3) := by decide +kernel
theorem dX9_comeTo_99 : decode cX9_comeTo 99 = .ok (.aload_n 0, 1) := by decide +kernel
theorem dX9_comeTo_100 : decode cX9_comeTo 100 = .ok (.iload_n 1, 1) := by decide +kernel
theorem dX9_comeTo_101 : decode cX9_comeTo 101 = .ok (.putfield 298, 3) := by decide +kernel
theorem dX9_comeTo_104 : decode cX9_comeTo 104 = .ok (.iconst 0, 1) := by decide +kernel
theorem dX9_comeTo_105 : decode cX9_comeTo 105 = .ok (.istore 6, 2) := by decide +kernel
theorem dX9_comeTo_107 : decode cX9_comeTo 107 = .ok (.iload 6, 2) := by decide +kernel
theorem dX9_comeTo_109 : decode cX9_comeTo 109 = .ok (.iload_n 1, 1) := by decide +kernel
theorem dX9_comeTo_110 : decode cX9_comeTo 110 = .ok (.if_icmp .ge 23, 3) := by decide +kernel
theorem dX9_comeTo_113 : decode cX9_comeTo 113 = .ok (.aload_n 0, 1) := by decide +kernel
theorem dX9_comeTo_114 : decode cX9_comeTo 114 = .ok (.getfield 52, 3) := by decide +kernel
theorem dX9_comeTo_117 : decode cX9_comeTo 117 = .ok (.iload 6, 2) := by decide +kernel
theorem dX9_comeTo_119 : decode cX9_comeTo 119 = .ok (.aload_n 0, 1) := by decide +kernel
theorem dX9_comeTo_120 : decode cX9_comeTo 120 = .ok (.getfield 49, 3) := by decide +kernel
theorem dX9_comeTo_123 : decode cX9_comeTo 123 = .ok (.iload 6, 2) := by decide +kernel
theorem dX9_comeTo_125 : decode cX9_comeTo 125 = .ok (.iaload, 1) := by decide +kernel
theorem dX9_comeTo_126 : decode cX9_comeTo 126 = .ok (.iastore, 1) := by decide +kernel
theorem dX9_comeTo_127 : decode cX9_comeTo 127 = .ok (.iinc 6 1, 3) := by decide +kernel
theorem dX9_comeTo_130 : decode cX9_comeTo 130 = .ok (.goto (-23), 3) := by decide +kernel
theorem dX9_comeTo_133 : decode cX9_comeTo 133 = .ok (.return_, 1) := by decide +kernel
theorem dX9_findTour_0 : decode cX9_findTour 0 = .ok (.aload_n 0, 1) := by decide +kernel
theorem dX9_findTour_1 : decode cX9_findTour 1 = .ok (.iconst (-1), 1) := by decide +kernel
theorem dX9_findTour_2 : decode cX9_findTour 2 = .ok (.putfield 295, 3) := by decide +kernel
theorem dX9_findTour_5 : decode cX9_findTour 5 = .ok (.aload_n 0, 1) := by decide +kernel
theorem dX9_findTour_6 : decode cX9_findTour 6 = .ok (.iconst 0, 1) := by decide +kernel
theorem dX9_findTour_7 : decode cX9_findTour 7 = .ok (.putfield 298, 3) := by decide +kernel
theorem dX9_findTour_10 : decode cX9_findTour 10 = .ok (.aload_n 0, 1) := by decide +kernel
theorem dX9_findTour_11 : decode cX9_findTour 11 = .ok (.iconst 0, 1) := by decide +kernel
theorem dX9_findTour_12 : decode cX9_findTour 12 = .ok (.aload_n 0, 1) := by decide +kernel
theorem dX9_findTour_13 : decode cX9_findTour 13 = .ok (.iload_n 1, 1) := by decide +kernel
theorem dX9_findTour_14 : decode cX9_findTour 14 = .ok (.iconst 0, 1) := by decide +kernel
theorem dX9_findTour_15 : decode cX9_findTour 15 = .ok (.invokevirtual 243, 3) := by decide +kernel
theorem dX9_findTour_18 : decode cX9_findTour 18 = .ok (.iconst 0, 1) := by decide +kernel
theorem dX9_findTour_19 : decode cX9_findTour 19 = .ok (.iconst 0, 1) := by decide +kernel
theorem dX9_findTour_20 : decode cX9_findTour 20 = .ok (.iconst 1, 1) := by decide +kernel
theorem dX9_findTour_21 : decode cX9_findTour 21 = .ok (.aload_n 0, 1) := by decide +kernel
theorem dX9_findTour_22 : decode cX9_findTour 22 = .ok (.iload_n 1, 1) := by decide +kernel
theorem dX9_findTour_23 : decode cX9_findTour 23 = .ok (.iconst 4, 1) := by decide +kernel
theorem dX9_findTour_24 : decode cX9_findTour 24 = .ok (.invokevirtual 243, 3) := by decide +kernel
theorem dX9_findTour_27 : decode cX9_findTour 27 = .ok (.ishl, 1) := by decide +kernel
theorem dX9_findTour_28 : decode cX9_findTour 28 = .ok (.invokevirtual 304, 3) := by decide +kernel
theorem dX9_findTour_31 : decode cX9_findTour 31 = .ok (.iconst 0, 1) := by decide +kernel
theorem dX9_findTour_32 : decode cX9_findTour 32 = .ok (.istore_n 2, 1) := by decide +kernel
theorem dX9_findTour_33 : decode cX9_findTour 33 = .ok (.iload_n 2, 1) := by decide +kernel
theorem dX9_findTour_34 : decode cX9_findTour 34 = .ok (.ifCond .lt 144, 3) := by decide +kernel
theorem dX9_findTour_37 : decode cX9_findTour 37 = .ok (.aload_n 0, 1) := by decide +kernel
theorem dX9_findTour_38 : decode cX9_findTour 38 = .ok (.getfield 67, 3) := by decide +kernel
theorem dX9_findTour_41 : decode cX9_findTour 41 = .ok (.iload_n 2, 1) := by decide +kernel
theorem dX9_findTour_42 : decode cX9_findTour 42 = .ok (.iaload, 1) := by decide +kernel
theorem dX9_findTour_43 : decode cX9_findTour 43 = .ok (.istore_n 3, 1) := by decide +kernel
theorem dX9_findTour_44 : decode cX9_findTour 44 = .ok (.aload_n 0, 1) := by decide +kernel
theorem dX9_findTour_45 : decode cX9_findTour 45 = .ok (.getfield 67, 3) := by decide +kernel
theorem dX9_findTour_48 : decode cX9_findTour 48 = .ok (.iload_n 2, 1) := by decide +kernel
theorem dX9_findTour_49 : decode cX9_findTour 49 = .ok (.dup2, 1) := by decide +kernel
theorem dX9_findTour_50 : decode cX9_findTour 50 = .ok (.iaload, 1) := by decide +kernel
theorem dX9_findTour_51 : decode cX9_findTour 51 = .ok (.iconst 1, 1) := by decide +kernel
theorem dX9_findTour_52 : decode cX9_findTour 52 = .ok (.iadd, 1) := by decide +kernel
theorem dX9_findTour_53 : decode cX9_findTour 53 = .ok (.iastore, 1) := by decide +kernel
theorem dX9_findTour_54 : decode cX9_findTour 54 = .ok (.iload_n 3, 1) := by decide +kernel
theorem dX9_findTour_55 : decode cX9_findTour 55 = .ok (.aload_n 0, 1) := by decide +kernel
theorem dX9_findTour_56 : decode cX9_findTour 56 = .ok (.getfield 17, 3) := by decide +kernel
theorem dX9_findTour_59 : decode cX9_findTour 59 = .ok (.iconst 0, 1) := by decide +kernel
theorem dX9_findTour_60 : decode cX9_findTour 60 = .ok (.iaload, 1) := by decide +kernel
theorem dX9_findTour_61 : decode cX9_findTour 61 = .ok (.if_icmp .lt 9, 3) := by decide +kernel
theorem dX9_findTour_64 : decode cX9_findTour 64 = .ok (.iinc 2 (-1), 3) := by decide +kernel
theorem dX9_findTour_67 : decode cX9_findTour 67 = .ok (.goto (-34), 3) := by decide +kernel
theorem dX9_findTour_70 : decode cX9_findTour 70 = .ok (.aload_n 0, 1) := by decide +kernel
theorem dX9_findTour_71 : decode cX9_findTour 71 = .ok (.getfield 58, 3) := by decide +kernel
theorem dX9_findTour_74 : decode cX9_findTour 74 = .ok (.iload_n 2, 1) := by decide +kernel
theorem dX9_findTour_75 : decode cX9_findTour 75 = .ok (.iaload, 1) := by decide +kernel
theorem dX9_findTour_76 : decode cX9_findTour 76 = .ok (.iload_n 3, 1) := by decide +kernel
theorem dX9_findTour_77 : decode cX9_findTour 77 = .ok (.ishr, 1) := by decide +kernel
theorem dX9_findTour_78 : decode cX9_findTour 78 = .ok (.iconst 1, 1) := by decide +kernel
theorem dX9_findTour_79 : decode cX9_findTour 79 = .ok (.iand, 1) := by decide +kernel
theorem dX9_findTour_80 : decode cX9_findTour 80 = .ok (.iconst 1, 1) := by decide +kernel
theorem dX9_findTour_81 : decode cX9_findTour 81 = .ok (.if_icmp .ne 6, 3) := by decide +kernel
theorem dX9_findTour_84 : decode cX9_findTour 84 = .ok (.goto (-51), 3) := by decide +kernel
theorem dX9_findTour_87 : decode cX9_findTour 87 = .ok (.aload_n 0, 1) := by decide +kernel
theorem dX9_findTour_88 : decode cX9_findTour 88 = .ok (.getfield 49, 3) := by decide +kernel
theorem dX9_findTour_91 : decode cX9_findTour 91 = .ok (.iload_n 2, 1) := by decide +kernel
theorem dX9_findTour_92 : decode cX9_findTour 92 = .ok (.iload_n 3, 1) := by decide +kernel
theorem dX9_findTour_93 : decode cX9_findTour 93 = .ok (.iastore, 1) := by decide +kernel
theorem dX9_findTour_94 : decode cX9_findTour 94 = .ok (.iload_n 2, 1) := by decide +kernel
theorem dX9_findTour_95 : decode cX9_findTour 95 = .ok (.ifCond .ne 17, 3) := by decide +kernel
theorem dX9_findTour_98 : decode cX9_findTour 98 = .ok (.iload_n 3, 1) := by decide +kernel
theorem dX9_findTour_99 : decode cX9_findTour 99 = .ok (.aload_n 0, 1) := by decide +kernel
theorem dX9_findTour_100 : decode cX9_findTour 100 = .ok (.getfield 55, 3) := by decide +kernel
theorem dX9_findTour_103 : decode cX9_findTour 103 = .ok (.iconst 0, 1) := by decide +kernel
theorem dX9_findTour_104 : decode cX9_findTour 104 = .ok (.iaload, 1) := by decide +kernel
theorem dX9_findTour_105 : decode cX9_findTour 105 = .ok (.if_icmp .ne 7, 3) := by decide +kernel
theorem dX9_findTour_108 : decode cX9_findTour 108 = .ok (.iconst 0, 1) := by decide +kernel
theorem dX9_findTour_109 : decode cX9_findTour 109 = .ok (.goto 14, 3) := by decide +kernel
theorem dX9_findTour_112 : decode cX9_findTour 112 = .ok (.aload_n 0, 1) := by decide +kernel
theorem dX9_findTour_113 : decode cX9_findTour 113 = .ok (.aload_n 0, 1) := by decide +kernel
theorem dX9_findTour_114 : decode cX9_findTour 114 = .ok (.getfield 55, 3) := by decide +kernel
theorem dX9_findTour_117 : decode cX9_findTour 117 = .ok (.iload_n 2, 1) := by decide +kernel
theorem dX9_findTour_118 : decode cX9_findTour 118 = .ok (.iaload, 1) := by decide +kernel
theorem dX9_findTour_119 : decode cX9_findTour 119 = .ok (.iload_n 3, 1) := by decide +kernel
theorem dX9_findTour_120 : decode cX9_findTour 120 = .ok (.invokevirtual 289, 3) := by decide +kernel
theorem dX9_findTour_123 : decode cX9_findTour 123 = .ok (.istore 4, 2) := by decide +kernel
theorem dX9_findTour_125 : decode cX9_findTour 125 = .ok (.aload_n 0, 1) := by decide +kernel
theorem dX9_findTour_126 : decode cX9_findTour 126 = .ok (.iload_n 2, 1) := by decide +kernel
theorem dX9_findTour_127 : decode cX9_findTour 127 = .ok (.iconst 1, 1) := by decide +kernel
theorem dX9_findTour_128 : decode cX9_findTour 128 = .ok (.iadd, 1) := by decide +kernel
theorem dX9_findTour_129 : decode cX9_findTour 129 = .ok (.iload_n 3, 1) := by decide +kernel
theorem dX9_findTour_130 : decode cX9_findTour 130 = .ok (.aload_n 0, 1) := by decide +kernel
theorem dX9_findTour_131 : decode cX9_findTour 131 = .ok (.getfield 58, 3) := by decide +kernel
theorem dX9_findTour_134 : decode cX9_findTour 134 = .ok (.iload_n 2, 1) := by decide +kernel
theorem dX9_findTour_135 : decode cX9_findTour 135 = .ok (.iaload, 1) := by decide +kernel
theorem dX9_findTour_136 : decode cX9_findTour 136 = .ok (.iconst 1, 1) := by decide +kernel
theorem dX9_findTour_137 : decode cX9_findTour 137 = .ok (.iload_n 3, 1) := by decide +kernel
theorem dX9_findTour_138 : decode cX9_findTour 138 = .ok (.ishl, 1) := by decide +kernel
theorem dX9_findTour_139 : decode cX9_findTour 139 = .ok (.ior, 1) := by decide +kernel
theorem dX9_findTour_140 : decode cX9_findTour 140 = .ok (.aload_n 0, 1) := by decide +kernel
theorem dX9_findTour_141 : decode cX9_findTour 141 = .ok (.getfield 61, 3) := by decide +kernel
theorem dX9_findTour_144 : decode cX9_findTour 144 = .ok (.iload_n 2, 1) := by decide +kernel
theorem dX9_findTour_145 : decode cX9_findTour 145 = .ok (.iaload, 1) := by decide +kernel
theorem dX9_findTour_146 : decode cX9_findTour 146 = .ok (.iload 4, 2) := by decide +kernel
theorem dX9_findTour_148 : decode cX9_findTour 148 = .ok (.iadd, 1) := by decide +kernel
theorem dX9_findTour_149 : decode cX9_findTour 149 = .ok (.aload_n 0, 1) := by decide +kernel
theorem dX9_findTour_150 : decode cX9_findTour 150 = .ok (.aload_n 0, 1) := by decide +kernel
theorem dX9_findTour_151 : decode cX9_findTour 151 = .ok (.getfield 64, 3) := by decide +kernel
theorem dX9_findTour_154 : decode cX9_findTour 154 = .ok (.iload_n 2, 1) := by decide +kernel
theorem dX9_findTour_155 : decode cX9_findTour 155 = .ok (.iaload, 1) := by decide +kernel
theorem dX9_findTour_156 : decode cX9_findTour 156 = .ok (.iload_n 3, 1) := by decide +kernel
theorem dX9_findTour_157 : decode cX9_findTour 157 = .ok (.aload_n 0, 1) := by decide +kernel
theorem dX9_findTour_158 : decode cX9_findTour 158 = .ok (.getfield 17, 3) := by decide +kernel
theorem dX9_findTour_161 : decode cX9_findTour 161 = .ok (.bipush 45, 2) := by decide +kernel
theorem dX9_findTour_163 : decode cX9_findTour 163 = .ok (.iload_n 1, 1) := by decide +kernel
theorem dX9_findTour_164 : decode cX9_findTour 164 = .ok (.iadd, 1) := by decide +kernel
theorem dX9_findTour_165 : decode cX9_findTour 165 = .ok (.iaload, 1) := by decide +kernel
theorem dX9_findTour_166 : decode cX9_findTour 166 = .ok (.invokevirtual 308, 3) := by decide +kernel
theorem dX9_findTour_169 : decode cX9_findTour 169 = .ok (.invokevirtual 304, 3) := by decide +kernel
theorem dX9_findTour_172 : decode cX9_findTour 172 = .ok (.iinc 2 1, 3) := by decide +kernel
theorem dX9_findTour_175 : decode cX9_findTour 175 = .ok (.goto (-142), 3) := by decide +kernel
theorem dX9_findTour_178 : decode cX9_findTour 178 = .ok (.return_, 1) := by decide +kernel
theorem dX9_failsTour_0 : decode cX9_failsTour 0 = .ok (.aload_n 0, 1) := by decide +kernel
theorem dX9_failsTour_1 : decode cX9_failsTour 1 = .ok (.aload_n 0, 1) := by decide +kernel
theorem dX9_failsTour_2 : decode cX9_failsTour 2 = .ok (.iload_n 1, 1) := by decide +kernel
theorem dX9_failsTour_3 : decode cX9_failsTour 3 = .ok (.invokevirtual 280, 3) := by decide +kernel
theorem dX9_failsTour_6 : decode cX9_failsTour 6 = .ok (.ifCond .ne 7, 3) := by decide +kernel
theorem dX9_failsTour_9 : decode cX9_failsTour 9 = .ok (.iconst 1, 1) := by decide +kernel
theorem dX9_failsTour_10 : decode cX9_failsTour 10 = .ok (.goto 17, 3) := by decide +kernel
theorem dX9_failsTour_13 : decode cX9_failsTour 13 = .ok (.aload_n 0, 1) := by decide +kernel
theorem dX9_failsTour_14 : decode cX9_failsTour 14 = .ok (.iload_n 1, 1) := by decide +kernel
theorem dX9_failsTour_15 : decode cX9_failsTour 15 = .ok (.iconst 0, 1) := by decide +kernel
theorem dX9_failsTour_16 : decode cX9_failsTour 16 = .ok (.invokevirtual 243, 3) := by decide +kernel
theorem dX9_failsTour_19 : decode cX9_failsTour 19 = .ok (.ifCond .ge 7, 3) := by decide +kernel
theorem dX9_failsTour_22 : decode cX9_failsTour 22 = .ok (.iconst 2, 1) := by decide +kernel
theorem dX9_failsTour_23 : decode cX9_failsTour 23 = .ok (.goto 4, 3) := by decide +kernel
theorem dX9_failsTour_26 : decode cX9_failsTour 26 = .ok (.iconst 0, 1) := by decide +kernel
theorem dX9_failsTour_27 : decode cX9_failsTour 27 = .ok (.putfield 76, 3) := by decide +kernel
theorem dX9_failsTour_30 : decode cX9_failsTour 30 = .ok (.aload_n 0, 1) := by decide +kernel
theorem dX9_failsTour_31 : decode cX9_failsTour 31 = .ok (.getfield 76, 3) := by decide +kernel
theorem dX9_failsTour_34 : decode cX9_failsTour 34 = .ok (.ifCond .le 7, 3) := by decide +kernel
theorem dX9_failsTour_37 : decode cX9_failsTour 37 = .ok (.iconst 1, 1) := by decide +kernel
theorem dX9_failsTour_38 : decode cX9_failsTour 38 = .ok (.goto 4, 3) := by decide +kernel
theorem dX9_failsTour_41 : decode cX9_failsTour 41 = .ok (.iconst 0, 1) := by decide +kernel
theorem dX9_failsTour_42 : decode cX9_failsTour 42 = .ok (.ireturn, 1) := by decide +kernel
theorem dX9_tourMinutes_0 : decode cX9_tourMinutes 0 = .ok (.aload_n 0, 1) := by decide +kernel
theorem dX9_tourMinutes_1 : decode cX9_tourMinutes 1 = .ok (.iload_n 1, 1) := by decide +kernel
theorem dX9_tourMinutes_2 : decode cX9_tourMinutes 2 = .ok (.invokevirtual 311, 3) := by decide +kernel
theorem dX9_tourMinutes_5 : decode cX9_tourMinutes 5 = .ok (.ifCond .eq 5, 3) := by decide +kernel
theorem dX9_tourMinutes_8 : decode cX9_tourMinutes 8 = .ok (.iconst 0, 1) := by decide +kernel
theorem dX9_tourMinutes_9 : decode cX9_tourMinutes 9 = .ok (.ireturn, 1) := by decide +kernel
theorem dX9_tourMinutes_10 : decode cX9_tourMinutes 10 = .ok (.aload_n 0, 1) := by decide +kernel
theorem dX9_tourMinutes_11 : decode cX9_tourMinutes 11 = .ok (.iload_n 1, 1) := by decide +kernel
theorem dX9_tourMinutes_12 : decode cX9_tourMinutes 12 = .ok (.invokevirtual 314, 3) := by decide +kernel
theorem dX9_tourMinutes_15 : decode cX9_tourMinutes 15 = .ok (.aload_n 0, 1) := by decide +kernel
theorem dX9_tourMinutes_16 : decode cX9_tourMinutes 16 = .ok (.getfield 295, 3) := by decide +kernel
theorem dX9_tourMinutes_19 : decode cX9_tourMinutes 19 = .ok (.ireturn, 1) := by decide +kernel
theorem dX9_tourStop_0 : decode cX9_tourStop 0 = .ok (.aload_n 0, 1) := by decide +kernel
theorem dX9_tourStop_1 : decode cX9_tourStop 1 = .ok (.iload_n 1, 1) := by decide +kernel
theorem dX9_tourStop_2 : decode cX9_tourStop 2 = .ok (.invokevirtual 311, 3) := by decide +kernel
theorem dX9_tourStop_5 : decode cX9_tourStop 5 = .ok (.ifCond .eq 5, 3) := by decide +kernel
theorem dX9_tourStop_8 : decode cX9_tourStop 8 = .ok (.iconst 0, 1) := by decide +kernel
theorem dX9_tourStop_9 : decode cX9_tourStop 9 = .ok (.ireturn, 1) := by decide +kernel
theorem dX9_tourStop_10 : decode cX9_tourStop 10 = .ok (.aload_n 0, 1) := by decide +kernel
theorem dX9_tourStop_11 : decode cX9_tourStop 11 = .ok (.iload_n 1, 1) := by decide +kernel
theorem dX9_tourStop_12 : decode cX9_tourStop 12 = .ok (.invokevirtual 314, 3) := by decide +kernel
theorem dX9_tourStop_15 : decode cX9_tourStop 15 = .ok (.aload_n 0, 1) := by decide +kernel
theorem dX9_tourStop_16 : decode cX9_tourStop 16 = .ok (.getfield 295, 3) := by decide +kernel
theorem dX9_tourStop_19 : decode cX9_tourStop 19 = .ok (.ifCond .lt 26, 3) := by decide +kernel
theorem dX9_tourStop_22 : decode cX9_tourStop 22 = .ok (.iload_n 2, 1) := by decide +kernel
theorem dX9_tourStop_23 : decode cX9_tourStop 23 = .ok (.iconst 0, 1) := by decide +kernel
theorem dX9_tourStop_24 : decode cX9_tourStop 24 = .ok (.aload_n 0, 1) := by decide +kernel
theorem dX9_tourStop_25 : decode cX9_tourStop 25 = .ok (.getfield 298, 3) := by decide +kernel
theorem dX9_tourStop_28 : decode cX9_tourStop 28 = .ok (.iconst 1, 1) := by decide +kernel
theorem dX9_tourStop_29 : decode cX9_tourStop 29 = .ok (.isub, 1) := by decide +kernel
theorem dX9_tourStop_30 : decode cX9_tourStop 30 = .ok (.invokestatic 103, 3) := by decide +kernel
theorem dX9_tourStop_33 : decode cX9_tourStop 33 = .ok (.ifCond .eq 12, 3) := by decide +kernel
theorem dX9_tourStop_36 : decode cX9_tourStop 36 = .ok (.aload_n 0, 1) := by decide +kernel
theorem dX9_tourStop_37 : decode cX9_tourStop 37 = .ok (.getfield 52, 3) := by decide +kernel
theorem dX9_tourStop_40 : decode cX9_tourStop 40 = .ok (.iload_n 2, 1) := by decide +kernel
theorem dX9_tourStop_41 : decode cX9_tourStop 41 = .ok (.iaload, 1) := by decide +kernel
theorem dX9_tourStop_42 : decode cX9_tourStop 42 = .ok (.goto 4, 3) := by decide +kernel
theorem dX9_tourStop_45 : decode cX9_tourStop 45 = .ok (.iconst (-1), 1) := by decide +kernel
theorem dX9_tourStop_46 : decode cX9_tourStop 46 = .ok (.ireturn, 1) := by decide +kernel
theorem dX9_comes_0 : decode cX9_comes 0 = .ok (.aload_n 0, 1) := by decide +kernel
theorem dX9_comes_1 : decode cX9_comes 1 = .ok (.iload_n 1, 1) := by decide +kernel
theorem dX9_comes_2 : decode cX9_comes 2 = .ok (.iconst 1, 1) := by decide +kernel
theorem dX9_comes_3 : decode cX9_comes 3 = .ok (.invokevirtual 274, 3) := by decide +kernel
theorem dX9_comes_6 : decode cX9_comes 6 = .ok (.istore_n 2, 1) := by decide +kernel
theorem dX9_comes_7 : decode cX9_comes 7 = .ok (.aload_n 0, 1) := by decide +kernel
theorem dX9_comes_8 : decode cX9_comes 8 = .ok (.iload_n 2, 1) := by decide +kernel
theorem dX9_comes_9 : decode cX9_comes 9 = .ok (.invokevirtual 215, 3) := by decide +kernel
theorem dX9_comes_12 : decode cX9_comes 12 = .ok (.ifCond .le 32, 3) := by decide +kernel
theorem dX9_comes_15 : decode cX9_comes 15 = .ok (.aload_n 0, 1) := by decide +kernel
theorem dX9_comes_16 : decode cX9_comes 16 = .ok (.getfield 32, 3) := by decide +kernel
theorem dX9_comes_19 : decode cX9_comes 19 = .ok (.iconst 2, 1) := by decide +kernel
theorem dX9_comes_20 : decode cX9_comes 20 = .ok (.dup2, 1) := by decide +kernel
theorem dX9_comes_21 : decode cX9_comes 21 = .ok (.iaload, 1) := by decide +kernel
theorem dX9_comes_22 : decode cX9_comes 22 = .ok (.aload_n 0, 1) := by decide +kernel
theorem dX9_comes_23 : decode cX9_comes 23 = .ok (.iload_n 2, 1) := by decide +kernel
theorem dX9_comes_24 : decode cX9_comes 24 = .ok (.invokevirtual 271, 3) := by decide +kernel
theorem dX9_comes_27 : decode cX9_comes 27 = .ok (.iadd, 1) := by decide +kernel
theorem dX9_comes_28 : decode cX9_comes 28 = .ok (.iastore, 1) := by decide +kernel
theorem dX9_comes_29 : decode cX9_comes 29 = .ok (.aload_n 0, 1) := by decide +kernel
theorem dX9_comes_30 : decode cX9_comes 30 = .ok (.getfield 32, 3) := by decide +kernel
theorem dX9_comes_33 : decode cX9_comes 33 = .ok (.bipush 6, 2) := by decide +kernel
theorem dX9_comes_35 : decode cX9_comes 35 = .ok (.iload_n 2, 1) := by decide +kernel
theorem dX9_comes_36 : decode cX9_comes 36 = .ok (.iadd, 1) := by decide +kernel
theorem dX9_comes_37 : decode cX9_comes 37 = .ok (.dup2, 1) := by decide +kernel
theorem dX9_comes_38 : decode cX9_comes 38 = .ok (.iaload, 1) := by decide +kernel
theorem dX9_comes_39 : decode cX9_comes 39 = .ok (.iconst 1, 1) := by decide +kernel
theorem dX9_comes_40 : decode cX9_comes 40 = .ok (.iadd, 1) := by decide +kernel
theorem dX9_comes_41 : decode cX9_comes 41 = .ok (.iastore, 1) := by decide +kernel
theorem dX9_comes_42 : decode cX9_comes 42 = .ok (.iconst 1, 1) := by decide +kernel
theorem dX9_comes_43 : decode cX9_comes 43 = .ok (.ireturn, 1) := by decide +kernel
theorem dX9_comes_44 : decode cX9_comes 44 = .ok (.aload_n 0, 1) := by decide +kernel
theorem dX9_comes_45 : decode cX9_comes 45 = .ok (.getfield 32, 3) := by decide +kernel
theorem dX9_comes_48 : decode cX9_comes 48 = .ok (.iconst 5, 1) := by decide +kernel
theorem dX9_comes_49 : decode cX9_comes 49 = .ok (.dup2, 1) := by decide +kernel
theorem dX9_comes_50 : decode cX9_comes 50 = .ok (.iaload, 1) := by decide +kernel
theorem dX9_comes_51 : decode cX9_comes 51 = .ok (.iconst 1, 1) := by decide +kernel
theorem dX9_comes_52 : decode cX9_comes 52 = .ok (.iadd, 1) := by decide +kernel
theorem dX9_comes_53 : decode cX9_comes 53 = .ok (.iastore, 1) := by decide +kernel
theorem dX9_comes_54 : decode cX9_comes 54 = .ok (.aload_n 0, 1) := by decide +kernel
theorem dX9_comes_55 : decode cX9_comes 55 = .ok (.iload_n 2, 1) := by decide +kernel
theorem dX9_comes_56 : decode cX9_comes 56 = .ok (.iconst 1, 1) := by decide +kernel
theorem dX9_comes_57 : decode cX9_comes 57 = .ok (.invokevirtual 261, 3) := by decide +kernel
theorem dX9_comes_60 : decode cX9_comes 60 = .ok (.istore_n 3, 1) := by decide +kernel
theorem dX9_comes_61 : decode cX9_comes 61 = .ok (.aload_n 0, 1) := by decide +kernel
theorem dX9_comes_62 : decode cX9_comes 62 = .ok (.getfield 32, 3) := by decide +kernel
theorem dX9_comes_65 : decode cX9_comes 65 = .ok (.sipush 205, 3) := by decide +kernel
theorem dX9_comes_68 : decode cX9_comes 68 = .ok (.iconst 3, 1) := by decide +kernel
theorem dX9_comes_69 : decode cX9_comes 69 = .ok (.iload_n 1, 1) := by decide +kernel
theorem dX9_comes_70 : decode cX9_comes 70 = .ok (.imul, 1) := by decide +kernel
theorem dX9_comes_71 : decode cX9_comes 71 = .ok (.iadd, 1) := by decide +kernel
theorem dX9_comes_72 : decode cX9_comes 72 = .ok (.aload_n 0, 1) := by decide +kernel
theorem dX9_comes_73 : decode cX9_comes 73 = .ok (.getfield 32, 3) := by decide +kernel
theorem dX9_comes_76 : decode cX9_comes 76 = .ok (.iconst 0, 1) := by decide +kernel
theorem dX9_comes_77 : decode cX9_comes 77 = .ok (.iaload, 1) := by decide +kernel
theorem dX9_comes_78 : decode cX9_comes 78 = .ok (.iload_n 3, 1) := by decide +kernel
theorem dX9_comes_79 : decode cX9_comes 79 = .ok (.ifCond .ge 7, 3) := by decide +kernel
theorem dX9_comes_82 : decode cX9_comes 82 = .ok (.iconst 1, 1) := by decide +kernel
theorem dX9_comes_83 : decode cX9_comes 83 = .ok (.goto 9, 3) := by decide +kernel
theorem dX9_comes_86 : decode cX9_comes 86 = .ok (.aload_n 0, 1) := by decide +kernel
theorem dX9_comes_87 : decode cX9_comes 87 = .ok (.iload_n 2, 1) := by decide +kernel
theorem dX9_comes_88 : decode cX9_comes 88 = .ok (.iload_n 3, 1) := by decide +kernel
theorem dX9_comes_89 : decode cX9_comes 89 = .ok (.invokevirtual 212, 3) := by decide +kernel
theorem dX9_comes_92 : decode cX9_comes 92 = .ok (.iadd, 1) := by decide +kernel
theorem dX9_comes_93 : decode cX9_comes 93 = .ok (.iastore, 1) := by decide +kernel
theorem dX9_comes_94 : decode cX9_comes 94 = .ok (.aload_n 0, 1) := by decide +kernel
theorem dX9_comes_95 : decode cX9_comes 95 = .ok (.getfield 32, 3) := by decide +kernel
theorem dX9_comes_98 : decode cX9_comes 98 = .ok (.sipush 205, 3) := by decide +kernel
theorem dX9_comes_101 : decode cX9_comes 101 = .ok (.iconst 3, 1) := by decide +kernel
theorem dX9_comes_102 : decode cX9_comes 102 = .ok (.iload_n 1, 1) := by decide +kernel
theorem dX9_comes_103 : decode cX9_comes 103 = .ok (.imul, 1) := by decide +kernel
theorem dX9_comes_104 : decode cX9_comes 104 = .ok (.iadd, 1) := by decide +kernel
theorem dX9_comes_105 : decode cX9_comes 105 = .ok (.iconst 1, 1) := by decide +kernel
theorem dX9_comes_106 : decode cX9_comes 106 = .ok (.iadd, 1) := by decide +kernel
theorem dX9_comes_107 : decode cX9_comes 107 = .ok (.iload_n 3, 1) := by decide +kernel
theorem dX9_comes_108 : decode cX9_comes 108 = .ok (.ifCond .ge 7, 3) := by decide +kernel
theorem dX9_comes_111 : decode cX9_comes 111 = .ok (.iload_n 2, 1) := by decide +kernel
theorem dX9_comes_112 : decode cX9_comes 112 = .ok (.goto 4, 3) := by decide +kernel
theorem dX9_comes_115 : decode cX9_comes 115 = .ok (.iload_n 3, 1) := by decide +kernel
theorem dX9_comes_116 : decode cX9_comes 116 = .ok (.iastore, 1) := by decide +kernel
theorem dX9_comes_117 : decode cX9_comes 117 = .ok (.iconst 0, 1) := by decide +kernel
theorem dX9_comes_118 : decode cX9_comes 118 = .ok (.ireturn, 1) := by decide +kernel
theorem dX9_passMinute_0 : decode cX9_passMinute 0 = .ok (.aload_n 0, 1) := by decide +kernel
theorem dX9_passMinute_1 : decode cX9_passMinute 1 = .ok (.getfield 32, 3) := by decide +kernel
theorem dX9_passMinute_4 : decode cX9_passMinute 4 = .ok (.iconst 0, 1) := by decide +kernel
theorem dX9_passMinute_5 : decode cX9_passMinute 5 = .ok (.dup2, 1) := by decide +kernel
theorem dX9_passMinute_6 : decode cX9_passMinute 6 = .ok (.iaload, 1) := by decide +kernel
theorem dX9_passMinute_7 : decode cX9_passMinute 7 = .ok (.iconst 1, 1) := by decide +kernel
theorem dX9_passMinute_8 : decode cX9_passMinute 8 = .ok (.iadd, 1) := by decide +kernel
theorem dX9_passMinute_9 : decode cX9_passMinute 9 = .ok (.iastore, 1) := by decide +kernel
theorem dX9_passMinute_10 : decode cX9_passMinute 10 = .ok (.iconst 0, 1) := by decide +kernel
theorem dX9_passMinute_11 : decode cX9_passMinute 11 = .ok (.istore_n 1, 1) := by decide +kernel
theorem dX9_passMinute_12 : decode cX9_passMinute 12 = .ok (.iload_n 1, 1) := by decide +kernel
theorem dX9_passMinute_13 : decode cX9_passMinute 13 = .ok (.aload_n 0, 1) := by decide +kernel
theorem dX9_passMinute_14 : decode cX9_passMinute 14 = .ok (.getfield 17, 3) := by decide +kernel
theorem dX9_passMinute_17 : decode cX9_passMinute 17 = .ok (.iconst 1, 1) := by decide +kernel
theorem dX9_passMinute_18 : decode cX9_passMinute 18 = .ok (.iaload, 1) := by decide +kernel
theorem dX9_passMinute_19 : decode cX9_passMinute 19 = .ok (.if_icmp .ge 38, 3) := by decide +kernel
theorem dX9_passMinute_22 : decode cX9_passMinute 22 = .ok (.aload_n 0, 1) := by decide +kernel
theorem dX9_passMinute_23 : decode cX9_passMinute 23 = .ok (.iload_n 1, 1) := by decide +kernel
theorem dX9_passMinute_24 : decode cX9_passMinute 24 = .ok (.iconst 0, 1) := by decide +kernel
theorem dX9_passMinute_25 : decode cX9_passMinute 25 = .ok (.invokevirtual 243, 3) := by decide +kernel
theorem dX9_passMinute_28 : decode cX9_passMinute 28 = .ok (.ifCond .ge 23, 3) := by decide +kernel
theorem dX9_passMinute_31 : decode cX9_passMinute 31 = .ok (.aload_n 0, 1) := by decide +kernel
theorem dX9_passMinute_32 : decode cX9_passMinute 32 = .ok (.iload_n 1, 1) := by decide +kernel
theorem dX9_passMinute_33 : decode cX9_passMinute 33 = .ok (.iconst 2, 1) := by decide +kernel
theorem dX9_passMinute_34 : decode cX9_passMinute 34 = .ok (.invokevirtual 243, 3) := by decide +kernel
theorem dX9_passMinute_37 : decode cX9_passMinute 37 = .ok (.aload_n 0, 1) := by decide +kernel
theorem dX9_passMinute_38 : decode cX9_passMinute 38 = .ok (.getfield 32, 3) := by decide +kernel
theorem dX9_passMinute_41 : decode cX9_passMinute 41 = .ok (.iconst 0, 1) := by decide +kernel
theorem dX9_passMinute_42 : decode cX9_passMinute 42 = .ok (.iaload, 1) := by decide +kernel
theorem dX9_passMinute_43 : decode cX9_passMinute 43 = .ok (.if_icmp .ne 8, 3) := by decide +kernel
theorem dX9_passMinute_46 : decode cX9_passMinute 46 = .ok (.aload_n 0, 1) := by decide +kernel
theorem dX9_passMinute_47 : decode cX9_passMinute 47 = .ok (.iload_n 1, 1) := by decide +kernel
theorem dX9_passMinute_48 : decode cX9_passMinute 48 = .ok (.invokevirtual 317, 3) := by decide +kernel
theorem dX9_passMinute_51 : decode cX9_passMinute 51 = .ok (.iinc 1 1, 3) := by decide +kernel
theorem dX9_passMinute_54 : decode cX9_passMinute 54 = .ok (.goto (-42), 3) := by decide +kernel
theorem dX9_passMinute_57 : decode cX9_passMinute 57 = .ok (.iconst 0, 1) := by decide +kernel
theorem dX9_passMinute_58 : decode cX9_passMinute 58 = .ok (.istore_n 1, 1) := by decide +kernel
theorem dX9_passMinute_59 : decode cX9_passMinute 59 = .ok (.aload_n 0, 1) := by decide +kernel
theorem dX9_passMinute_60 : decode cX9_passMinute 60 = .ok (.getfield 32, 3) := by decide +kernel
theorem dX9_passMinute_63 : decode cX9_passMinute 63 = .ok (.sipush 204, 3) := by decide +kernel
theorem dX9_passMinute_66 : decode cX9_passMinute 66 = .ok (.iaload, 1) := by decide +kernel
theorem dX9_passMinute_67 : decode cX9_passMinute 67 = .ok (.istore_n 2, 1) := by decide +kernel
theorem dX9_passMinute_68 : decode cX9_passMinute 68 = .ok (.iconst 0, 1) := by decide +kernel
theorem dX9_passMinute_69 : decode cX9_passMinute 69 = .ok (.istore_n 3, 1) := by decide +kernel
theorem dX9_passMinute_70 : decode cX9_passMinute 70 = .ok (.iload_n 3, 1) := by decide +kernel
theorem dX9_passMinute_71 : decode cX9_passMinute 71 = .ok (.iload_n 2, 1) := by decide +kernel
theorem dX9_passMinute_72 : decode cX9_passMinute 72 = .ok (.if_icmp .ge 75, 3) := by decide +kernel
theorem dX9_passMinute_75 : decode cX9_passMinute 75 = .ok (.aload_n 0, 1) := by decide +kernel
theorem dX9_passMinute_76 : decode cX9_passMinute 76 = .ok (.iload_n 3, 1) := by decide +kernel
theorem dX9_passMinute_77 : decode cX9_passMinute 77 = .ok (.iconst 0, 1) := by decide +kernel
theorem dX9_passMinute_78 : decode cX9_passMinute 78 = .ok (.invokevirtual 274, 3) := by decide +kernel
theorem dX9_passMinute_81 : decode cX9_passMinute 81 = .ok (.aload_n 0, 1) := by decide +kernel
theorem dX9_passMinute_82 : decode cX9_passMinute 82 = .ok (.getfield 32, 3) := by decide +kernel
theorem dX9_passMinute_85 : decode cX9_passMinute 85 = .ok (.iconst 0, 1) := by decide +kernel
theorem dX9_passMinute_86 : decode cX9_passMinute 86 = .ok (.iaload, 1) := by decide +kernel
theorem dX9_passMinute_87 : decode cX9_passMinute 87 = .ok (.if_icmp .ne 14, 3) := by decide +kernel
theorem dX9_passMinute_90 : decode cX9_passMinute 90 = .ok (.aload_n 0, 1) := by decide +kernel
theorem dX9_passMinute_91 : decode cX9_passMinute 91 = .ok (.iload_n 3, 1) := by decide +kernel
theorem dX9_passMinute_92 : decode cX9_passMinute 92 = .ok (.invokevirtual 320, 3) := by decide +kernel
theorem dX9_passMinute_95 : decode cX9_passMinute 95 = .ok (.ifCond .eq 6, 3) := by decide +kernel
theorem dX9_passMinute_98 : decode cX9_passMinute 98 = .ok (.goto 43, 3) := by decide +kernel
theorem dX9_passMinute_101 : decode cX9_passMinute 101 = .ok (.iconst 0, 1) := by decide +kernel
theorem dX9_passMinute_102 : decode cX9_passMinute 102 = .ok (.istore 4, 2) := by decide +kernel
theorem dX9_passMinute_104 : decode cX9_passMinute 104 = .ok (.iload 4, 2) := by decide +kernel
theorem dX9_passMinute_106 : decode cX9_passMinute 106 = .ok (.iconst 3, 1) := by decide +kernel
theorem dX9_passMinute_107 : decode cX9_passMinute 107 = .ok (.if_icmp .ge 31, 3) := by decide +kernel
theorem dX9_passMinute_110 : decode cX9_passMinute 110 = .ok (.aload_n 0, 1) := by decide +kernel
theorem dX9_passMinute_111 : decode cX9_passMinute 111 = .ok (.getfield 32, 3) := by decide +kernel
theorem dX9_passMinute_114 : decode cX9_passMinute 114 = .ok (.sipush 205, 3) := by decide +kernel
theorem dX9_passMinute_117 : decode cX9_passMinute 117 = .ok (.iconst 3, 1) := by decide +kernel
theorem dX9_passMinute_118 : decode cX9_passMinute 118 = .ok (.iload_n 1, 1) := by decide +kernel
theorem dX9_passMinute_119 : decode cX9_passMinute 119 = .ok (.imul, 1) := by decide +kernel
theorem dX9_passMinute_120 : decode cX9_passMinute 120 = .ok (.iadd, 1) := by decide +kernel
theorem dX9_passMinute_121 : decode cX9_passMinute 121 = .ok (.iload 4, 2) := by decide +kernel
theorem dX9_passMinute_123 : decode cX9_passMinute 123 = .ok (.iadd, 1) := by decide +kernel
theorem dX9_passMinute_124 : decode cX9_passMinute 124 = .ok (.aload_n 0, 1) := by decide +kernel
theorem dX9_passMinute_125 : decode cX9_passMinute 125 = .ok (.iload_n 3, 1) := by decide +kernel
theorem dX9_passMinute_126 : decode cX9_passMinute 126 = .ok (.iload 4, 2) := by decide +kernel
theorem dX9_passMinute_128 : decode cX9_passMinute 128 = .ok (.invokevirtual 274, 3) := by decide +kernel
theorem dX9_passMinute_131 : decode cX9_passMinute 131 = .ok (.iastore, 1) := by decide +kernel
theorem dX9_passMinute_132 : decode cX9_passMinute 132 = .ok (.iinc 4 1, 3) := by decide +kernel
theorem dX9_passMinute_135 : decode cX9_passMinute 135 = .ok (.goto (-31), 3) := by decide +kernel
theorem dX9_passMinute_138 : decode cX9_passMinute 138 = .ok (.iinc 1 1, 3) := by decide +kernel
theorem dX9_passMinute_141 : decode cX9_passMinute 141 = .ok (.iinc 3 1, 3) := by decide +kernel
theorem dX9_passMinute_144 : decode cX9_passMinute 144 = .ok (.goto (-74), 3) := by decide +kernel
theorem dX9_passMinute_147 : decode cX9_passMinute 147 = .ok (.aload_n 0, 1) := by decide +kernel
theorem dX9_passMinute_148 : decode cX9_passMinute 148 = .ok (.getfield 32, 3) := by decide +kernel
theorem dX9_passMinute_151 : decode cX9_passMinute 151 = .ok (.sipush 204, 3) := by decide +kernel
theorem dX9_passMinute_154 : decode cX9_passMinute 154 = .ok (.iload_n 1, 1) := by decide +kernel
theorem dX9_passMinute_155 : decode cX9_passMinute 155 = .ok (.iastore, 1) := by decide +kernel
theorem dX9_passMinute_156 : decode cX9_passMinute 156 = .ok (.iconst 0, 1) := by decide +kernel
theorem dX9_passMinute_157 : decode cX9_passMinute 157 = .ok (.istore_n 3, 1) := by decide +kernel
theorem dX9_passMinute_158 : decode cX9_passMinute 158 = .ok (.iload_n 3, 1) := by decide +kernel
theorem dX9_passMinute_159 : decode cX9_passMinute 159 = .ok (.aload_n 0, 1) := by decide +kernel
theorem dX9_passMinute_160 : decode cX9_passMinute 160 = .ok (.getfield 17, 3) := by decide +kernel
theorem dX9_passMinute_163 : decode cX9_passMinute 163 = .ok (.iconst 2, 1) := by decide +kernel
theorem dX9_passMinute_164 : decode cX9_passMinute 164 = .ok (.iaload, 1) := by decide +kernel
theorem dX9_passMinute_165 : decode cX9_passMinute 165 = .ok (.if_icmp .ge 90, 3) := by decide +kernel
theorem dX9_passMinute_168 : decode cX9_passMinute 168 = .ok (.aload_n 0, 1) := by decide +kernel
theorem dX9_passMinute_169 : decode cX9_passMinute 169 = .ok (.getfield 17, 3) := by decide +kernel
theorem dX9_passMinute_172 : decode cX9_passMinute 172 = .ok (.bipush 108, 2) := by decide +kernel
theorem dX9_passMinute_174 : decode cX9_passMinute 174 = .ok (.iload_n 3, 1) := by decide +kernel
theorem dX9_passMinute_175 : decode cX9_passMinute 175 = .ok (.iadd, 1) := by decide +kernel
theorem dX9_passMinute_176 : decode cX9_passMinute 176 = .ok (.iaload, 1) := by decide +kernel
theorem dX9_passMinute_177 : decode cX9_passMinute 177 = .ok (.aload_n 0, 1) := by decide +kernel
theorem dX9_passMinute_178 : decode cX9_passMinute 178 = .ok (.getfield 32, 3) := by decide +kernel
theorem dX9_passMinute_181 : decode cX9_passMinute 181 = .ok (.iconst 0, 1) := by decide +kernel
theorem dX9_passMinute_182 : decode cX9_passMinute 182 = .ok (.iaload, 1) := by decide +kernel
theorem dX9_passMinute_183 : decode cX9_passMinute 183 = .ok (.sipush 1440, 3) := by decide +kernel
theorem dX9_passMinute_186 : decode cX9_passMinute 186 = .ok (.irem, 1) := by decide +kernel
theorem dX9_passMinute_187 : decode cX9_passMinute 187 = .ok (.if_icmp .eq 6, 3) := by decide +kernel
theorem dX9_passMinute_190 : decode cX9_passMinute 190 = .ok (.goto 59, 3) := by decide +kernel
theorem dX9_passMinute_193 : decode cX9_passMinute 193 = .ok (.aload_n 0, 1) := by decide +kernel
theorem dX9_passMinute_194 : decode cX9_passMinute 194 = .ok (.getfield 32, 3) := by decide +kernel
theorem dX9_passMinute_197 : decode cX9_passMinute 197 = .ok (.bipush 6, 2) := by decide +kernel
theorem dX9_passMinute_199 : decode cX9_passMinute 199 = .ok (.aload_n 0, 1) := by decide +kernel
theorem dX9_passMinute_200 : decode cX9_passMinute 200 = .ok (.getfield 17, 3) := by decide +kernel
theorem dX9_passMinute_203 : decode cX9_passMinute 203 = .ok (.bipush 48, 2) := by decide +kernel
theorem dX9_passMinute_205 : decode cX9_passMinute 205 = .ok (.iload_n 3, 1) := by decide +kernel
theorem dX9_passMinute_206 : decode cX9_passMinute 206 = .ok (.iadd, 1) := by decide +kernel
theorem dX9_passMinute_207 : decode cX9_passMinute 207 = .ok (.iaload, 1) := by decide +kernel
theorem dX9_passMinute_208 : decode cX9_passMinute 208 = .ok (.iadd, 1) := by decide +kernel
theorem dX9_passMinute_209 : decode cX9_passMinute 209 = .ok (.iaload, 1) := by decide +kernel
theorem dX9_passMinute_210 : decode cX9_passMinute 210 = .ok (.ifCond .ne 16, 3) := by decide +kernel
theorem dX9_passMinute_213 : decode cX9_passMinute 213 = .ok (.aload_n 0, 1) := by decide +kernel
theorem dX9_passMinute_214 : decode cX9_passMinute 214 = .ok (.getfield 32, 3) := by decide +kernel
theorem dX9_passMinute_217 : decode cX9_passMinute 217 = .ok (.iconst 4, 1) := by decide +kernel
theorem dX9_passMinute_218 : decode cX9_passMinute 218 = .ok (.dup2, 1) := by decide +kernel
theorem dX9_passMinute_219 : decode cX9_passMinute 219 = .ok (.iaload, 1) := by decide +kernel
theorem dX9_passMinute_220 : decode cX9_passMinute 220 = .ok (.iconst 1, 1) := by decide +kernel
theorem dX9_passMinute_221 : decode cX9_passMinute 221 = .ok (.iadd, 1) := by decide +kernel
theorem dX9_passMinute_222 : decode cX9_passMinute 222 = .ok (.iastore, 1) := by decide +kernel
theorem dX9_passMinute_223 : decode cX9_passMinute 223 = .ok (.goto 26, 3) := by decide +kernel
theorem dX9_passMinute_226 : decode cX9_passMinute 226 = .ok (.aload_n 0, 1) := by decide +kernel
theorem dX9_passMinute_227 : decode cX9_passMinute 227 = .ok (.aload_n 0, 1) := by decide +kernel
theorem dX9_passMinute_228 : decode cX9_passMinute 228 = .ok (.getfield 17, 3) := by decide +kernel
theorem dX9_passMinute_231 : decode cX9_passMinute 231 = .ok (.bipush 48, 2) := by decide +kernel
theorem dX9_passMinute_233 : decode cX9_passMinute 233 = .ok (.iload_n 3, 1) := by decide +kernel
theorem dX9_passMinute_234 : decode cX9_passMinute 234 = .ok (.iadd, 1) := by decide +kernel
theorem dX9_passMinute_235 : decode cX9_passMinute 235 = .ok (.iaload, 1) := by decide +kernel
theorem dX9_passMinute_236 : decode cX9_passMinute 236 = .ok (.aload_n 0, 1) := by decide +kernel
theorem dX9_passMinute_237 : decode cX9_passMinute 237 = .ok (.getfield 17, 3) := by decide +kernel
theorem dX9_passMinute_240 : decode cX9_passMinute 240 = .ok (.bipush 78, 2) := by decide +kernel
theorem dX9_passMinute_242 : decode cX9_passMinute 242 = .ok (.iload_n 3, 1) := by decide +kernel
theorem dX9_passMinute_243 : decode cX9_passMinute 243 = .ok (.iadd, 1) := by decide +kernel
theorem dX9_passMinute_244 : decode cX9_passMinute 244 = .ok (.iaload, 1) := by decide +kernel
theorem dX9_passMinute_245 : decode cX9_passMinute 245 = .ok (.invokevirtual 323, 3) := by decide +kernel
theorem dX9_passMinute_248 : decode cX9_passMinute 248 = .ok (.pop, 1) := by decide +kernel
theorem dX9_passMinute_249 : decode cX9_passMinute 249 = .ok (.iinc 3 1, 3) := by decide +kernel
theorem dX9_passMinute_252 : decode cX9_passMinute 252 = .ok (.goto (-94), 3) := by decide +kernel
theorem dX9_passMinute_255 : decode cX9_passMinute 255 = .ok (.iload_n 2, 1) := by decide +kernel
theorem dX9_passMinute_256 : decode cX9_passMinute 256 = .ok (.iload_n 1, 1) := by decide +kernel
theorem dX9_passMinute_257 : decode cX9_passMinute 257 = .ok (.isub, 1) := by decide +kernel
theorem dX9_passMinute_258 : decode cX9_passMinute 258 = .ok (.ireturn, 1) := by decide +kernel
theorem dX9_totalOf_0 : decode cX9_totalOf 0 = .ok (.iload_n 1, 1) := by decide +kernel
theorem dX9_totalOf_1 : decode cX9_totalOf 1 = .ok (.iconst 5, 1) := by decide +kernel
theorem dX9_totalOf_2 : decode cX9_totalOf 2 = .ok (.if_icmp .ne 10, 3) := by decide +kernel
theorem dX9_totalOf_5 : decode cX9_totalOf 5 = .ok (.aload_n 0, 1) := by decide +kernel
theorem dX9_totalOf_6 : decode cX9_totalOf 6 = .ok (.invokevirtual 246, 3) := by decide +kernel
theorem dX9_totalOf_9 : decode cX9_totalOf 9 = .ok (.goto 11, 3) := by decide +kernel
theorem dX9_totalOf_12 : decode cX9_totalOf 12 = .ok (.aload_n 0, 1) := by decide +kernel
theorem dX9_totalOf_13 : decode cX9_totalOf 13 = .ok (.getfield 32, 3) := by decide +kernel
theorem dX9_totalOf_16 : decode cX9_totalOf 16 = .ok (.iconst 1, 1) := by decide +kernel
theorem dX9_totalOf_17 : decode cX9_totalOf 17 = .ok (.iload_n 1, 1) := by decide +kernel
theorem dX9_totalOf_18 : decode cX9_totalOf 18 = .ok (.iadd, 1) := by decide +kernel
theorem dX9_totalOf_19 : decode cX9_totalOf 19 = .ok (.iaload, 1) := by decide +kernel
theorem dX9_totalOf_20 : decode cX9_totalOf 20 = .ok (.ireturn, 1) := by decide +kernel
theorem dX9_total_0 : decode cX9_total 0 = .ok (.aload_n 0, 1) := by decide +kernel
theorem dX9_total_1 : decode cX9_total 1 = .ok (.iconst 0, 1) := by decide +kernel
theorem dX9_total_2 : decode cX9_total 2 = .ok (.putfield 76, 3) := by decide +kernel
theorem dX9_total_5 : decode cX9_total 5 = .ok (.iload_n 1, 1) := by decide +kernel
theorem dX9_total_6 : decode cX9_total 6 = .ok (.iconst 0, 1) := by decide +kernel
theorem dX9_total_7 : decode cX9_total 7 = .ok (.iconst 5, 1) := by decide +kernel
theorem dX9_total_8 : decode cX9_total 8 = .ok (.invokestatic 103, 3) := by decide +kernel
theorem dX9_total_11 : decode cX9_total 11 = .ok (.ifCond .eq 11, 3) := by decide +kernel
theorem dX9_total_14 : decode cX9_total 14 = .ok (.aload_n 0, 1) := by decide +kernel
theorem dX9_total_15 : decode cX9_total 15 = .ok (.iload_n 1, 1) := by decide +kernel
theorem dX9_total_16 : decode cX9_total 16 = .ok (.invokevirtual 326, 3) := by decide +kernel
theorem dX9_total_19 : decode cX9_total 19 = .ok (.goto 8, 3) := by decide +kernel
theorem dX9_total_22 : decode cX9_total 22 = .ok (.aload_n 0, 1) := by decide +kernel
theorem dX9_total_23 : decode cX9_total 23 = .ok (.iconst 1, 1) := by decide +kernel
theorem dX9_total_24 : decode cX9_total 24 = .ok (.invokevirtual 222, 3) := by decide +kernel
theorem dX9_total_27 : decode cX9_total 27 = .ok (.ireturn, 1) := by decide +kernel
theorem dX9_forecast_0 : decode cX9_forecast 0 = .ok (.aload_n 0, 1) := by decide +kernel
theorem dX9_forecast_1 : decode cX9_forecast 1 = .ok (.iconst 0, 1) := by decide +kernel
theorem dX9_forecast_2 : decode cX9_forecast 2 = .ok (.putfield 76, 3) := by decide +kernel
theorem dX9_forecast_5 : decode cX9_forecast 5 = .ok (.iload_n 1, 1) := by decide +kernel
theorem dX9_forecast_6 : decode cX9_forecast 6 = .ok (.iconst 0, 1) := by decide +kernel
theorem dX9_forecast_7 : decode cX9_forecast 7 = .ok (.sipush 1440, 3) := by decide +kernel
theorem dX9_forecast_10 : decode cX9_forecast 10 = .ok (.invokestatic 103, 3) := by decide +kernel
theorem dX9_forecast_13 : decode cX9_forecast 13 = .ok (.ifCond .eq 12, 3) := by decide +kernel
theorem dX9_forecast_16 : decode cX9_forecast 16 = .ok (.iload_n 2, 1) := by decide +kernel
theorem dX9_forecast_17 : decode cX9_forecast 17 = .ok (.iconst 0, 1) := by decide +kernel
theorem dX9_forecast_18 : decode cX9_forecast 18 = .ok (.iconst 5, 1) := by decide +kernel
theorem dX9_forecast_19 : decode cX9_forecast 19 = .ok (.invokestatic 103, 3) := by decide +kernel
theorem dX9_forecast_22 : decode cX9_forecast 22 = .ok (.ifCond .ne 9, 3) := by decide +kernel
theorem dX9_forecast_25 : decode cX9_forecast 25 = .ok (.aload_n 0, 1) := by decide +kernel
theorem dX9_forecast_26 : decode cX9_forecast 26 = .ok (.iconst 1, 1) := by decide +kernel
theorem dX9_forecast_27 : decode cX9_forecast 27 = .ok (.invokevirtual 222, 3) := by decide +kernel
theorem dX9_forecast_30 : decode cX9_forecast 30 = .ok (.ireturn, 1) := by decide +kernel
theorem dX9_forecast_31 : decode cX9_forecast 31 = .ok (.aload_n 0, 1) := by decide +kernel
theorem dX9_forecast_32 : decode cX9_forecast 32 = .ok (.invokevirtual 329, 3) := by decide +kernel
theorem dX9_forecast_35 : decode cX9_forecast 35 = .ok (.iconst 0, 1) := by decide +kernel
theorem dX9_forecast_36 : decode cX9_forecast 36 = .ok (.istore_n 3, 1) := by decide +kernel
theorem dX9_forecast_37 : decode cX9_forecast 37 = .ok (.iload_n 3, 1) := by decide +kernel
theorem dX9_forecast_38 : decode cX9_forecast 38 = .ok (.iload_n 1, 1) := by decide +kernel
theorem dX9_forecast_39 : decode cX9_forecast 39 = .ok (.if_icmp .ge 14, 3) := by decide +kernel
theorem dX9_forecast_42 : decode cX9_forecast 42 = .ok (.aload_n 0, 1) := by decide +kernel
theorem dX9_forecast_43 : decode cX9_forecast 43 = .ok (.invokevirtual 332, 3) := by decide +kernel
theorem dX9_forecast_46 : decode cX9_forecast 46 = .ok (.pop, 1) := by decide +kernel
theorem dX9_forecast_47 : decode cX9_forecast 47 = .ok (.iinc 3 1, 3) := by decide +kernel
theorem dX9_forecast_50 : decode cX9_forecast 50 = .ok (.goto (-13), 3) := by decide +kernel
theorem dX9_forecast_53 : decode cX9_forecast 53 = .ok (.aload_n 0, 1) := by decide +kernel
theorem dX9_forecast_54 : decode cX9_forecast 54 = .ok (.iload_n 2, 1) := by decide +kernel
theorem dX9_forecast_55 : decode cX9_forecast 55 = .ok (.invokevirtual 326, 3) := by decide +kernel
theorem dX9_forecast_58 : decode cX9_forecast 58 = .ok (.istore_n 3, 1) := by decide +kernel
theorem dX9_forecast_59 : decode cX9_forecast 59 = .ok (.aload_n 0, 1) := by decide +kernel
theorem dX9_forecast_60 : decode cX9_forecast 60 = .ok (.invokevirtual 335, 3) := by decide +kernel
theorem dX9_forecast_63 : decode cX9_forecast 63 = .ok (.iload_n 3, 1) := by decide +kernel
theorem dX9_forecast_64 : decode cX9_forecast 64 = .ok (.ireturn, 1) := by decide +kernel
theorem dX9_runsOut_0 : decode cX9_runsOut 0 = .ok (.aload_n 0, 1) := by decide +kernel
theorem dX9_runsOut_1 : decode cX9_runsOut 1 = .ok (.iconst 0, 1) := by decide +kernel
theorem dX9_runsOut_2 : decode cX9_runsOut 2 = .ok (.putfield 76, 3) := by decide +kernel
theorem dX9_runsOut_5 : decode cX9_runsOut 5 = .ok (.aload_n 0, 1) := by decide +kernel
theorem dX9_runsOut_6 : decode cX9_runsOut 6 = .ok (.iload_n 1, 1) := by decide +kernel
theorem dX9_runsOut_7 : decode cX9_runsOut 7 = .ok (.invokevirtual 252, 3) := by decide +kernel
theorem dX9_runsOut_10 : decode cX9_runsOut 10 = .ok (.ifCond .ne 9, 3) := by decide +kernel
theorem dX9_runsOut_13 : decode cX9_runsOut 13 = .ok (.aload_n 0, 1) := by decide +kernel
theorem dX9_runsOut_14 : decode cX9_runsOut 14 = .ok (.iconst 1, 1) := by decide +kernel
theorem dX9_runsOut_15 : decode cX9_runsOut 15 = .ok (.invokevirtual 222, 3) := by decide +kernel
theorem dX9_runsOut_18 : decode cX9_runsOut 18 = .ok (.ireturn, 1) := by decide +kernel
theorem dX9_runsOut_19 : decode cX9_runsOut 19 = .ok (.aload_n 0, 1) := by decide +kernel
theorem dX9_runsOut_20 : decode cX9_runsOut 20 = .ok (.invokevirtual 329, 3) := by decide +kernel
theorem dX9_runsOut_23 : decode cX9_runsOut 23 = .ok (.iconst 0, 1) := by decide +kernel
theorem dX9_runsOut_24 : decode cX9_runsOut 24 = .ok (.istore_n 3, 1) := by decide +kernel
theorem dX9_runsOut_25 : decode cX9_runsOut 25 = .ok (.iload_n 3, 1) := by decide +kernel
theorem dX9_runsOut_26 : decode cX9_runsOut 26 = .ok (.sipush 1440, 3) := by decide +kernel
theorem dX9_runsOut_29 : decode cX9_runsOut 29 = .ok (.if_icmp .gt 38, 3) := by decide +kernel
theorem dX9_runsOut_32 : decode cX9_runsOut 32 = .ok (.iload_n 2, 1) := by decide +kernel
theorem dX9_runsOut_33 : decode cX9_runsOut 33 = .ok (.ifCond .eq 11, 3) := by decide +kernel
theorem dX9_runsOut_36 : decode cX9_runsOut 36 = .ok (.aload_n 0, 1) := by decide +kernel
theorem dX9_runsOut_37 : decode cX9_runsOut 37 = .ok (.iload_n 1, 1) := by decide +kernel
theorem dX9_runsOut_38 : decode cX9_runsOut 38 = .ok (.invokevirtual 215, 3) := by decide +kernel
theorem dX9_runsOut_41 : decode cX9_runsOut 41 = .ok (.goto 12, 3) := by decide +kernel
theorem dX9_runsOut_44 : decode cX9_runsOut 44 = .ok (.aload_n 0, 1) := by decide +kernel
theorem dX9_runsOut_45 : decode cX9_runsOut 45 = .ok (.getfield 32, 3) := by decide +kernel
theorem dX9_runsOut_48 : decode cX9_runsOut 48 = .ok (.bipush 6, 2) := by decide +kernel
theorem dX9_runsOut_50 : decode cX9_runsOut 50 = .ok (.iload_n 1, 1) := by decide +kernel
theorem dX9_runsOut_51 : decode cX9_runsOut 51 = .ok (.iadd, 1) := by decide +kernel
theorem dX9_runsOut_52 : decode cX9_runsOut 52 = .ok (.iaload, 1) := by decide +kernel
theorem dX9_runsOut_53 : decode cX9_runsOut 53 = .ok (.ifCond .le 14, 3) := by decide +kernel
theorem dX9_runsOut_56 : decode cX9_runsOut 56 = .ok (.aload_n 0, 1) := by decide +kernel
theorem dX9_runsOut_57 : decode cX9_runsOut 57 = .ok (.invokevirtual 332, 3) := by decide +kernel
theorem dX9_runsOut_60 : decode cX9_runsOut 60 = .ok (.pop, 1) := by decide +kernel
theorem dX9_runsOut_61 : decode cX9_runsOut 61 = .ok (.iinc 3 1, 3) := by decide +kernel
theorem dX9_runsOut_64 : decode cX9_runsOut 64 = .ok (.goto (-39), 3) := by decide +kernel
theorem dX9_runsOut_67 : decode cX9_runsOut 67 = .ok (.aload_n 0, 1) := by decide +kernel
theorem dX9_runsOut_68 : decode cX9_runsOut 68 = .ok (.invokevirtual 335, 3) := by decide +kernel
theorem dX9_runsOut_71 : decode cX9_runsOut 71 = .ok (.iload_n 3, 1) := by decide +kernel
theorem dX9_runsOut_72 : decode cX9_runsOut 72 = .ok (.sipush 1440, 3) := by decide +kernel
theorem dX9_runsOut_75 : decode cX9_runsOut 75 = .ok (.if_icmp .le 7, 3) := by decide +kernel
theorem dX9_runsOut_78 : decode cX9_runsOut 78 = .ok (.iconst (-1), 1) := by decide +kernel
theorem dX9_runsOut_79 : decode cX9_runsOut 79 = .ok (.goto 4, 3) := by decide +kernel
theorem dX9_runsOut_82 : decode cX9_runsOut 82 = .ok (.iload_n 3, 1) := by decide +kernel
theorem dX9_runsOut_83 : decode cX9_runsOut 83 = .ok (.ireturn, 1) := by decide +kernel
theorem dX9_pass_0 : decode cX9_pass 0 = .ok (.aload_n 0, 1) := by decide +kernel
theorem dX9_pass_1 : decode cX9_pass 1 = .ok (.iconst 0, 1) := by decide +kernel
theorem dX9_pass_2 : decode cX9_pass 2 = .ok (.putfield 76, 3) := by decide +kernel
theorem dX9_pass_5 : decode cX9_pass 5 = .ok (.iload_n 1, 1) := by decide +kernel
theorem dX9_pass_6 : decode cX9_pass 6 = .ok (.iconst 1, 1) := by decide +kernel
theorem dX9_pass_7 : decode cX9_pass 7 = .ok (.sipush 1440, 3) := by decide +kernel
theorem dX9_pass_10 : decode cX9_pass 10 = .ok (.invokestatic 103, 3) := by decide +kernel
theorem dX9_pass_13 : decode cX9_pass 13 = .ok (.ifCond .ne 9, 3) := by decide +kernel
theorem dX9_pass_16 : decode cX9_pass 16 = .ok (.aload_n 0, 1) := by decide +kernel
theorem dX9_pass_17 : decode cX9_pass 17 = .ok (.iconst 1, 1) := by decide +kernel
theorem dX9_pass_18 : decode cX9_pass 18 = .ok (.invokevirtual 222, 3) := by decide +kernel
theorem dX9_pass_21 : decode cX9_pass 21 = .ok (.ireturn, 1) := by decide +kernel
theorem dX9_pass_22 : decode cX9_pass 22 = .ok (.aload_n 0, 1) := by decide +kernel
theorem dX9_pass_23 : decode cX9_pass 23 = .ok (.getfield 32, 3) := by decide +kernel
theorem dX9_pass_26 : decode cX9_pass 26 = .ok (.iconst 0, 1) := by decide +kernel
theorem dX9_pass_27 : decode cX9_pass 27 = .ok (.iaload, 1) := by decide +kernel
theorem dX9_pass_28 : decode cX9_pass 28 = .ok (.iload_n 1, 1) := by decide +kernel
theorem dX9_pass_29 : decode cX9_pass 29 = .ok (.iadd, 1) := by decide +kernel
theorem dX9_pass_30 : decode cX9_pass 30 = .ok (.sipush 9999, 3) := by decide +kernel
theorem dX9_pass_33 : decode cX9_pass 33 = .ok (.if_icmp .le 9, 3) := by decide +kernel
theorem dX9_pass_36 : decode cX9_pass 36 = .ok (.aload_n 0, 1) := by decide +kernel
theorem dX9_pass_37 : decode cX9_pass 37 = .ok (.iconst 2, 1) := by decide +kernel
theorem dX9_pass_38 : decode cX9_pass 38 = .ok (.invokevirtual 222, 3) := by decide +kernel
theorem dX9_pass_41 : decode cX9_pass 41 = .ok (.ireturn, 1) := by decide +kernel
theorem dX9_pass_42 : decode cX9_pass 42 = .ok (.aload_n 0, 1) := by decide +kernel
theorem dX9_pass_43 : decode cX9_pass 43 = .ok (.invokevirtual 338, 3) := by decide +kernel
theorem dX9_pass_46 : decode cX9_pass 46 = .ok (.iconst 0, 1) := by decide +kernel
theorem dX9_pass_47 : decode cX9_pass 47 = .ok (.istore_n 2, 1) := by decide +kernel
theorem dX9_pass_48 : decode cX9_pass 48 = .ok (.iconst 0, 1) := by decide +kernel
theorem dX9_pass_49 : decode cX9_pass 49 = .ok (.istore_n 3, 1) := by decide +kernel
theorem dX9_pass_50 : decode cX9_pass 50 = .ok (.iload_n 3, 1) := by decide +kernel
theorem dX9_pass_51 : decode cX9_pass 51 = .ok (.iload_n 1, 1) := by decide +kernel
theorem dX9_pass_52 : decode cX9_pass 52 = .ok (.if_icmp .ge 16, 3) := by decide +kernel
theorem dX9_pass_55 : decode cX9_pass 55 = .ok (.iload_n 2, 1) := by decide +kernel
theorem dX9_pass_56 : decode cX9_pass 56 = .ok (.aload_n 0, 1) := by decide +kernel
theorem dX9_pass_57 : decode cX9_pass 57 = .ok (.invokevirtual 332, 3) := by decide +kernel
theorem dX9_pass_60 : decode cX9_pass 60 = .ok (.iadd, 1) := by decide +kernel
theorem dX9_pass_61 : decode cX9_pass 61 = .ok (.istore_n 2, 1) := by decide +kernel
theorem dX9_pass_62 : decode cX9_pass 62 = .ok (.iinc 3 1, 3) := by decide +kernel
theorem dX9_pass_65 : decode cX9_pass 65 = .ok (.goto (-15), 3) := by decide +kernel
theorem dX9_pass_68 : decode cX9_pass 68 = .ok (.iload_n 2, 1) := by decide +kernel
theorem dX9_pass_69 : decode cX9_pass 69 = .ok (.ireturn, 1) := by decide +kernel
theorem dX9_rent_0 : decode cX9_rent 0 = .ok (.aload_n 0, 1) := by decide +kernel
theorem dX9_rent_1 : decode cX9_rent 1 = .ok (.iconst 0, 1) := by decide +kernel
theorem dX9_rent_2 : decode cX9_rent 2 = .ok (.putfield 76, 3) := by decide +kernel
theorem dX9_rent_5 : decode cX9_rent 5 = .ok (.aload_n 0, 1) := by decide +kernel
theorem dX9_rent_6 : decode cX9_rent 6 = .ok (.iload_n 1, 1) := by decide +kernel
theorem dX9_rent_7 : decode cX9_rent 7 = .ok (.iload_n 2, 1) := by decide +kernel
theorem dX9_rent_8 : decode cX9_rent 8 = .ok (.invokevirtual 265, 3) := by decide +kernel
theorem dX9_rent_11 : decode cX9_rent 11 = .ok (.ifCond .ne 9, 3) := by decide +kernel
theorem dX9_rent_14 : decode cX9_rent 14 = .ok (.aload_n 0, 1) := by decide +kernel
theorem dX9_rent_15 : decode cX9_rent 15 = .ok (.iconst 1, 1) := by decide +kernel
theorem dX9_rent_16 : decode cX9_rent 16 = .ok (.invokevirtual 222, 3) := by decide +kernel
theorem dX9_rent_19 : decode cX9_rent 19 = .ok (.ireturn, 1) := by decide +kernel
theorem dX9_rent_20 : decode cX9_rent 20 = .ok (.aload_n 0, 1) := by decide +kernel
theorem dX9_rent_21 : decode cX9_rent 21 = .ok (.getfield 32, 3) := by decide +kernel
theorem dX9_rent_24 : decode cX9_rent 24 = .ok (.bipush 6, 2) := by decide +kernel
theorem dX9_rent_26 : decode cX9_rent 26 = .ok (.iload_n 1, 1) := by decide +kernel
theorem dX9_rent_27 : decode cX9_rent 27 = .ok (.iadd, 1) := by decide +kernel
theorem dX9_rent_28 : decode cX9_rent 28 = .ok (.iaload, 1) := by decide +kernel
theorem dX9_rent_29 : decode cX9_rent 29 = .ok (.ifCond .ne 9, 3) := by decide +kernel
theorem dX9_rent_32 : decode cX9_rent 32 = .ok (.aload_n 0, 1) := by decide +kernel
theorem dX9_rent_33 : decode cX9_rent 33 = .ok (.iconst 2, 1) := by decide +kernel
theorem dX9_rent_34 : decode cX9_rent 34 = .ok (.invokevirtual 222, 3) := by decide +kernel
theorem dX9_rent_37 : decode cX9_rent 37 = .ok (.ireturn, 1) := by decide +kernel
theorem dX9_rent_38 : decode cX9_rent 38 = .ok (.aload_n 0, 1) := by decide +kernel
theorem dX9_rent_39 : decode cX9_rent 39 = .ok (.invokevirtual 338, 3) := by decide +kernel
theorem dX9_rent_42 : decode cX9_rent 42 = .ok (.aload_n 0, 1) := by decide +kernel
theorem dX9_rent_43 : decode cX9_rent 43 = .ok (.iload_n 1, 1) := by decide +kernel
theorem dX9_rent_44 : decode cX9_rent 44 = .ok (.iload_n 2, 1) := by decide +kernel
theorem dX9_rent_45 : decode cX9_rent 45 = .ok (.invokevirtual 323, 3) := by decide +kernel
theorem dX9_rent_48 : decode cX9_rent 48 = .ok (.ireturn, 1) := by decide +kernel
theorem dX9_dispatch_0 : decode cX9_dispatch 0 = .ok (.aload_n 0, 1) := by decide +kernel
theorem dX9_dispatch_1 : decode cX9_dispatch 1 = .ok (.iconst 0, 1) := by decide +kernel
theorem dX9_dispatch_2 : decode cX9_dispatch 2 = .ok (.putfield 76, 3) := by decide +kernel
theorem dX9_dispatch_5 : decode cX9_dispatch 5 = .ok (.aload_n 0, 1) := by decide +kernel
theorem dX9_dispatch_6 : decode cX9_dispatch 6 = .ok (.iload_n 1, 1) := by decide +kernel
theorem dX9_dispatch_7 : decode cX9_dispatch 7 = .ok (.invokevirtual 280, 3) := by decide +kernel
theorem dX9_dispatch_10 : decode cX9_dispatch 10 = .ok (.ifCond .eq 11, 3) := by decide +kernel
theorem dX9_dispatch_13 : decode cX9_dispatch 13 = .ok (.aload_n 0, 1) := by decide +kernel
theorem dX9_dispatch_14 : decode cX9_dispatch 14 = .ok (.iload_n 2, 1) := by decide +kernel
theorem dX9_dispatch_15 : decode cX9_dispatch 15 = .ok (.invokevirtual 252, 3) := by decide +kernel
theorem dX9_dispatch_18 : decode cX9_dispatch 18 = .ok (.ifCond .ne 9, 3) := by decide +kernel
theorem dX9_dispatch_21 : decode cX9_dispatch 21 = .ok (.aload_n 0, 1) := by decide +kernel
theorem dX9_dispatch_22 : decode cX9_dispatch 22 = .ok (.iconst 1, 1) := by decide +kernel
theorem dX9_dispatch_23 : decode cX9_dispatch 23 = .ok (.invokevirtual 222, 3) := by decide +kernel
theorem dX9_dispatch_26 : decode cX9_dispatch 26 = .ok (.ireturn, 1) := by decide +kernel
theorem dX9_dispatch_27 : decode cX9_dispatch 27 = .ok (.iload_n 3, 1) := by decide +kernel
theorem dX9_dispatch_28 : decode cX9_dispatch 28 = .ok (.iconst 0, 1) := by decide +kernel
theorem dX9_dispatch_29 : decode cX9_dispatch 29 = .ok (.bipush 20, 2) := by decide +kernel
theorem dX9_dispatch_31 : decode cX9_dispatch 31 = .ok (.invokestatic 103, 3) := by decide +kernel
theorem dX9_dispatch_34 : decode cX9_dispatch 34 = .ok (.ifCond .ne 9, 3) := by decide +kernel
theorem dX9_dispatch_37 : decode cX9_dispatch 37 = .ok (.aload_n 0, 1) := by decide +kernel
theorem dX9_dispatch_38 : decode cX9_dispatch 38 = .ok (.iconst 2, 1) := by decide +kernel
theorem dX9_dispatch_39 : decode cX9_dispatch 39 = .ok (.invokevirtual 222, 3) := by decide +kernel
theorem dX9_dispatch_42 : decode cX9_dispatch 42 = .ok (.ireturn, 1) := by decide +kernel
theorem dX9_dispatch_43 : decode cX9_dispatch 43 = .ok (.aload_n 0, 1) := by decide +kernel
theorem dX9_dispatch_44 : decode cX9_dispatch 44 = .ok (.iload_n 1, 1) := by decide +kernel
theorem dX9_dispatch_45 : decode cX9_dispatch 45 = .ok (.iconst 5, 1) := by decide +kernel
theorem dX9_dispatch_46 : decode cX9_dispatch 46 = .ok (.invokevirtual 243, 3) := by decide +kernel
theorem dX9_dispatch_49 : decode cX9_dispatch 49 = .ok (.bipush 6, 2) := by decide +kernel
theorem dX9_dispatch_51 : decode cX9_dispatch 51 = .ok (.if_icmp .ne 9, 3) := by decide +kernel
theorem dX9_dispatch_54 : decode cX9_dispatch 54 = .ok (.aload_n 0, 1) := by decide +kernel
theorem dX9_dispatch_55 : decode cX9_dispatch 55 = .ok (.iconst 3, 1) := by decide +kernel
theorem dX9_dispatch_56 : decode cX9_dispatch 56 = .ok (.invokevirtual 222, 3) := by decide +kernel
theorem dX9_dispatch_59 : decode cX9_dispatch 59 = .ok (.ireturn, 1) := by decide +kernel
theorem dX9_dispatch_60 : decode cX9_dispatch 60 = .ok (.aload_n 0, 1) := by decide +kernel
theorem dX9_dispatch_61 : decode cX9_dispatch 61 = .ok (.invokevirtual 338, 3) := by decide +kernel
theorem dX9_dispatch_64 : decode cX9_dispatch 64 = .ok (.aload_n 0, 1) := by decide +kernel
theorem dX9_dispatch_65 : decode cX9_dispatch 65 = .ok (.iload_n 1, 1) := by decide +kernel
theorem dX9_dispatch_66 : decode cX9_dispatch 66 = .ok (.bipush 6, 2) := by decide +kernel
theorem dX9_dispatch_68 : decode cX9_dispatch 68 = .ok (.iconst 2, 1) := by decide +kernel
theorem dX9_dispatch_69 : decode cX9_dispatch 69 = .ok (.aload_n 0, 1) := by decide +kernel
theorem dX9_dispatch_70 : decode cX9_dispatch 70 = .ok (.iload_n 1, 1) := by decide +kernel
theorem dX9_dispatch_71 : decode cX9_dispatch 71 = .ok (.iconst 5, 1) := by decide +kernel
theorem dX9_dispatch_72 : decode cX9_dispatch 72 = .ok (.invokevirtual 243, 3) := by decide +kernel
theorem dX9_dispatch_75 : decode cX9_dispatch 75 = .ok (.imul, 1) := by decide +kernel
theorem dX9_dispatch_76 : decode cX9_dispatch 76 = .ok (.iadd, 1) := by decide +kernel
theorem dX9_dispatch_77 : decode cX9_dispatch 77 = .ok (.iload_n 2, 1) := by decide +kernel
theorem dX9_dispatch_78 : decode cX9_dispatch 78 = .ok (.invokevirtual 132, 3) := by decide +kernel
theorem dX9_dispatch_81 : decode cX9_dispatch 81 = .ok (.aload_n 0, 1) := by decide +kernel
theorem dX9_dispatch_82 : decode cX9_dispatch 82 = .ok (.iload_n 1, 1) := by decide +kernel
theorem dX9_dispatch_83 : decode cX9_dispatch 83 = .ok (.bipush 6, 2) := by decide +kernel
theorem dX9_dispatch_85 : decode cX9_dispatch 85 = .ok (.iconst 2, 1) := by decide +kernel
theorem dX9_dispatch_86 : decode cX9_dispatch 86 = .ok (.aload_n 0, 1) := by decide +kernel
theorem dX9_dispatch_87 : decode cX9_dispatch 87 = .ok (.iload_n 1, 1) := by decide +kernel
theorem dX9_dispatch_88 : decode cX9_dispatch 88 = .ok (.iconst 5, 1) := by decide +kernel
theorem dX9_dispatch_89 : decode cX9_dispatch 89 = .ok (.invokevirtual 243, 3) := by decide +kernel
theorem dX9_dispatch_92 : decode cX9_dispatch 92 = .ok (.imul, 1) := by decide +kernel
theorem dX9_dispatch_93 : decode cX9_dispatch 93 = .ok (.iadd, 1) := by decide +kernel
theorem dX9_dispatch_94 : decode cX9_dispatch 94 = .ok (.iconst 1, 1) := by decide +kernel
theorem dX9_dispatch_95 : decode cX9_dispatch 95 = .ok (.iadd, 1) := by decide +kernel
theorem dX9_dispatch_96 : decode cX9_dispatch 96 = .ok (.iload_n 3, 1) := by decide +kernel
theorem dX9_dispatch_97 : decode cX9_dispatch 97 = .ok (.invokevirtual 132, 3) := by decide +kernel
theorem dX9_dispatch_100 : decode cX9_dispatch 100 = .ok (.aload_n 0, 1) := by decide +kernel
theorem dX9_dispatch_101 : decode cX9_dispatch 101 = .ok (.iload_n 1, 1) := by decide +kernel
theorem dX9_dispatch_102 : decode cX9_dispatch 102 = .ok (.iconst 5, 1) := by decide +kernel
theorem dX9_dispatch_103 : decode cX9_dispatch 103 = .ok (.aload_n 0, 1) := by decide +kernel
theorem dX9_dispatch_104 : decode cX9_dispatch 104 = .ok (.iload_n 1, 1) := by decide +kernel
theorem dX9_dispatch_105 : decode cX9_dispatch 105 = .ok (.iconst 5, 1) := by decide +kernel
theorem dX9_dispatch_106 : decode cX9_dispatch 106 = .ok (.invokevirtual 243, 3) := by decide +kernel
theorem dX9_dispatch_109 : decode cX9_dispatch 109 = .ok (.iconst 1, 1) := by decide +kernel
theorem dX9_dispatch_110 : decode cX9_dispatch 110 = .ok (.iadd, 1) := by decide +kernel
theorem dX9_dispatch_111 : decode cX9_dispatch 111 = .ok (.invokevirtual 132, 3) := by decide +kernel
theorem dX9_dispatch_114 : decode cX9_dispatch 114 = .ok (.aload_n 0, 1) := by decide +kernel
theorem dX9_dispatch_115 : decode cX9_dispatch 115 = .ok (.iload_n 1, 1) := by decide +kernel
theorem dX9_dispatch_116 : decode cX9_dispatch 116 = .ok (.invokevirtual 292, 3) := by decide +kernel
theorem dX9_dispatch_119 : decode cX9_dispatch 119 = .ok (.aload_n 0, 1) := by decide +kernel
theorem dX9_dispatch_120 : decode cX9_dispatch 120 = .ok (.iload_n 1, 1) := by decide +kernel
theorem dX9_dispatch_121 : decode cX9_dispatch 121 = .ok (.iconst 5, 1) := by decide +kernel
theorem dX9_dispatch_122 : decode cX9_dispatch 122 = .ok (.invokevirtual 243, 3) := by decide +kernel
theorem dX9_dispatch_125 : decode cX9_dispatch 125 = .ok (.ireturn, 1) := by decide +kernel
theorem dX9_cancel_0 : decode cX9_cancel 0 = .ok (.aload_n 0, 1) := by decide +kernel
theorem dX9_cancel_1 : decode cX9_cancel 1 = .ok (.iconst 0, 1) := by decide +kernel
theorem dX9_cancel_2 : decode cX9_cancel 2 = .ok (.putfield 76, 3) := by decide +kernel
theorem dX9_cancel_5 : decode cX9_cancel 5 = .ok (.aload_n 0, 1) := by decide +kernel
theorem dX9_cancel_6 : decode cX9_cancel 6 = .ok (.iload_n 1, 1) := by decide +kernel
theorem dX9_cancel_7 : decode cX9_cancel 7 = .ok (.invokevirtual 280, 3) := by decide +kernel
theorem dX9_cancel_10 : decode cX9_cancel 10 = .ok (.ifCond .ne 9, 3) := by decide +kernel
theorem dX9_cancel_13 : decode cX9_cancel 13 = .ok (.aload_n 0, 1) := by decide +kernel
theorem dX9_cancel_14 : decode cX9_cancel 14 = .ok (.iconst 1, 1) := by decide +kernel
theorem dX9_cancel_15 : decode cX9_cancel 15 = .ok (.invokevirtual 222, 3) := by decide +kernel
theorem dX9_cancel_18 : decode cX9_cancel 18 = .ok (.ireturn, 1) := by decide +kernel
theorem dX9_cancel_19 : decode cX9_cancel 19 = .ok (.aload_n 0, 1) := by decide +kernel
theorem dX9_cancel_20 : decode cX9_cancel 20 = .ok (.invokevirtual 338, 3) := by decide +kernel
theorem dX9_cancel_23 : decode cX9_cancel 23 = .ok (.aload_n 0, 1) := by decide +kernel
theorem dX9_cancel_24 : decode cX9_cancel 24 = .ok (.iload_n 1, 1) := by decide +kernel
theorem dX9_cancel_25 : decode cX9_cancel 25 = .ok (.iconst 5, 1) := by decide +kernel
theorem dX9_cancel_26 : decode cX9_cancel 26 = .ok (.invokevirtual 243, 3) := by decide +kernel
theorem dX9_cancel_29 : decode cX9_cancel 29 = .ok (.istore_n 2, 1) := by decide +kernel
theorem dX9_cancel_30 : decode cX9_cancel 30 = .ok (.aload_n 0, 1) := by decide +kernel
theorem dX9_cancel_31 : decode cX9_cancel 31 = .ok (.iload_n 1, 1) := by decide +kernel
theorem dX9_cancel_32 : decode cX9_cancel 32 = .ok (.iconst 5, 1) := by decide +kernel
theorem dX9_cancel_33 : decode cX9_cancel 33 = .ok (.iconst 0, 1) := by decide +kernel
theorem dX9_cancel_34 : decode cX9_cancel 34 = .ok (.invokevirtual 132, 3) := by decide +kernel
theorem dX9_cancel_37 : decode cX9_cancel 37 = .ok (.iload_n 2, 1) := by decide +kernel
theorem dX9_cancel_38 : decode cX9_cancel 38 = .ok (.ireturn, 1) := by decide +kernel
theorem dX9_breakDock_0 : decode cX9_breakDock 0 = .ok (.aload_n 0, 1) := by decide +kernel
theorem dX9_breakDock_1 : decode cX9_breakDock 1 = .ok (.iconst 0, 1) := by decide +kernel
theorem dX9_breakDock_2 : decode cX9_breakDock 2 = .ok (.putfield 76, 3) := by decide +kernel
theorem dX9_breakDock_5 : decode cX9_breakDock 5 = .ok (.aload_n 0, 1) := by decide +kernel
theorem dX9_breakDock_6 : decode cX9_breakDock 6 = .ok (.iload_n 1, 1) := by decide +kernel
theorem dX9_breakDock_7 : decode cX9_breakDock 7 = .ok (.invokevirtual 252, 3) := by decide +kernel
theorem dX9_breakDock_10 : decode cX9_breakDock 10 = .ok (.ifCond .ne 9, 3) := by decide +kernel
theorem dX9_breakDock_13 : decode cX9_breakDock 13 = .ok (.aload_n 0, 1) := by decide +kernel
theorem dX9_breakDock_14 : decode cX9_breakDock 14 = .ok (.iconst 1, 1) := by decide +kernel
theorem dX9_breakDock_15 : decode cX9_breakDock 15 = .ok (.invokevirtual 222, 3) := by decide +kernel
theorem dX9_breakDock_18 : decode cX9_breakDock 18 = .ok (.ireturn, 1) := by decide +kernel
theorem dX9_breakDock_19 : decode cX9_breakDock 19 = .ok (.aload_n 0, 1) := by decide +kernel
theorem dX9_breakDock_20 : decode cX9_breakDock 20 = .ok (.iload_n 1, 1) := by decide +kernel
theorem dX9_breakDock_21 : decode cX9_breakDock 21 = .ok (.invokevirtual 215, 3) := by decide +kernel
theorem dX9_breakDock_24 : decode cX9_breakDock 24 = .ok (.ifCond .ne 9, 3) := by decide +kernel
theorem dX9_breakDock_27 : decode cX9_breakDock 27 = .ok (.aload_n 0, 1) := by decide +kernel
theorem dX9_breakDock_28 : decode cX9_breakDock 28 = .ok (.iconst 2, 1) := by decide +kernel
theorem dX9_breakDock_29 : decode cX9_breakDock 29 = .ok (.invokevirtual 222, 3) := by decide +kernel
theorem dX9_breakDock_32 : decode cX9_breakDock 32 = .ok (.ireturn, 1) := by decide +kernel
theorem dX9_breakDock_33 : decode cX9_breakDock 33 = .ok (.aload_n 0, 1) := by decide +kernel
theorem dX9_breakDock_34 : decode cX9_breakDock 34 = .ok (.invokevirtual 338, 3) := by decide +kernel
theorem dX9_breakDock_37 : decode cX9_breakDock 37 = .ok (.aload_n 0, 1) := by decide +kernel
theorem dX9_breakDock_38 : decode cX9_breakDock 38 = .ok (.getfield 32, 3) := by decide +kernel
theorem dX9_breakDock_41 : decode cX9_breakDock 41 = .ok (.bipush 14, 2) := by decide +kernel
theorem dX9_breakDock_43 : decode cX9_breakDock 43 = .ok (.iload_n 1, 1) := by decide +kernel
theorem dX9_breakDock_44 : decode cX9_breakDock 44 = .ok (.iadd, 1) := by decide +kernel
theorem dX9_breakDock_45 : decode cX9_breakDock 45 = .ok (.dup2, 1) := by decide +kernel
theorem dX9_breakDock_46 : decode cX9_breakDock 46 = .ok (.iaload, 1) := by decide +kernel
theorem dX9_breakDock_47 : decode cX9_breakDock 47 = .ok (.iconst 1, 1) := by decide +kernel
theorem dX9_breakDock_48 : decode cX9_breakDock 48 = .ok (.iadd, 1) := by decide +kernel
theorem dX9_breakDock_49 : decode cX9_breakDock 49 = .ok (.iastore, 1) := by decide +kernel
theorem dX9_breakDock_50 : decode cX9_breakDock 50 = .ok (.aload_n 0, 1) := by decide +kernel
theorem dX9_breakDock_51 : decode cX9_breakDock 51 = .ok (.getfield 32, 3) := by decide +kernel
theorem dX9_breakDock_54 : decode cX9_breakDock 54 = .ok (.bipush 14, 2) := by decide +kernel
theorem dX9_breakDock_56 : decode cX9_breakDock 56 = .ok (.iload_n 1, 1) := by decide +kernel
theorem dX9_breakDock_57 : decode cX9_breakDock 57 = .ok (.iadd, 1) := by decide +kernel
theorem dX9_breakDock_58 : decode cX9_breakDock 58 = .ok (.iaload, 1) := by decide +kernel
theorem dX9_breakDock_59 : decode cX9_breakDock 59 = .ok (.ireturn, 1) := by decide +kernel
theorem dX9_repairDock_0 : decode cX9_repairDock 0 = .ok (.aload_n 0, 1) := by decide +kernel
theorem dX9_repairDock_1 : decode cX9_repairDock 1 = .ok (.iconst 0, 1) := by decide +kernel
theorem dX9_repairDock_2 : decode cX9_repairDock 2 = .ok (.putfield 76, 3) := by decide +kernel
theorem dX9_repairDock_5 : decode cX9_repairDock 5 = .ok (.aload_n 0, 1) := by decide +kernel
theorem dX9_repairDock_6 : decode cX9_repairDock 6 = .ok (.iload_n 1, 1) := by decide +kernel
theorem dX9_repairDock_7 : decode cX9_repairDock 7 = .ok (.invokevirtual 252, 3) := by decide +kernel
theorem dX9_repairDock_10 : decode cX9_repairDock 10 = .ok (.ifCond .ne 9, 3) := by decide +kernel
theorem dX9_repairDock_13 : decode cX9_repairDock 13 = .ok (.aload_n 0, 1) := by decide +kernel
theorem dX9_repairDock_14 : decode cX9_repairDock 14 = .ok (.iconst 1, 1) := by decide +kernel
theorem dX9_repairDock_15 : decode cX9_repairDock 15 = .ok (.invokevirtual 222, 3) := by decide +kernel
theorem dX9_repairDock_18 : decode cX9_repairDock 18 = .ok (.ireturn, 1) := by decide +kernel
theorem dX9_repairDock_19 : decode cX9_repairDock 19 = .ok (.aload_n 0, 1) := by decide +kernel
theorem dX9_repairDock_20 : decode cX9_repairDock 20 = .ok (.getfield 32, 3) := by decide +kernel
theorem dX9_repairDock_23 : decode cX9_repairDock 23 = .ok (.bipush 14, 2) := by decide +kernel
theorem dX9_repairDock_25 : decode cX9_repairDock 25 = .ok (.iload_n 1, 1) := by decide +kernel
theorem dX9_repairDock_26 : decode cX9_repairDock 26 = .ok (.iadd, 1) := by decide +kernel
theorem dX9_repairDock_27 : decode cX9_repairDock 27 = .ok (.iaload, 1) := by decide +kernel
theorem dX9_repairDock_28 : decode cX9_repairDock 28 = .ok (.ifCond .ne 9, 3) := by decide +kernel
theorem dX9_repairDock_31 : decode cX9_repairDock 31 = .ok (.aload_n 0, 1) := by decide +kernel
theorem dX9_repairDock_32 : decode cX9_repairDock 32 = .ok (.iconst 2, 1) := by decide +kernel
theorem dX9_repairDock_33 : decode cX9_repairDock 33 = .ok (.invokevirtual 222, 3) := by decide +kernel
theorem dX9_repairDock_36 : decode cX9_repairDock 36 = .ok (.ireturn, 1) := by decide +kernel
theorem dX9_repairDock_37 : decode cX9_repairDock 37 = .ok (.aload_n 0, 1) := by decide +kernel
theorem dX9_repairDock_38 : decode cX9_repairDock 38 = .ok (.invokevirtual 338, 3) := by decide +kernel
theorem dX9_repairDock_41 : decode cX9_repairDock 41 = .ok (.aload_n 0, 1) := by decide +kernel
theorem dX9_repairDock_42 : decode cX9_repairDock 42 = .ok (.getfield 32, 3) := by decide +kernel
theorem dX9_repairDock_45 : decode cX9_repairDock 45 = .ok (.bipush 14, 2) := by decide +kernel
theorem dX9_repairDock_47 : decode cX9_repairDock 47 = .ok (.iload_n 1, 1) := by decide +kernel
theorem dX9_repairDock_48 : decode cX9_repairDock 48 = .ok (.iadd, 1) := by decide +kernel
theorem dX9_repairDock_49 : decode cX9_repairDock 49 = .ok (.dup2, 1) := by decide +kernel
theorem dX9_repairDock_50 : decode cX9_repairDock 50 = .ok (.iaload, 1) := by decide +kernel
theorem dX9_repairDock_51 : decode cX9_repairDock 51 = .ok (.iconst 1, 1) := by decide +kernel
theorem dX9_repairDock_52 : decode cX9_repairDock 52 = .ok (.isub, 1) := by decide +kernel
theorem dX9_repairDock_53 : decode cX9_repairDock 53 = .ok (.iastore, 1) := by decide +kernel
theorem dX9_repairDock_54 : decode cX9_repairDock 54 = .ok (.aload_n 0, 1) := by decide +kernel
theorem dX9_repairDock_55 : decode cX9_repairDock 55 = .ok (.getfield 32, 3) := by decide +kernel
theorem dX9_repairDock_58 : decode cX9_repairDock 58 = .ok (.bipush 14, 2) := by decide +kernel
theorem dX9_repairDock_60 : decode cX9_repairDock 60 = .ok (.iload_n 1, 1) := by decide +kernel
theorem dX9_repairDock_61 : decode cX9_repairDock 61 = .ok (.iadd, 1) := by decide +kernel
theorem dX9_repairDock_62 : decode cX9_repairDock 62 = .ok (.iaload, 1) := by decide +kernel
theorem dX9_repairDock_63 : decode cX9_repairDock 63 = .ok (.ireturn, 1) := by decide +kernel
theorem dX9_addBikes_0 : decode cX9_addBikes 0 = .ok (.aload_n 0, 1) := by decide +kernel
theorem dX9_addBikes_1 : decode cX9_addBikes 1 = .ok (.iconst 0, 1) := by decide +kernel
theorem dX9_addBikes_2 : decode cX9_addBikes 2 = .ok (.putfield 76, 3) := by decide +kernel
theorem dX9_addBikes_5 : decode cX9_addBikes 5 = .ok (.aload_n 0, 1) := by decide +kernel
theorem dX9_addBikes_6 : decode cX9_addBikes 6 = .ok (.iload_n 1, 1) := by decide +kernel
theorem dX9_addBikes_7 : decode cX9_addBikes 7 = .ok (.invokevirtual 252, 3) := by decide +kernel
theorem dX9_addBikes_10 : decode cX9_addBikes 10 = .ok (.ifCond .ne 9, 3) := by decide +kernel
theorem dX9_addBikes_13 : decode cX9_addBikes 13 = .ok (.aload_n 0, 1) := by decide +kernel
theorem dX9_addBikes_14 : decode cX9_addBikes 14 = .ok (.iconst 1, 1) := by decide +kernel
theorem dX9_addBikes_15 : decode cX9_addBikes 15 = .ok (.invokevirtual 222, 3) := by decide +kernel
theorem dX9_addBikes_18 : decode cX9_addBikes 18 = .ok (.ireturn, 1) := by decide +kernel
theorem dX9_addBikes_19 : decode cX9_addBikes 19 = .ok (.iload_n 2, 1) := by decide +kernel
theorem dX9_addBikes_20 : decode cX9_addBikes 20 = .ok (.iconst 1, 1) := by decide +kernel
theorem dX9_addBikes_21 : decode cX9_addBikes 21 = .ok (.bipush 20, 2) := by decide +kernel
theorem dX9_addBikes_23 : decode cX9_addBikes 23 = .ok (.invokestatic 103, 3) := by decide +kernel
theorem dX9_addBikes_26 : decode cX9_addBikes 26 = .ok (.ifCond .ne 9, 3) := by decide +kernel
theorem dX9_addBikes_29 : decode cX9_addBikes 29 = .ok (.aload_n 0, 1) := by decide +kernel
theorem dX9_addBikes_30 : decode cX9_addBikes 30 = .ok (.iconst 2, 1) := by decide +kernel
theorem dX9_addBikes_31 : decode cX9_addBikes 31 = .ok (.invokevirtual 222, 3) := by decide +kernel
theorem dX9_addBikes_34 : decode cX9_addBikes 34 = .ok (.ireturn, 1) := by decide +kernel
theorem dX9_addBikes_35 : decode cX9_addBikes 35 = .ok (.aload_n 0, 1) := by decide +kernel
theorem dX9_addBikes_36 : decode cX9_addBikes 36 = .ok (.iload_n 1, 1) := by decide +kernel
theorem dX9_addBikes_37 : decode cX9_addBikes 37 = .ok (.invokevirtual 215, 3) := by decide +kernel
theorem dX9_addBikes_40 : decode cX9_addBikes 40 = .ok (.iload_n 2, 1) := by decide +kernel
theorem dX9_addBikes_41 : decode cX9_addBikes 41 = .ok (.if_icmp .ge 9, 3) := by decide +kernel
theorem dX9_addBikes_44 : decode cX9_addBikes 44 = .ok (.aload_n 0, 1) := by decide +kernel
theorem dX9_addBikes_45 : decode cX9_addBikes 45 = .ok (.iconst 3, 1) := by decide +kernel
theorem dX9_addBikes_46 : decode cX9_addBikes 46 = .ok (.invokevirtual 222, 3) := by decide +kernel
theorem dX9_addBikes_49 : decode cX9_addBikes 49 = .ok (.ireturn, 1) := by decide +kernel
theorem dX9_addBikes_50 : decode cX9_addBikes 50 = .ok (.aload_n 0, 1) := by decide +kernel
theorem dX9_addBikes_51 : decode cX9_addBikes 51 = .ok (.invokevirtual 338, 3) := by decide +kernel
theorem dX9_addBikes_54 : decode cX9_addBikes 54 = .ok (.aload_n 0, 1) := by decide +kernel
theorem dX9_addBikes_55 : decode cX9_addBikes 55 = .ok (.getfield 32, 3) := by decide +kernel
theorem dX9_addBikes_58 : decode cX9_addBikes 58 = .ok (.bipush 6, 2) := by decide +kernel
theorem dX9_addBikes_60 : decode cX9_addBikes 60 = .ok (.iload_n 1, 1) := by decide +kernel
theorem dX9_addBikes_61 : decode cX9_addBikes 61 = .ok (.iadd, 1) := by decide +kernel
theorem dX9_addBikes_62 : decode cX9_addBikes 62 = .ok (.dup2, 1) := by decide +kernel
theorem dX9_addBikes_63 : decode cX9_addBikes 63 = .ok (.iaload, 1) := by decide +kernel
theorem dX9_addBikes_64 : decode cX9_addBikes 64 = .ok (.iload_n 2, 1) := by decide +kernel
theorem dX9_addBikes_65 : decode cX9_addBikes 65 = .ok (.iadd, 1) := by decide +kernel
theorem dX9_addBikes_66 : decode cX9_addBikes 66 = .ok (.iastore, 1) := by decide +kernel
theorem dX9_addBikes_67 : decode cX9_addBikes 67 = .ok (.aload_n 0, 1) := by decide +kernel
theorem dX9_addBikes_68 : decode cX9_addBikes 68 = .ok (.invokevirtual 249, 3) := by decide +kernel
theorem dX9_addBikes_71 : decode cX9_addBikes 71 = .ok (.ireturn, 1) := by decide +kernel
theorem dX9_removeBikes_0 : decode cX9_removeBikes 0 = .ok (.aload_n 0, 1) := by decide +kernel
theorem dX9_removeBikes_1 : decode cX9_removeBikes 1 = .ok (.iconst 0, 1) := by decide +kernel
theorem dX9_removeBikes_2 : decode cX9_removeBikes 2 = .ok (.putfield 76, 3) := by decide +kernel
theorem dX9_removeBikes_5 : decode cX9_removeBikes 5 = .ok (.aload_n 0, 1) := by decide +kernel
theorem dX9_removeBikes_6 : decode cX9_removeBikes 6 = .ok (.iload_n 1, 1) := by decide +kernel
theorem dX9_removeBikes_7 : decode cX9_removeBikes 7 = .ok (.invokevirtual 252, 3) := by decide +kernel
theorem dX9_removeBikes_10 : decode cX9_removeBikes 10 = .ok (.ifCond .ne 9, 3) := by decide +kernel
theorem dX9_removeBikes_13 : decode cX9_removeBikes 13 = .ok (.aload_n 0, 1) := by decide +kernel
theorem dX9_removeBikes_14 : decode cX9_removeBikes 14 = .ok (.iconst 1, 1) := by decide +kernel
theorem dX9_removeBikes_15 : decode cX9_removeBikes 15 = .ok (.invokevirtual 222, 3) := by decide +kernel
theorem dX9_removeBikes_18 : decode cX9_removeBikes 18 = .ok (.ireturn, 1) := by decide +kernel
theorem dX9_removeBikes_19 : decode cX9_removeBikes 19 = .ok (.iload_n 2, 1) := by decide +kernel
theorem dX9_removeBikes_20 : decode cX9_removeBikes 20 = .ok (.iconst 1, 1) := by decide +kernel
theorem dX9_removeBikes_21 : decode cX9_removeBikes 21 = .ok (.bipush 20, 2) := by decide +kernel
theorem dX9_removeBikes_23 : decode cX9_removeBikes 23 = .ok (.invokestatic 103, 3) := by decide +kernel
theorem dX9_removeBikes_26 : decode cX9_removeBikes 26 = .ok (.ifCond .ne 9, 3) := by decide +kernel
theorem dX9_removeBikes_29 : decode cX9_removeBikes 29 = .ok (.aload_n 0, 1) := by decide +kernel
theorem dX9_removeBikes_30 : decode cX9_removeBikes 30 = .ok (.iconst 2, 1) := by decide +kernel
theorem dX9_removeBikes_31 : decode cX9_removeBikes 31 = .ok (.invokevirtual 222, 3) := by decide +kernel
theorem dX9_removeBikes_34 : decode cX9_removeBikes 34 = .ok (.ireturn, 1) := by decide +kernel
theorem dX9_removeBikes_35 : decode cX9_removeBikes 35 = .ok (.aload_n 0, 1) := by decide +kernel
theorem dX9_removeBikes_36 : decode cX9_removeBikes 36 = .ok (.getfield 32, 3) := by decide +kernel
theorem dX9_removeBikes_39 : decode cX9_removeBikes 39 = .ok (.bipush 6, 2) := by decide +kernel
theorem dX9_removeBikes_41 : decode cX9_removeBikes 41 = .ok (.iload_n 1, 1) := by decide +kernel
theorem dX9_removeBikes_42 : decode cX9_removeBikes 42 = .ok (.iadd, 1) := by decide +kernel
theorem dX9_removeBikes_43 : decode cX9_removeBikes 43 = .ok (.iaload, 1) := by decide +kernel
theorem dX9_removeBikes_44 : decode cX9_removeBikes 44 = .ok (.iload_n 2, 1) := by decide +kernel
theorem dX9_removeBikes_45 : decode cX9_removeBikes 45 = .ok (.if_icmp .ge 9, 3) := by decide +kernel
theorem dX9_removeBikes_48 : decode cX9_removeBikes 48 = .ok (.aload_n 0, 1) := by decide +kernel
theorem dX9_removeBikes_49 : decode cX9_removeBikes 49 = .ok (.iconst 3, 1) := by decide +kernel
theorem dX9_removeBikes_50 : decode cX9_removeBikes 50 = .ok (.invokevirtual 222, 3) := by decide +kernel
theorem dX9_removeBikes_53 : decode cX9_removeBikes 53 = .ok (.ireturn, 1) := by decide +kernel
theorem dX9_removeBikes_54 : decode cX9_removeBikes 54 = .ok (.aload_n 0, 1) := by decide +kernel
theorem dX9_removeBikes_55 : decode cX9_removeBikes 55 = .ok (.invokevirtual 338, 3) := by decide +kernel
theorem dX9_removeBikes_58 : decode cX9_removeBikes 58 = .ok (.aload_n 0, 1) := by decide +kernel
theorem dX9_removeBikes_59 : decode cX9_removeBikes 59 = .ok (.getfield 32, 3) := by decide +kernel
theorem dX9_removeBikes_62 : decode cX9_removeBikes 62 = .ok (.bipush 6, 2) := by decide +kernel
theorem dX9_removeBikes_64 : decode cX9_removeBikes 64 = .ok (.iload_n 1, 1) := by decide +kernel
theorem dX9_removeBikes_65 : decode cX9_removeBikes 65 = .ok (.iadd, 1) := by decide +kernel
theorem dX9_removeBikes_66 : decode cX9_removeBikes 66 = .ok (.dup2, 1) := by decide +kernel
theorem dX9_removeBikes_67 : decode cX9_removeBikes 67 = .ok (.iaload, 1) := by decide +kernel
theorem dX9_removeBikes_68 : decode cX9_removeBikes 68 = .ok (.iload_n 2, 1) := by decide +kernel
theorem dX9_removeBikes_69 : decode cX9_removeBikes 69 = .ok (.isub, 1) := by decide +kernel
theorem dX9_removeBikes_70 : decode cX9_removeBikes 70 = .ok (.iastore, 1) := by decide +kernel
theorem dX9_removeBikes_71 : decode cX9_removeBikes 71 = .ok (.aload_n 0, 1) := by decide +kernel
theorem dX9_removeBikes_72 : decode cX9_removeBikes 72 = .ok (.invokevirtual 249, 3) := by decide +kernel
theorem dX9_removeBikes_75 : decode cX9_removeBikes 75 = .ok (.ireturn, 1) := by decide +kernel
theorem dX9_undo_0 : decode cX9_undo 0 = .ok (.aload_n 0, 1) := by decide +kernel
theorem dX9_undo_1 : decode cX9_undo 1 = .ok (.iconst 0, 1) := by decide +kernel
theorem dX9_undo_2 : decode cX9_undo 2 = .ok (.putfield 76, 3) := by decide +kernel
theorem dX9_undo_5 : decode cX9_undo 5 = .ok (.aload_n 0, 1) := by decide +kernel
theorem dX9_undo_6 : decode cX9_undo 6 = .ok (.getfield 136, 3) := by decide +kernel
theorem dX9_undo_9 : decode cX9_undo 9 = .ok (.ifCond .ne 5, 3) := by decide +kernel
theorem dX9_undo_12 : decode cX9_undo 12 = .ok (.iconst (-1), 1) := by decide +kernel
theorem dX9_undo_13 : decode cX9_undo 13 = .ok (.ireturn, 1) := by decide +kernel
theorem dX9_undo_14 : decode cX9_undo 14 = .ok (.aload_n 0, 1) := by decide +kernel
theorem dX9_undo_15 : decode cX9_undo 15 = .ok (.dup, 1) := by decide +kernel
theorem dX9_undo_16 : decode cX9_undo 16 = .ok (.getfield 136, 3) := by decide +kernel
theorem dX9_undo_19 : decode cX9_undo 19 = .ok (.iconst 1, 1) := by decide +kernel
theorem dX9_undo_20 : decode cX9_undo 20 = .ok (.isub, 1) := by decide +kernel
theorem dX9_undo_21 : decode cX9_undo 21 = .ok (.putfield 136, 3) := by decide +kernel
theorem dX9_undo_24 : decode cX9_undo 24 = .ok (.iconst 0, 1) := by decide +kernel
theorem dX9_undo_25 : decode cX9_undo 25 = .ok (.istore_n 1, 1) := by decide +kernel
theorem dX9_undo_26 : decode cX9_undo 26 = .ok (.iload_n 1, 1) := by decide +kernel
theorem dX9_undo_27 : decode cX9_undo 27 = .ok (.sipush 3277, 3) := by decide +kernel
theorem dX9_undo_30 : decode cX9_undo 30 = .ok (.if_icmp .ge 30, 3) := by decide +kernel
theorem dX9_undo_33 : decode cX9_undo 33 = .ok (.aload_n 0, 1) := by decide +kernel
theorem dX9_undo_34 : decode cX9_undo 34 = .ok (.getfield 32, 3) := by decide +kernel
theorem dX9_undo_37 : decode cX9_undo 37 = .ok (.iload_n 1, 1) := by decide +kernel
theorem dX9_undo_38 : decode cX9_undo 38 = .ok (.aload_n 0, 1) := by decide +kernel
theorem dX9_undo_39 : decode cX9_undo 39 = .ok (.getfield 36, 3) := by decide +kernel
theorem dX9_undo_42 : decode cX9_undo 42 = .ok (.sipush 3277, 3) := by decide +kernel
theorem dX9_undo_45 : decode cX9_undo 45 = .ok (.aload_n 0, 1) := by decide +kernel
theorem dX9_undo_46 : decode cX9_undo 46 = .ok (.getfield 136, 3) := by decide +kernel
theorem dX9_undo_49 : decode cX9_undo 49 = .ok (.imul, 1) := by decide +kernel
theorem dX9_undo_50 : decode cX9_undo 50 = .ok (.iload_n 1, 1) := by decide +kernel
theorem dX9_undo_51 : decode cX9_undo 51 = .ok (.iadd, 1) := by decide +kernel
theorem dX9_undo_52 : decode cX9_undo 52 = .ok (.iaload, 1) := by decide +kernel
theorem dX9_undo_53 : decode cX9_undo 53 = .ok (.iastore, 1) := by decide +kernel
theorem dX9_undo_54 : decode cX9_undo 54 = .ok (.iinc 1 1, 3) := by decide +kernel
theorem dX9_undo_57 : decode cX9_undo 57 = .ok (.goto (-31), 3) := by decide +kernel
theorem dX9_undo_60 : decode cX9_undo 60 = .ok (.aload_n 0, 1) := by decide +kernel
theorem dX9_undo_61 : decode cX9_undo 61 = .ok (.getfield 136, 3) := by decide +kernel
theorem dX9_undo_64 : decode cX9_undo 64 = .ok (.ireturn, 1) := by decide +kernel
theorem dX9_saveSnapshot_0 : decode cX9_saveSnapshot 0 = .ok (.aload_n 0, 1) := by decide +kernel
theorem dX9_saveSnapshot_1 : decode cX9_saveSnapshot 1 = .ok (.iconst 0, 1) := by decide +kernel
theorem dX9_saveSnapshot_2 : decode cX9_saveSnapshot 2 = .ok (.putfield 76, 3) := by decide +kernel
theorem dX9_saveSnapshot_5 : decode cX9_saveSnapshot 5 = .ok (.iload_n 1, 1) := by decide +kernel
theorem dX9_saveSnapshot_6 : decode cX9_saveSnapshot 6 = .ok (.iconst 0, 1) := by decide +kernel
theorem dX9_saveSnapshot_7 : decode cX9_saveSnapshot 7 = .ok (.iconst 1, 1) := by decide +kernel
theorem dX9_saveSnapshot_8 : decode cX9_saveSnapshot 8 = .ok (.invokestatic 103, 3) := by decide +kernel
theorem dX9_saveSnapshot_11 : decode cX9_saveSnapshot 11 = .ok (.ifCond .ne 5, 3) := by decide +kernel
theorem dX9_saveSnapshot_14 : decode cX9_saveSnapshot 14 = .ok (.iconst 0, 1) := by decide +kernel
theorem dX9_saveSnapshot_15 : decode cX9_saveSnapshot 15 = .ok (.ireturn, 1) := by decide +kernel
theorem dX9_saveSnapshot_16 : decode cX9_saveSnapshot 16 = .ok (.iconst 0, 1) := by decide +kernel
theorem dX9_saveSnapshot_17 : decode cX9_saveSnapshot 17 = .ok (.istore_n 2, 1) := by decide +kernel
theorem dX9_saveSnapshot_18 : decode cX9_saveSnapshot 18 = .ok (.iload_n 2, 1) := by decide +kernel
theorem dX9_saveSnapshot_19 : decode cX9_saveSnapshot 19 = .ok (.sipush 3277, 3) := by decide +kernel
theorem dX9_saveSnapshot_22 : decode cX9_saveSnapshot 22 = .ok (.if_icmp .ge 27, 3) := by decide +kernel
theorem dX9_saveSnapshot_25 : decode cX9_saveSnapshot 25 = .ok (.aload_n 0, 1) := by decide +kernel
theorem dX9_saveSnapshot_26 : decode cX9_saveSnapshot 26 = .ok (.getfield 39, 3) := by decide +kernel
theorem dX9_saveSnapshot_29 : decode cX9_saveSnapshot 29 = .ok (.sipush 3277, 3) := by decide +kernel
theorem dX9_saveSnapshot_32 : decode cX9_saveSnapshot 32 = .ok (.iload_n 1, 1) := by decide +kernel
theorem dX9_saveSnapshot_33 : decode cX9_saveSnapshot 33 = .ok (.imul, 1) := by decide +kernel
theorem dX9_saveSnapshot_34 : decode cX9_saveSnapshot 34 = .ok (.iload_n 2, 1) := by decide +kernel
theorem dX9_saveSnapshot_35 : decode cX9_saveSnapshot 35 = .ok (.iadd, 1) := by decide +kernel
theorem dX9_saveSnapshot_36 : decode cX9_saveSnapshot 36 = .ok (.aload_n 0, 1) := by decide +kernel
theorem dX9_saveSnapshot_37 : decode cX9_saveSnapshot 37 = .ok (.getfield 32, 3) := by decide +kernel
theorem dX9_saveSnapshot_40 : decode cX9_saveSnapshot 40 = .ok (.iload_n 2, 1) := by decide +kernel
theorem dX9_saveSnapshot_41 : decode cX9_saveSnapshot 41 = .ok (.iaload, 1) := by decide +kernel
theorem dX9_saveSnapshot_42 : decode cX9_saveSnapshot 42 = .ok (.iastore, 1) := by decide +kernel
theorem dX9_saveSnapshot_43 : decode cX9_saveSnapshot 43 = .ok (.iinc 2 1, 3) := by decide +kernel
theorem dX9_saveSnapshot_46 : decode cX9_saveSnapshot 46 = .ok (.goto (-28), 3) := by decide +kernel
theorem dX9_saveSnapshot_49 : decode cX9_saveSnapshot 49 = .ok (.aload_n 0, 1) := by decide +kernel
theorem dX9_saveSnapshot_50 : decode cX9_saveSnapshot 50 = .ok (.getfield 42, 3) := by decide +kernel
theorem dX9_saveSnapshot_53 : decode cX9_saveSnapshot 53 = .ok (.iload_n 1, 1) := by decide +kernel
theorem dX9_saveSnapshot_54 : decode cX9_saveSnapshot 54 = .ok (.iconst 1, 1) := by decide +kernel
theorem dX9_saveSnapshot_55 : decode cX9_saveSnapshot 55 = .ok (.bastore, 1) := by decide +kernel
theorem dX9_saveSnapshot_56 : decode cX9_saveSnapshot 56 = .ok (.iconst 1, 1) := by decide +kernel
theorem dX9_saveSnapshot_57 : decode cX9_saveSnapshot 57 = .ok (.ireturn, 1) := by decide +kernel
theorem dX9_restoreSnapshot_0 : decode cX9_restoreSnapshot 0 = .ok (.aload_n 0, 1) := by decide +kernel
theorem dX9_restoreSnapshot_1 : decode cX9_restoreSnapshot 1 = .ok (.iconst 0, 1) := by decide +kernel
theorem dX9_restoreSnapshot_2 : decode cX9_restoreSnapshot 2 = .ok (.putfield 76, 3) := by decide +kernel
theorem dX9_restoreSnapshot_5 : decode cX9_restoreSnapshot 5 = .ok (.iload_n 1, 1) := by decide +kernel
theorem dX9_restoreSnapshot_6 : decode cX9_restoreSnapshot 6 = .ok (.iconst 0, 1) := by decide +kernel
theorem dX9_restoreSnapshot_7 : decode cX9_restoreSnapshot 7 = .ok (.iconst 1, 1) := by decide +kernel
theorem dX9_restoreSnapshot_8 : decode cX9_restoreSnapshot 8 = .ok (.invokestatic 103, 3) := by decide +kernel
theorem dX9_restoreSnapshot_11 : decode cX9_restoreSnapshot 11 = .ok (.ifCond .eq 12, 3) := by decide +kernel
theorem dX9_restoreSnapshot_14 : decode cX9_restoreSnapshot 14 = .ok (.aload_n 0, 1) := by decide +kernel
theorem dX9_restoreSnapshot_15 : decode cX9_restoreSnapshot 15 = .ok (.getfield 42, 3) := by decide +kernel
theorem dX9_restoreSnapshot_18 : decode cX9_restoreSnapshot 18 = .ok (.iload_n 1, 1) := by decide +kernel
theorem dX9_restoreSnapshot_19 : decode cX9_restoreSnapshot 19 = .ok (.baload, 1) := by decide +kernel
theorem dX9_restoreSnapshot_20 : decode cX9_restoreSnapshot 20 = .ok (.ifCond .ne 5, 3) := by decide +kernel
theorem dX9_restoreSnapshot_23 : decode cX9_restoreSnapshot 23 = .ok (.iconst 0, 1) := by decide +kernel
theorem dX9_restoreSnapshot_24 : decode cX9_restoreSnapshot 24 = .ok (.ireturn, 1) := by decide +kernel
theorem dX9_restoreSnapshot_25 : decode cX9_restoreSnapshot 25 = .ok (.iconst 0, 1) := by decide +kernel
theorem dX9_restoreSnapshot_26 : decode cX9_restoreSnapshot 26 = .ok (.istore_n 2, 1) := by decide +kernel
theorem dX9_restoreSnapshot_27 : decode cX9_restoreSnapshot 27 = .ok (.iload_n 2, 1) := by decide +kernel
theorem dX9_restoreSnapshot_28 : decode cX9_restoreSnapshot 28 = .ok (.sipush 3277, 3) := by decide +kernel
theorem dX9_restoreSnapshot_31 : decode cX9_restoreSnapshot 31 = .ok (.if_icmp .ge 27, 3) := by decide +kernel
theorem dX9_restoreSnapshot_34 : decode cX9_restoreSnapshot 34 = .ok (.aload_n 0, 1) := by decide +kernel
theorem dX9_restoreSnapshot_35 : decode cX9_restoreSnapshot 35 = .ok (.getfield 32, 3) := by decide +kernel
theorem dX9_restoreSnapshot_38 : decode cX9_restoreSnapshot 38 = .ok (.iload_n 2, 1) := by decide +kernel
theorem dX9_restoreSnapshot_39 : decode cX9_restoreSnapshot 39 = .ok (.aload_n 0, 1) := by decide +kernel
theorem dX9_restoreSnapshot_40 : decode cX9_restoreSnapshot 40 = .ok (.getfield 39, 3) := by decide +kernel
theorem dX9_restoreSnapshot_43 : decode cX9_restoreSnapshot 43 = .ok (.sipush 3277, 3) := by decide +kernel
theorem dX9_restoreSnapshot_46 : decode cX9_restoreSnapshot 46 = .ok (.iload_n 1, 1) := by decide +kernel
theorem dX9_restoreSnapshot_47 : decode cX9_restoreSnapshot 47 = .ok (.imul, 1) := by decide +kernel
theorem dX9_restoreSnapshot_48 : decode cX9_restoreSnapshot 48 = .ok (.iload_n 2, 1) := by decide +kernel
theorem dX9_restoreSnapshot_49 : decode cX9_restoreSnapshot 49 = .ok (.iadd, 1) := by decide +kernel
theorem dX9_restoreSnapshot_50 : decode cX9_restoreSnapshot 50 = .ok (.iaload, 1) := by decide +kernel
theorem dX9_restoreSnapshot_51 : decode cX9_restoreSnapshot 51 = .ok (.iastore, 1) := by decide +kernel
theorem dX9_restoreSnapshot_52 : decode cX9_restoreSnapshot 52 = .ok (.iinc 2 1, 3) := by decide +kernel
theorem dX9_restoreSnapshot_55 : decode cX9_restoreSnapshot 55 = .ok (.goto (-28), 3) := by decide +kernel
theorem dX9_restoreSnapshot_58 : decode cX9_restoreSnapshot 58 = .ok (.aload_n 0, 1) := by decide +kernel
theorem dX9_restoreSnapshot_59 : decode cX9_restoreSnapshot 59 = .ok (.iconst 0, 1) := by decide +kernel
theorem dX9_restoreSnapshot_60 : decode cX9_restoreSnapshot 60 = .ok (.putfield 136, 3) := by decide +kernel
theorem dX9_restoreSnapshot_63 : decode cX9_restoreSnapshot 63 = .ok (.iconst 1, 1) := by decide +kernel
theorem dX9_restoreSnapshot_64 : decode cX9_restoreSnapshot 64 = .ok (.ireturn, 1) := by decide +kernel
