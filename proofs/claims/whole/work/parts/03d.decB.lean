theorem dX2_init_0 : decode cX2_init 0 = .ok (.aload_n 0, 1) := by decide +kernel
theorem dX2_init_1 : decode cX2_init 1 = .ok (.invokespecial 3, 3) := by decide +kernel
theorem dX2_init_4 : decode cX2_init 4 = .ok (.aload_n 0, 1) := by decide +kernel
theorem dX2_init_5 : decode cX2_init 5 = .ok (.bipush 10, 2) := by decide +kernel
theorem dX2_init_7 : decode cX2_init 7 = .ok (.newarray .int, 2) := by decide +kernel
theorem dX2_init_9 : decode cX2_init 9 = .ok (.putfield 9, 3) := by decide +kernel
theorem dX2_init_12 : decode cX2_init 12 = .ok (.aload_n 0, 1) := by decide +kernel
theorem dX2_init_13 : decode cX2_init 13 = .ok (.bipush 10, 2) := by decide +kernel
theorem dX2_init_15 : decode cX2_init 15 = .ok (.newarray .int, 2) := by decide +kernel
theorem dX2_init_17 : decode cX2_init 17 = .ok (.putfield 15, 3) := by decide +kernel
theorem dX2_init_20 : decode cX2_init 20 = .ok (.aload_n 0, 1) := by decide +kernel
theorem dX2_init_21 : decode cX2_init 21 = .ok (.bipush 10, 2) := by decide +kernel
theorem dX2_init_23 : decode cX2_init 23 = .ok (.newarray .int, 2) := by decide +kernel
theorem dX2_init_25 : decode cX2_init 25 = .ok (.putfield 18, 3) := by decide +kernel
theorem dX2_init_28 : decode cX2_init 28 = .ok (.aload_n 0, 1) := by decide +kernel
theorem dX2_init_29 : decode cX2_init 29 = .ok (.bipush 10, 2) := by decide +kernel
theorem dX2_init_31 : decode cX2_init 31 = .ok (.newarray .int, 2) := by decide +kernel
theorem dX2_init_33 : decode cX2_init 33 = .ok (.putfield 21, 3) := by decide +kernel
theorem dX2_init_36 : decode cX2_init 36 = .ok (.aload_n 0, 1) := by decide +kernel
theorem dX2_init_37 : decode cX2_init 37 = .ok (.bipush 10, 2) := by decide +kernel
theorem dX2_init_39 : decode cX2_init 39 = .ok (.newarray .int, 2) := by decide +kernel
theorem dX2_init_41 : decode cX2_init 41 = .ok (.putfield 24, 3) := by decide +kernel
theorem dX2_init_44 : decode cX2_init 44 = .ok (.aload_n 0, 1) := by decide +kernel
theorem dX2_init_45 : decode cX2_init 45 = .ok (.bipush 10, 2) := by decide +kernel
theorem dX2_init_47 : decode cX2_init 47 = .ok (.newarray .int, 2) := by decide +kernel
theorem dX2_init_49 : decode cX2_init 49 = .ok (.putfield 27, 3) := by decide +kernel
theorem dX2_init_52 : decode cX2_init 52 = .ok (.aload_n 0, 1) := by decide +kernel
theorem dX2_init_53 : decode cX2_init 53 = .ok (.bipush 10, 2) := by decide +kernel
theorem dX2_init_55 : decode cX2_init 55 = .ok (.newarray .int, 2) := by decide +kernel
theorem dX2_init_57 : decode cX2_init 57 = .ok (.putfield 30, 3) := by decide +kernel
theorem dX2_init_60 : decode cX2_init 60 = .ok (.aload_n 0, 1) := by decide +kernel
theorem dX2_init_61 : decode cX2_init 61 = .ok (.bipush 10, 2) := by decide +kernel
theorem dX2_init_63 : decode cX2_init 63 = .ok (.newarray .long, 2) := by decide +kernel
theorem dX2_init_65 : decode cX2_init 65 = .ok (.putfield 33, 3) := by decide +kernel
theorem dX2_init_68 : decode cX2_init 68 = .ok (.aload_n 0, 1) := by decide +kernel
theorem dX2_init_69 : decode cX2_init 69 = .ok (.bipush 10, 2) := by decide +kernel
theorem dX2_init_71 : decode cX2_init 71 = .ok (.newarray .long, 2) := by decide +kernel
theorem dX2_init_73 : decode cX2_init 73 = .ok (.putfield 37, 3) := by decide +kernel
theorem dX2_init_76 : decode cX2_init 76 = .ok (.aload_n 0, 1) := by decide +kernel
theorem dX2_init_77 : decode cX2_init 77 = .ok (.bipush 10, 2) := by decide +kernel
theorem dX2_init_79 : decode cX2_init 79 = .ok (.newarray .long, 2) := by decide +kernel
theorem dX2_init_81 : decode cX2_init 81 = .ok (.putfield 40, 3) := by decide +kernel
theorem dX2_init_84 : decode cX2_init 84 = .ok (.aload_n 0, 1) := by decide +kernel
theorem dX2_init_85 : decode cX2_init 85 = .ok (.bipush 10, 2) := by decide +kernel
theorem dX2_init_87 : decode cX2_init 87 = .ok (.newarray .long, 2) := by decide +kernel
theorem dX2_init_89 : decode cX2_init 89 = .ok (.putfield 43, 3) := by decide +kernel
theorem dX2_init_92 : decode cX2_init 92 = .ok (.aload_n 0, 1) := by decide +kernel
theorem dX2_init_93 : decode cX2_init 93 = .ok (.bipush 10, 2) := by decide +kernel
theorem dX2_init_95 : decode cX2_init 95 = .ok (.newarray .long, 2) := by decide +kernel
theorem dX2_init_97 : decode cX2_init 97 = .ok (.putfield 46, 3) := by decide +kernel
theorem dX2_init_100 : decode cX2_init 100 = .ok (.aload_n 0, 1) := by decide +kernel
theorem dX2_init_101 : decode cX2_init 101 = .ok (.lconst 0, 1) := by decide +kernel
theorem dX2_init_102 : decode cX2_init 102 = .ok (.putfield 49, 3) := by decide +kernel
theorem dX2_init_105 : decode cX2_init 105 = .ok (.aload_n 0, 1) := by decide +kernel
theorem dX2_init_106 : decode cX2_init 106 = .ok (.iconst 0, 1) := by decide +kernel
theorem dX2_init_107 : decode cX2_init 107 = .ok (.putfield 53, 3) := by decide +kernel
theorem dX2_init_110 : decode cX2_init 110 = .ok (.return_, 1) := by decide +kernel
theorem dX2_find_0 : decode cX2_find 0 = .ok (.aload_n 0, 1) := by decide +kernel
theorem dX2_find_1 : decode cX2_find 1 = .ok (.getfield 27, 3) := by decide +kernel
theorem dX2_find_4 : decode cX2_find 4 = .ok (.aload_n 1, 1) := by decide +kernel
theorem dX2_find_5 : decode cX2_find 5 = .ok (.getfield 57, 3) := by decide +kernel
theorem dX2_find_8 : decode cX2_find 8 = .ok (.iconst 0, 1) := by decide +kernel
theorem dX2_find_9 : decode cX2_find 9 = .ok (.iaload, 1) := by decide +kernel
theorem dX2_find_10 : decode cX2_find 10 = .ok (.invokestatic 62, 3) := by decide +kernel
theorem dX2_find_13 : decode cX2_find 13 = .ok (.iconst 0, 1) := by decide +kernel
theorem dX2_find_14 : decode cX2_find 14 = .ok (.istore_n 3, 1) := by decide +kernel
theorem dX2_find_15 : decode cX2_find 15 = .ok (.iconst 1, 1) := by decide +kernel
theorem dX2_find_16 : decode cX2_find 16 = .ok (.istore 4, 2) := by decide +kernel
theorem dX2_find_18 : decode cX2_find 18 = .ok (.iload 4, 2) := by decide +kernel
theorem dX2_find_20 : decode cX2_find 20 = .ok (.bipush 12, 2) := by decide +kernel
theorem dX2_find_22 : decode cX2_find 22 = .ok (.if_icmp .gt 71, 3) := by decide +kernel
theorem dX2_find_25 : decode cX2_find 25 = .ok (.iload_n 3, 1) := by decide +kernel
theorem dX2_find_26 : decode cX2_find 26 = .ok (.ifCond .ne 67, 3) := by decide +kernel
theorem dX2_find_29 : decode cX2_find 29 = .ok (.aload_n 0, 1) := by decide +kernel
theorem dX2_find_30 : decode cX2_find 30 = .ok (.aload_n 1, 1) := by decide +kernel
theorem dX2_find_31 : decode cX2_find 31 = .ok (.aload_n 2, 1) := by decide +kernel
theorem dX2_find_32 : decode cX2_find 32 = .ok (.invokevirtual 68, 3) := by decide +kernel
theorem dX2_find_35 : decode cX2_find 35 = .ok (.istore 5, 2) := by decide +kernel
theorem dX2_find_37 : decode cX2_find 37 = .ok (.iload 5, 2) := by decide +kernel
theorem dX2_find_39 : decode cX2_find 39 = .ok (.ifCond .eq 13, 3) := by decide +kernel
theorem dX2_find_42 : decode cX2_find 42 = .ok (.iload 4, 2) := by decide +kernel
theorem dX2_find_44 : decode cX2_find 44 = .ok (.iconst 1, 1) := by decide +kernel
theorem dX2_find_45 : decode cX2_find 45 = .ok (.if_icmp .le 7, 3) := by decide +kernel
theorem dX2_find_48 : decode cX2_find 48 = .ok (.iconst 1, 1) := by decide +kernel
theorem dX2_find_49 : decode cX2_find 49 = .ok (.goto 4, 3) := by decide +kernel
theorem dX2_find_52 : decode cX2_find 52 = .ok (.iconst 0, 1) := by decide +kernel
theorem dX2_find_53 : decode cX2_find 53 = .ok (.istore_n 3, 1) := by decide +kernel
theorem dX2_find_54 : decode cX2_find 54 = .ok (.aload_n 0, 1) := by decide +kernel
theorem dX2_find_55 : decode cX2_find 55 = .ok (.iload 4, 2) := by decide +kernel
theorem dX2_find_57 : decode cX2_find 57 = .ok (.putfield 53, 3) := by decide +kernel
theorem dX2_find_60 : decode cX2_find 60 = .ok (.iload_n 3, 1) := by decide +kernel
theorem dX2_find_61 : decode cX2_find 61 = .ok (.ifCond .ne 26, 3) := by decide +kernel
theorem dX2_find_64 : decode cX2_find 64 = .ok (.aload_n 0, 1) := by decide +kernel
theorem dX2_find_65 : decode cX2_find 65 = .ok (.aload_n 1, 1) := by decide +kernel
theorem dX2_find_66 : decode cX2_find 66 = .ok (.aload_n 2, 1) := by decide +kernel
theorem dX2_find_67 : decode cX2_find 67 = .ok (.invokevirtual 72, 3) := by decide +kernel
theorem dX2_find_70 : decode cX2_find 70 = .ok (.aload_n 0, 1) := by decide +kernel
theorem dX2_find_71 : decode cX2_find 71 = .ok (.aload_n 1, 1) := by decide +kernel
theorem dX2_find_72 : decode cX2_find 72 = .ok (.aload_n 2, 1) := by decide +kernel
theorem dX2_find_73 : decode cX2_find 73 = .ok (.invokevirtual 76, 3) := by decide +kernel
theorem dX2_find_76 : decode cX2_find 76 = .ok (.aload_n 0, 1) := by decide +kernel
theorem dX2_find_77 : decode cX2_find 77 = .ok (.aload_n 2, 1) := by decide +kernel
theorem dX2_find_78 : decode cX2_find 78 = .ok (.invokevirtual 79, 3) := by decide +kernel
theorem dX2_find_81 : decode cX2_find 81 = .ok (.aload_n 0, 1) := by decide +kernel
theorem dX2_find_82 : decode cX2_find 82 = .ok (.aload_n 1, 1) := by decide +kernel
theorem dX2_find_83 : decode cX2_find 83 = .ok (.aload_n 2, 1) := by decide +kernel
theorem dX2_find_84 : decode cX2_find 84 = .ok (.invokevirtual 83, 3) := by decide +kernel
theorem dX2_find_87 : decode cX2_find 87 = .ok (.iinc 4 1, 3) := by decide +kernel
theorem dX2_find_90 : decode cX2_find 90 = .ok (.goto (-72), 3) := by decide +kernel
theorem dX2_find_93 : decode cX2_find 93 = .ok (.aload_n 0, 1) := by decide +kernel
theorem dX2_find_94 : decode cX2_find 94 = .ok (.aload_n 1, 1) := by decide +kernel
theorem dX2_find_95 : decode cX2_find 95 = .ok (.aload_n 2, 1) := by decide +kernel
theorem dX2_find_96 : decode cX2_find 96 = .ok (.invokevirtual 86, 3) := by decide +kernel
theorem dX2_find_99 : decode cX2_find 99 = .ok (.aload_n 0, 1) := by decide +kernel
theorem dX2_find_100 : decode cX2_find 100 = .ok (.aload_n 1, 1) := by decide +kernel
theorem dX2_find_101 : decode cX2_find 101 = .ok (.aload_n 2, 1) := by decide +kernel
theorem dX2_find_102 : decode cX2_find 102 = .ok (.invokevirtual 89, 3) := by decide +kernel
theorem dX2_find_105 : decode cX2_find 105 = .ok (.return_, 1) := by decide +kernel
theorem dX2_stationHeat_0 : decode cX2_stationHeat 0 = .ok (.aload_n 0, 1) := by decide +kernel
theorem dX2_stationHeat_1 : decode cX2_stationHeat 1 = .ok (.getfield 9, 3) := by decide +kernel
theorem dX2_stationHeat_4 : decode cX2_stationHeat 4 = .ok (.iload_n 2, 1) := by decide +kernel
theorem dX2_stationHeat_5 : decode cX2_stationHeat 5 = .ok (.iaload, 1) := by decide +kernel
theorem dX2_stationHeat_6 : decode cX2_stationHeat 6 = .ok (.i2l, 1) := by decide +kernel
theorem dX2_stationHeat_7 : decode cX2_stationHeat 7 = .ok (.aload_n 0, 1) := by decide +kernel
theorem dX2_stationHeat_8 : decode cX2_stationHeat 8 = .ok (.getfield 27, 3) := by decide +kernel
theorem dX2_stationHeat_11 : decode cX2_stationHeat 11 = .ok (.iload_n 2, 1) := by decide +kernel
theorem dX2_stationHeat_12 : decode cX2_stationHeat 12 = .ok (.iaload, 1) := by decide +kernel
theorem dX2_stationHeat_13 : decode cX2_stationHeat 13 = .ok (.aload_n 1, 1) := by decide +kernel
theorem dX2_stationHeat_14 : decode cX2_stationHeat 14 = .ok (.getfield 92, 3) := by decide +kernel
theorem dX2_stationHeat_17 : decode cX2_stationHeat 17 = .ok (.iload_n 2, 1) := by decide +kernel
theorem dX2_stationHeat_18 : decode cX2_stationHeat 18 = .ok (.iaload, 1) := by decide +kernel
theorem dX2_stationHeat_19 : decode cX2_stationHeat 19 = .ok (.isub, 1) := by decide +kernel
theorem dX2_stationHeat_20 : decode cX2_stationHeat 20 = .ok (.i2l, 1) := by decide +kernel
theorem dX2_stationHeat_21 : decode cX2_stationHeat 21 = .ok (.lmul, 1) := by decide +kernel
theorem dX2_stationHeat_22 : decode cX2_stationHeat 22 = .ok (.lreturn, 1) := by decide +kernel
theorem dX2_allStationHeat_0 : decode cX2_allStationHeat 0 = .ok (.lconst 0, 1) := by decide +kernel
theorem dX2_allStationHeat_1 : decode cX2_allStationHeat 1 = .ok (.lstore_n 2, 1) := by decide +kernel
theorem dX2_allStationHeat_2 : decode cX2_allStationHeat 2 = .ok (.iconst 0, 1) := by decide +kernel
theorem dX2_allStationHeat_3 : decode cX2_allStationHeat 3 = .ok (.istore 4, 2) := by decide +kernel
theorem dX2_allStationHeat_5 : decode cX2_allStationHeat 5 = .ok (.iload 4, 2) := by decide +kernel
theorem dX2_allStationHeat_7 : decode cX2_allStationHeat 7 = .ok (.bipush 10, 2) := by decide +kernel
theorem dX2_allStationHeat_9 : decode cX2_allStationHeat 9 = .ok (.if_icmp .ge 28, 3) := by decide +kernel
theorem dX2_allStationHeat_12 : decode cX2_allStationHeat 12 = .ok (.aload_n 1, 1) := by decide +kernel
theorem dX2_allStationHeat_13 : decode cX2_allStationHeat 13 = .ok (.iload 4, 2) := by decide +kernel
theorem dX2_allStationHeat_15 : decode cX2_allStationHeat 15 = .ok (.invokevirtual 95, 3) := by decide +kernel
theorem dX2_allStationHeat_18 : decode cX2_allStationHeat 18 = .ok (.ifCond .eq 13, 3) := by decide +kernel
theorem dX2_allStationHeat_21 : decode cX2_allStationHeat 21 = .ok (.lload_n 2, 1) := by decide +kernel
theorem dX2_allStationHeat_22 : decode cX2_allStationHeat 22 = .ok (.aload_n 0, 1) := by decide +kernel
theorem dX2_allStationHeat_23 : decode cX2_allStationHeat 23 = .ok (.aload_n 1, 1) := by decide +kernel
theorem dX2_allStationHeat_24 : decode cX2_allStationHeat 24 = .ok (.iload 4, 2) := by decide +kernel
theorem dX2_allStationHeat_26 : decode cX2_allStationHeat 26 = .ok (.invokevirtual 99, 3) := by decide +kernel
theorem dX2_allStationHeat_29 : decode cX2_allStationHeat 29 = .ok (.ladd, 1) := by decide +kernel
theorem dX2_allStationHeat_30 : decode cX2_allStationHeat 30 = .ok (.lstore_n 2, 1) := by decide +kernel
theorem dX2_allStationHeat_31 : decode cX2_allStationHeat 31 = .ok (.iinc 4 1, 3) := by decide +kernel
theorem dX2_allStationHeat_34 : decode cX2_allStationHeat 34 = .ok (.goto (-29), 3) := by decide +kernel
theorem dX2_allStationHeat_37 : decode cX2_allStationHeat 37 = .ok (.lload_n 2, 1) := by decide +kernel
theorem dX2_allStationHeat_38 : decode cX2_allStationHeat 38 = .ok (.lreturn, 1) := by decide +kernel
theorem dX2_madeHeat_0 : decode cX2_madeHeat 0 = .ok (.aload_n 0, 1) := by decide +kernel
theorem dX2_madeHeat_1 : decode cX2_madeHeat 1 = .ok (.getfield 33, 3) := by decide +kernel
theorem dX2_madeHeat_4 : decode cX2_madeHeat 4 = .ok (.iconst 0, 1) := by decide +kernel
theorem dX2_madeHeat_5 : decode cX2_madeHeat 5 = .ok (.laload, 1) := by decide +kernel
theorem dX2_madeHeat_6 : decode cX2_madeHeat 6 = .ok (.aload_n 1, 1) := by decide +kernel
theorem dX2_madeHeat_7 : decode cX2_madeHeat 7 = .ok (.getfield 57, 3) := by decide +kernel
theorem dX2_madeHeat_10 : decode cX2_madeHeat 10 = .ok (.iconst 0, 1) := by decide +kernel
theorem dX2_madeHeat_11 : decode cX2_madeHeat 11 = .ok (.iaload, 1) := by decide +kernel
theorem dX2_madeHeat_12 : decode cX2_madeHeat 12 = .ok (.aload_n 0, 1) := by decide +kernel
theorem dX2_madeHeat_13 : decode cX2_madeHeat 13 = .ok (.getfield 30, 3) := by decide +kernel
theorem dX2_madeHeat_16 : decode cX2_madeHeat 16 = .ok (.iconst 0, 1) := by decide +kernel
theorem dX2_madeHeat_17 : decode cX2_madeHeat 17 = .ok (.iaload, 1) := by decide +kernel
theorem dX2_madeHeat_18 : decode cX2_madeHeat 18 = .ok (.isub, 1) := by decide +kernel
theorem dX2_madeHeat_19 : decode cX2_madeHeat 19 = .ok (.i2l, 1) := by decide +kernel
theorem dX2_madeHeat_20 : decode cX2_madeHeat 20 = .ok (.lmul, 1) := by decide +kernel
theorem dX2_madeHeat_21 : decode cX2_madeHeat 21 = .ok (.lreturn, 1) := by decide +kernel
theorem dX2_greatestHead_0 : decode cX2_greatestHead 0 = .ok (.lconst 0, 1) := by decide +kernel
theorem dX2_greatestHead_1 : decode cX2_greatestHead 1 = .ok (.lstore_n 2, 1) := by decide +kernel
theorem dX2_greatestHead_2 : decode cX2_greatestHead 2 = .ok (.iconst 0, 1) := by decide +kernel
theorem dX2_greatestHead_3 : decode cX2_greatestHead 3 = .ok (.istore 4, 2) := by decide +kernel
theorem dX2_greatestHead_5 : decode cX2_greatestHead 5 = .ok (.iconst 0, 1) := by decide +kernel
theorem dX2_greatestHead_6 : decode cX2_greatestHead 6 = .ok (.istore 5, 2) := by decide +kernel
theorem dX2_greatestHead_8 : decode cX2_greatestHead 8 = .ok (.iload 5, 2) := by decide +kernel
theorem dX2_greatestHead_10 : decode cX2_greatestHead 10 = .ok (.aload_n 1, 1) := by decide +kernel
theorem dX2_greatestHead_11 : decode cX2_greatestHead 11 = .ok (.getfield 103, 3) := by decide +kernel
theorem dX2_greatestHead_14 : decode cX2_greatestHead 14 = .ok (.if_icmp .ge 58, 3) := by decide +kernel
theorem dX2_greatestHead_17 : decode cX2_greatestHead 17 = .ok (.aload_n 1, 1) := by decide +kernel
theorem dX2_greatestHead_18 : decode cX2_greatestHead 18 = .ok (.getfield 108, 3) := by decide +kernel
theorem dX2_greatestHead_21 : decode cX2_greatestHead 21 = .ok (.iload 5, 2) := by decide +kernel
theorem dX2_greatestHead_23 : decode cX2_greatestHead 23 = .ok (.iaload, 1) := by decide +kernel
theorem dX2_greatestHead_24 : decode cX2_greatestHead 24 = .ok (.istore 6, 2) := by decide +kernel
theorem dX2_greatestHead_26 : decode cX2_greatestHead 26 = .ok (.aload_n 0, 1) := by decide +kernel
theorem dX2_greatestHead_27 : decode cX2_greatestHead 27 = .ok (.getfield 9, 3) := by decide +kernel
theorem dX2_greatestHead_30 : decode cX2_greatestHead 30 = .ok (.iload 6, 2) := by decide +kernel
theorem dX2_greatestHead_32 : decode cX2_greatestHead 32 = .ok (.iaload, 1) := by decide +kernel
theorem dX2_greatestHead_33 : decode cX2_greatestHead 33 = .ok (.ifCond .le 33, 3) := by decide +kernel
theorem dX2_greatestHead_36 : decode cX2_greatestHead 36 = .ok (.iload 4, 2) := by decide +kernel
theorem dX2_greatestHead_38 : decode cX2_greatestHead 38 = .ok (.ifCond .eq 17, 3) := by decide +kernel
theorem dX2_greatestHead_41 : decode cX2_greatestHead 41 = .ok (.lload_n 2, 1) := by decide +kernel
theorem dX2_greatestHead_42 : decode cX2_greatestHead 42 = .ok (.aload_n 0, 1) := by decide +kernel
theorem dX2_greatestHead_43 : decode cX2_greatestHead 43 = .ok (.getfield 46, 3) := by decide +kernel
theorem dX2_greatestHead_46 : decode cX2_greatestHead 46 = .ok (.iload 6, 2) := by decide +kernel
theorem dX2_greatestHead_48 : decode cX2_greatestHead 48 = .ok (.laload, 1) := by decide +kernel
theorem dX2_greatestHead_49 : decode cX2_greatestHead 49 = .ok (.invokestatic 111, 3) := by decide +kernel
theorem dX2_greatestHead_52 : decode cX2_greatestHead 52 = .ok (.goto 10, 3) := by decide +kernel
theorem dX2_greatestHead_55 : decode cX2_greatestHead 55 = .ok (.aload_n 0, 1) := by decide +kernel
theorem dX2_greatestHead_56 : decode cX2_greatestHead 56 = .ok (.getfield 46, 3) := by decide +kernel
theorem dX2_greatestHead_59 : decode cX2_greatestHead 59 = .ok (.iload 6, 2) := by decide +kernel
theorem dX2_greatestHead_61 : decode cX2_greatestHead 61 = .ok (.laload, 1) := by decide +kernel
theorem dX2_greatestHead_62 : decode cX2_greatestHead 62 = .ok (.lstore_n 2, 1) := by decide +kernel
theorem dX2_greatestHead_63 : decode cX2_greatestHead 63 = .ok (.iconst 1, 1) := by decide +kernel
theorem dX2_greatestHead_64 : decode cX2_greatestHead 64 = .ok (.istore 4, 2) := by decide +kernel
theorem dX2_greatestHead_66 : decode cX2_greatestHead 66 = .ok (.iinc 5 1, 3) := by decide +kernel
theorem dX2_greatestHead_69 : decode cX2_greatestHead 69 = .ok (.goto (-61), 3) := by decide +kernel
theorem dX2_greatestHead_72 : decode cX2_greatestHead 72 = .ok (.lload_n 2, 1) := by decide +kernel
theorem dX2_greatestHead_73 : decode cX2_greatestHead 73 = .ok (.lreturn, 1) := by decide +kernel
theorem dX2_findStationFlows_0 : decode cX2_findStationFlows 0 = .ok (.iconst 1, 1) := by decide +kernel
theorem dX2_findStationFlows_1 : decode cX2_findStationFlows 1 = .ok (.istore_n 3, 1) := by decide +kernel
theorem dX2_findStationFlows_2 : decode cX2_findStationFlows 2 = .ok (.iconst 0, 1) := by decide +kernel
theorem dX2_findStationFlows_3 : decode cX2_findStationFlows 3 = .ok (.istore 4, 2) := by decide +kernel
theorem dX2_findStationFlows_5 : decode cX2_findStationFlows 5 = .ok (.iload 4, 2) := by decide +kernel
theorem dX2_findStationFlows_7 : decode cX2_findStationFlows 7 = .ok (.bipush 10, 2) := by decide +kernel
theorem dX2_findStationFlows_9 : decode cX2_findStationFlows 9 = .ok (.if_icmp .ge 71, 3) := by decide +kernel
theorem dX2_findStationFlows_12 : decode cX2_findStationFlows 12 = .ok (.iconst 0, 1) := by decide +kernel
theorem dX2_findStationFlows_13 : decode cX2_findStationFlows 13 = .ok (.istore 5, 2) := by decide +kernel
theorem dX2_findStationFlows_15 : decode cX2_findStationFlows 15 = .ok (.aload_n 1, 1) := by decide +kernel
theorem dX2_findStationFlows_16 : decode cX2_findStationFlows 16 = .ok (.iload 4, 2) := by decide +kernel
theorem dX2_findStationFlows_18 : decode cX2_findStationFlows 18 = .ok (.invokevirtual 95, 3) := by decide +kernel
theorem dX2_findStationFlows_21 : decode cX2_findStationFlows 21 = .ok (.ifCond .eq 22, 3) := by decide +kernel
theorem dX2_findStationFlows_24 : decode cX2_findStationFlows 24 = .ok (.aload_n 2, 1) := by decide +kernel
theorem dX2_findStationFlows_25 : decode cX2_findStationFlows 25 = .ok (.getfield 117, 3) := by decide +kernel
theorem dX2_findStationFlows_28 : decode cX2_findStationFlows 28 = .ok (.iload 4, 2) := by decide +kernel
theorem dX2_findStationFlows_30 : decode cX2_findStationFlows 30 = .ok (.iaload, 1) := by decide +kernel
theorem dX2_findStationFlows_31 : decode cX2_findStationFlows 31 = .ok (.ifCond .lt 12, 3) := by decide +kernel
theorem dX2_findStationFlows_34 : decode cX2_findStationFlows 34 = .ok (.aload_n 0, 1) := by decide +kernel
theorem dX2_findStationFlows_35 : decode cX2_findStationFlows 35 = .ok (.aload_n 1, 1) := by decide +kernel
theorem dX2_findStationFlows_36 : decode cX2_findStationFlows 36 = .ok (.iload 4, 2) := by decide +kernel
theorem dX2_findStationFlows_38 : decode cX2_findStationFlows 38 = .ok (.invokevirtual 120, 3) := by decide +kernel
theorem dX2_findStationFlows_41 : decode cX2_findStationFlows 41 = .ok (.istore 5, 2) := by decide +kernel
theorem dX2_findStationFlows_43 : decode cX2_findStationFlows 43 = .ok (.iload_n 3, 1) := by decide +kernel
theorem dX2_findStationFlows_44 : decode cX2_findStationFlows 44 = .ok (.ifCond .eq 19, 3) := by decide +kernel
theorem dX2_findStationFlows_47 : decode cX2_findStationFlows 47 = .ok (.iload 5, 2) := by decide +kernel
theorem dX2_findStationFlows_49 : decode cX2_findStationFlows 49 = .ok (.aload_n 0, 1) := by decide +kernel
theorem dX2_findStationFlows_50 : decode cX2_findStationFlows 50 = .ok (.getfield 9, 3) := by decide +kernel
theorem dX2_findStationFlows_53 : decode cX2_findStationFlows 53 = .ok (.iload 4, 2) := by decide +kernel
theorem dX2_findStationFlows_55 : decode cX2_findStationFlows 55 = .ok (.iaload, 1) := by decide +kernel
theorem dX2_findStationFlows_56 : decode cX2_findStationFlows 56 = .ok (.if_icmp .ne 7, 3) := by decide +kernel
theorem dX2_findStationFlows_59 : decode cX2_findStationFlows 59 = .ok (.iconst 1, 1) := by decide +kernel
theorem dX2_findStationFlows_60 : decode cX2_findStationFlows 60 = .ok (.goto 4, 3) := by decide +kernel
theorem dX2_findStationFlows_63 : decode cX2_findStationFlows 63 = .ok (.iconst 0, 1) := by decide +kernel
theorem dX2_findStationFlows_64 : decode cX2_findStationFlows 64 = .ok (.istore_n 3, 1) := by decide +kernel
theorem dX2_findStationFlows_65 : decode cX2_findStationFlows 65 = .ok (.aload_n 0, 1) := by decide +kernel
theorem dX2_findStationFlows_66 : decode cX2_findStationFlows 66 = .ok (.getfield 9, 3) := by decide +kernel
theorem dX2_findStationFlows_69 : decode cX2_findStationFlows 69 = .ok (.iload 4, 2) := by decide +kernel
theorem dX2_findStationFlows_71 : decode cX2_findStationFlows 71 = .ok (.iload 5, 2) := by decide +kernel
theorem dX2_findStationFlows_73 : decode cX2_findStationFlows 73 = .ok (.iastore, 1) := by decide +kernel
theorem dX2_findStationFlows_74 : decode cX2_findStationFlows 74 = .ok (.iinc 4 1, 3) := by decide +kernel
theorem dX2_findStationFlows_77 : decode cX2_findStationFlows 77 = .ok (.goto (-72), 3) := by decide +kernel
theorem dX2_findStationFlows_80 : decode cX2_findStationFlows 80 = .ok (.iload_n 3, 1) := by decide +kernel
theorem dX2_findStationFlows_81 : decode cX2_findStationFlows 81 = .ok (.ireturn, 1) := by decide +kernel
theorem dX2_drawnFlow_0 : decode cX2_drawnFlow 0 = .ok (.aload_n 0, 1) := by decide +kernel
theorem dX2_drawnFlow_1 : decode cX2_drawnFlow 1 = .ok (.getfield 27, 3) := by decide +kernel
theorem dX2_drawnFlow_4 : decode cX2_drawnFlow 4 = .ok (.iload_n 2, 1) := by decide +kernel
theorem dX2_drawnFlow_5 : decode cX2_drawnFlow 5 = .ok (.iaload, 1) := by decide +kernel
theorem dX2_drawnFlow_6 : decode cX2_drawnFlow 6 = .ok (.aload_n 1, 1) := by decide +kernel
theorem dX2_drawnFlow_7 : decode cX2_drawnFlow 7 = .ok (.getfield 92, 3) := by decide +kernel
theorem dX2_drawnFlow_10 : decode cX2_drawnFlow 10 = .ok (.iload_n 2, 1) := by decide +kernel
theorem dX2_drawnFlow_11 : decode cX2_drawnFlow 11 = .ok (.iaload, 1) := by decide +kernel
theorem dX2_drawnFlow_12 : decode cX2_drawnFlow 12 = .ok (.isub, 1) := by decide +kernel
theorem dX2_drawnFlow_13 : decode cX2_drawnFlow 13 = .ok (.istore_n 3, 1) := by decide +kernel
theorem dX2_drawnFlow_14 : decode cX2_drawnFlow 14 = .ok (.iload_n 3, 1) := by decide +kernel
theorem dX2_drawnFlow_15 : decode cX2_drawnFlow 15 = .ok (.bipush 50, 2) := by decide +kernel
theorem dX2_drawnFlow_17 : decode cX2_drawnFlow 17 = .ok (.if_icmp .ge 5, 3) := by decide +kernel
theorem dX2_drawnFlow_20 : decode cX2_drawnFlow 20 = .ok (.iconst 0, 1) := by decide +kernel
theorem dX2_drawnFlow_21 : decode cX2_drawnFlow 21 = .ok (.ireturn, 1) := by decide +kernel
theorem dX2_drawnFlow_22 : decode cX2_drawnFlow 22 = .ok (.aload_n 1, 1) := by decide +kernel
theorem dX2_drawnFlow_23 : decode cX2_drawnFlow 23 = .ok (.iload_n 2, 1) := by decide +kernel
theorem dX2_drawnFlow_24 : decode cX2_drawnFlow 24 = .ok (.invokevirtual 124, 3) := by decide +kernel
theorem dX2_drawnFlow_27 : decode cX2_drawnFlow 27 = .ok (.iload_n 3, 1) := by decide +kernel
theorem dX2_drawnFlow_28 : decode cX2_drawnFlow 28 = .ok (.iadd, 1) := by decide +kernel
theorem dX2_drawnFlow_29 : decode cX2_drawnFlow 29 = .ok (.iconst 1, 1) := by decide +kernel
theorem dX2_drawnFlow_30 : decode cX2_drawnFlow 30 = .ok (.isub, 1) := by decide +kernel
theorem dX2_drawnFlow_31 : decode cX2_drawnFlow 31 = .ok (.iload_n 3, 1) := by decide +kernel
theorem dX2_drawnFlow_32 : decode cX2_drawnFlow 32 = .ok (.idiv, 1) := by decide +kernel
theorem dX2_drawnFlow_33 : decode cX2_drawnFlow 33 = .ok (.istore 4, 2) := by decide +kernel
theorem dX2_drawnFlow_35 : decode cX2_drawnFlow 35 = .ok (.iload 4, 2) := by decide +kernel
theorem dX2_drawnFlow_37 : decode cX2_drawnFlow 37 = .ok (.aload_n 1, 1) := by decide +kernel
theorem dX2_drawnFlow_38 : decode cX2_drawnFlow 38 = .ok (.getfield 128, 3) := by decide +kernel
theorem dX2_drawnFlow_41 : decode cX2_drawnFlow 41 = .ok (.iload_n 2, 1) := by decide +kernel
theorem dX2_drawnFlow_42 : decode cX2_drawnFlow 42 = .ok (.iaload, 1) := by decide +kernel
theorem dX2_drawnFlow_43 : decode cX2_drawnFlow 43 = .ok (.invokestatic 131, 3) := by decide +kernel
theorem dX2_drawnFlow_46 : decode cX2_drawnFlow 46 = .ok (.ireturn, 1) := by decide +kernel
theorem dX2_findTreeFlows_0 : decode cX2_findTreeFlows 0 = .ok (.aload_n 0, 1) := by decide +kernel
theorem dX2_findTreeFlows_1 : decode cX2_findTreeFlows 1 = .ok (.getfield 9, 3) := by decide +kernel
theorem dX2_findTreeFlows_4 : decode cX2_findTreeFlows 4 = .ok (.iconst 0, 1) := by decide +kernel
theorem dX2_findTreeFlows_5 : decode cX2_findTreeFlows 5 = .ok (.aload_n 0, 1) := by decide +kernel
theorem dX2_findTreeFlows_6 : decode cX2_findTreeFlows 6 = .ok (.getfield 21, 3) := by decide +kernel
theorem dX2_findTreeFlows_9 : decode cX2_findTreeFlows 9 = .ok (.iconst 0, 1) := by decide +kernel
theorem dX2_findTreeFlows_10 : decode cX2_findTreeFlows 10 = .ok (.bipush 10, 2) := by decide +kernel
theorem dX2_findTreeFlows_12 : decode cX2_findTreeFlows 12 = .ok (.invokestatic 135, 3) := by decide +kernel
theorem dX2_findTreeFlows_15 : decode cX2_findTreeFlows 15 = .ok (.aload_n 0, 1) := by decide +kernel
theorem dX2_findTreeFlows_16 : decode cX2_findTreeFlows 16 = .ok (.getfield 15, 3) := by decide +kernel
theorem dX2_findTreeFlows_19 : decode cX2_findTreeFlows 19 = .ok (.iconst 0, 1) := by decide +kernel
theorem dX2_findTreeFlows_20 : decode cX2_findTreeFlows 20 = .ok (.invokestatic 62, 3) := by decide +kernel
theorem dX2_findTreeFlows_23 : decode cX2_findTreeFlows 23 = .ok (.aload_n 2, 1) := by decide +kernel
theorem dX2_findTreeFlows_24 : decode cX2_findTreeFlows 24 = .ok (.getfield 103, 3) := by decide +kernel
theorem dX2_findTreeFlows_27 : decode cX2_findTreeFlows 27 = .ok (.iconst 1, 1) := by decide +kernel
theorem dX2_findTreeFlows_28 : decode cX2_findTreeFlows 28 = .ok (.isub, 1) := by decide +kernel
theorem dX2_findTreeFlows_29 : decode cX2_findTreeFlows 29 = .ok (.istore_n 3, 1) := by decide +kernel
theorem dX2_findTreeFlows_30 : decode cX2_findTreeFlows 30 = .ok (.iload_n 3, 1) := by decide +kernel
theorem dX2_findTreeFlows_31 : decode cX2_findTreeFlows 31 = .ok (.ifCond .lt 82, 3) := by decide +kernel
theorem dX2_findTreeFlows_34 : decode cX2_findTreeFlows 34 = .ok (.aload_n 2, 1) := by decide +kernel
theorem dX2_findTreeFlows_35 : decode cX2_findTreeFlows 35 = .ok (.getfield 108, 3) := by decide +kernel
theorem dX2_findTreeFlows_38 : decode cX2_findTreeFlows 38 = .ok (.iload_n 3, 1) := by decide +kernel
theorem dX2_findTreeFlows_39 : decode cX2_findTreeFlows 39 = .ok (.iaload, 1) := by decide +kernel
theorem dX2_findTreeFlows_40 : decode cX2_findTreeFlows 40 = .ok (.istore 4, 2) := by decide +kernel
theorem dX2_findTreeFlows_42 : decode cX2_findTreeFlows 42 = .ok (.aload_n 2, 1) := by decide +kernel
theorem dX2_findTreeFlows_43 : decode cX2_findTreeFlows 43 = .ok (.getfield 141, 3) := by decide +kernel
theorem dX2_findTreeFlows_46 : decode cX2_findTreeFlows 46 = .ok (.iload 4, 2) := by decide +kernel
theorem dX2_findTreeFlows_48 : decode cX2_findTreeFlows 48 = .ok (.iaload, 1) := by decide +kernel
theorem dX2_findTreeFlows_49 : decode cX2_findTreeFlows 49 = .ok (.istore 5, 2) := by decide +kernel
theorem dX2_findTreeFlows_51 : decode cX2_findTreeFlows 51 = .ok (.iload 5, 2) := by decide +kernel
theorem dX2_findTreeFlows_53 : decode cX2_findTreeFlows 53 = .ok (.invokestatic 144, 3) := by decide +kernel
theorem dX2_findTreeFlows_56 : decode cX2_findTreeFlows 56 = .ok (.ifCond .eq 20, 3) := by decide +kernel
theorem dX2_findTreeFlows_59 : decode cX2_findTreeFlows 59 = .ok (.aload_n 0, 1) := by decide +kernel
theorem dX2_findTreeFlows_60 : decode cX2_findTreeFlows 60 = .ok (.getfield 21, 3) := by decide +kernel
theorem dX2_findTreeFlows_63 : decode cX2_findTreeFlows 63 = .ok (.iload 5, 2) := by decide +kernel
theorem dX2_findTreeFlows_65 : decode cX2_findTreeFlows 65 = .ok (.dup2, 1) := by decide +kernel
theorem dX2_findTreeFlows_66 : decode cX2_findTreeFlows 66 = .ok (.iaload, 1) := by decide +kernel
theorem dX2_findTreeFlows_67 : decode cX2_findTreeFlows 67 = .ok (.aload_n 0, 1) := by decide +kernel
theorem dX2_findTreeFlows_68 : decode cX2_findTreeFlows 68 = .ok (.getfield 21, 3) := by decide +kernel
theorem dX2_findTreeFlows_71 : decode cX2_findTreeFlows 71 = .ok (.iload 4, 2) := by decide +kernel
theorem dX2_findTreeFlows_73 : decode cX2_findTreeFlows 73 = .ok (.iaload, 1) := by decide +kernel
theorem dX2_findTreeFlows_74 : decode cX2_findTreeFlows 74 = .ok (.iadd, 1) := by decide +kernel
theorem dX2_findTreeFlows_75 : decode cX2_findTreeFlows 75 = .ok (.iastore, 1) := by decide +kernel
theorem dX2_findTreeFlows_76 : decode cX2_findTreeFlows 76 = .ok (.aload_n 2, 1) := by decide +kernel
theorem dX2_findTreeFlows_77 : decode cX2_findTreeFlows 77 = .ok (.getfield 147, 3) := by decide +kernel
theorem dX2_findTreeFlows_80 : decode cX2_findTreeFlows 80 = .ok (.iload 4, 2) := by decide +kernel
theorem dX2_findTreeFlows_82 : decode cX2_findTreeFlows 82 = .ok (.iaload, 1) := by decide +kernel
theorem dX2_findTreeFlows_83 : decode cX2_findTreeFlows 83 = .ok (.ifCond .ge 24, 3) := by decide +kernel
theorem dX2_findTreeFlows_86 : decode cX2_findTreeFlows 86 = .ok (.aload_n 0, 1) := by decide +kernel
theorem dX2_findTreeFlows_87 : decode cX2_findTreeFlows 87 = .ok (.aload_n 1, 1) := by decide +kernel
theorem dX2_findTreeFlows_88 : decode cX2_findTreeFlows 88 = .ok (.aload_n 2, 1) := by decide +kernel
theorem dX2_findTreeFlows_89 : decode cX2_findTreeFlows 89 = .ok (.getfield 150, 3) := by decide +kernel
theorem dX2_findTreeFlows_92 : decode cX2_findTreeFlows 92 = .ok (.iload 4, 2) := by decide +kernel
theorem dX2_findTreeFlows_94 : decode cX2_findTreeFlows 94 = .ok (.iaload, 1) := by decide +kernel
theorem dX2_findTreeFlows_95 : decode cX2_findTreeFlows 95 = .ok (.iload 5, 2) := by decide +kernel
theorem dX2_findTreeFlows_97 : decode cX2_findTreeFlows 97 = .ok (.aload_n 0, 1) := by decide +kernel
theorem dX2_findTreeFlows_98 : decode cX2_findTreeFlows 98 = .ok (.getfield 21, 3) := by decide +kernel
theorem dX2_findTreeFlows_101 : decode cX2_findTreeFlows 101 = .ok (.iload 4, 2) := by decide +kernel
theorem dX2_findTreeFlows_103 : decode cX2_findTreeFlows 103 = .ok (.iaload, 1) := by decide +kernel
theorem dX2_findTreeFlows_104 : decode cX2_findTreeFlows 104 = .ok (.invokevirtual 153, 3) := by decide +kernel
theorem dX2_findTreeFlows_107 : decode cX2_findTreeFlows 107 = .ok (.iinc 3 (-1), 3) := by decide +kernel
theorem dX2_findTreeFlows_110 : decode cX2_findTreeFlows 110 = .ok (.goto (-80), 3) := by decide +kernel
theorem dX2_findTreeFlows_113 : decode cX2_findTreeFlows 113 = .ok (.return_, 1) := by decide +kernel
theorem dX2_findLoopFlows_0 : decode cX2_findLoopFlows 0 = .ok (.aload_n 0, 1) := by decide +kernel
theorem dX2_findLoopFlows_1 : decode cX2_findLoopFlows 1 = .ok (.lconst 0, 1) := by decide +kernel
theorem dX2_findLoopFlows_2 : decode cX2_findLoopFlows 2 = .ok (.putfield 49, 3) := by decide +kernel
theorem dX2_findLoopFlows_5 : decode cX2_findLoopFlows 5 = .ok (.aload_n 2, 1) := by decide +kernel
theorem dX2_findLoopFlows_6 : decode cX2_findLoopFlows 6 = .ok (.getfield 157, 3) := by decide +kernel
theorem dX2_findLoopFlows_9 : decode cX2_findLoopFlows 9 = .ok (.ifCond .ne 4, 3) := by decide +kernel
theorem dX2_findLoopFlows_12 : decode cX2_findLoopFlows 12 = .ok (.return_, 1) := by decide +kernel
theorem dX2_findLoopFlows_13 : decode cX2_findLoopFlows 13 = .ok (.iconst 0, 1) := by decide +kernel
theorem dX2_findLoopFlows_14 : decode cX2_findLoopFlows 14 = .ok (.istore_n 3, 1) := by decide +kernel
theorem dX2_findLoopFlows_15 : decode cX2_findLoopFlows 15 = .ok (.iconst 0, 1) := by decide +kernel
theorem dX2_findLoopFlows_16 : decode cX2_findLoopFlows 16 = .ok (.istore 4, 2) := by decide +kernel
theorem dX2_findLoopFlows_18 : decode cX2_findLoopFlows 18 = .ok (.iconst 1, 1) := by decide +kernel
theorem dX2_findLoopFlows_19 : decode cX2_findLoopFlows 19 = .ok (.istore 5, 2) := by decide +kernel
theorem dX2_findLoopFlows_21 : decode cX2_findLoopFlows 21 = .ok (.iload 5, 2) := by decide +kernel
theorem dX2_findLoopFlows_23 : decode cX2_findLoopFlows 23 = .ok (.aload_n 2, 1) := by decide +kernel
theorem dX2_findLoopFlows_24 : decode cX2_findLoopFlows 24 = .ok (.getfield 157, 3) := by decide +kernel
theorem dX2_findLoopFlows_27 : decode cX2_findLoopFlows 27 = .ok (.if_icmp .ge 26, 3) := by decide +kernel
theorem dX2_findLoopFlows_30 : decode cX2_findLoopFlows 30 = .ok (.iload 4, 2) := by decide +kernel
theorem dX2_findLoopFlows_32 : decode cX2_findLoopFlows 32 = .ok (.aload_n 0, 1) := by decide +kernel
theorem dX2_findLoopFlows_33 : decode cX2_findLoopFlows 33 = .ok (.getfield 21, 3) := by decide +kernel
theorem dX2_findLoopFlows_36 : decode cX2_findLoopFlows 36 = .ok (.aload_n 2, 1) := by decide +kernel
theorem dX2_findLoopFlows_37 : decode cX2_findLoopFlows 37 = .ok (.getfield 160, 3) := by decide +kernel
theorem dX2_findLoopFlows_40 : decode cX2_findLoopFlows 40 = .ok (.iload 5, 2) := by decide +kernel
theorem dX2_findLoopFlows_42 : decode cX2_findLoopFlows 42 = .ok (.iaload, 1) := by decide +kernel
theorem dX2_findLoopFlows_43 : decode cX2_findLoopFlows 43 = .ok (.iaload, 1) := by decide +kernel
theorem dX2_findLoopFlows_44 : decode cX2_findLoopFlows 44 = .ok (.iadd, 1) := by decide +kernel
theorem dX2_findLoopFlows_45 : decode cX2_findLoopFlows 45 = .ok (.istore 4, 2) := by decide +kernel
theorem dX2_findLoopFlows_47 : decode cX2_findLoopFlows 47 = .ok (.iinc 5 1, 3) := by decide +kernel
theorem dX2_findLoopFlows_50 : decode cX2_findLoopFlows 50 = .ok (.goto (-29), 3) := by decide +kernel
theorem dX2_findLoopFlows_53 : decode cX2_findLoopFlows 53 = .ok (.iconst 0, 1) := by decide +kernel
theorem dX2_findLoopFlows_54 : decode cX2_findLoopFlows 54 = .ok (.istore 5, 2) := by decide +kernel
theorem dX2_findLoopFlows_56 : decode cX2_findLoopFlows 56 = .ok (.iload 5, 2) := by decide +kernel
theorem dX2_findLoopFlows_58 : decode cX2_findLoopFlows 58 = .ok (.bipush 32, 2) := by decide +kernel
theorem dX2_findLoopFlows_60 : decode cX2_findLoopFlows 60 = .ok (.if_icmp .ge 48, 3) := by decide +kernel
theorem dX2_findLoopFlows_63 : decode cX2_findLoopFlows 63 = .ok (.iload_n 3, 1) := by decide +kernel
theorem dX2_findLoopFlows_64 : decode cX2_findLoopFlows 64 = .ok (.iload 4, 2) := by decide +kernel
theorem dX2_findLoopFlows_66 : decode cX2_findLoopFlows 66 = .ok (.if_icmp .ge 42, 3) := by decide +kernel
theorem dX2_findLoopFlows_69 : decode cX2_findLoopFlows 69 = .ok (.iload_n 3, 1) := by decide +kernel
theorem dX2_findLoopFlows_70 : decode cX2_findLoopFlows 70 = .ok (.iload 4, 2) := by decide +kernel
theorem dX2_findLoopFlows_72 : decode cX2_findLoopFlows 72 = .ok (.iadd, 1) := by decide +kernel
theorem dX2_findLoopFlows_73 : decode cX2_findLoopFlows 73 = .ok (.iconst 2, 1) := by decide +kernel
theorem dX2_findLoopFlows_74 : decode cX2_findLoopFlows 74 = .ok (.idiv, 1) := by decide +kernel
theorem dX2_findLoopFlows_75 : decode cX2_findLoopFlows 75 = .ok (.istore 6, 2) := by decide +kernel
theorem dX2_findLoopFlows_77 : decode cX2_findLoopFlows 77 = .ok (.aload_n 0, 1) := by decide +kernel
theorem dX2_findLoopFlows_78 : decode cX2_findLoopFlows 78 = .ok (.aload_n 1, 1) := by decide +kernel
theorem dX2_findLoopFlows_79 : decode cX2_findLoopFlows 79 = .ok (.aload_n 2, 1) := by decide +kernel
theorem dX2_findLoopFlows_80 : decode cX2_findLoopFlows 80 = .ok (.iload 6, 2) := by decide +kernel
theorem dX2_findLoopFlows_82 : decode cX2_findLoopFlows 82 = .ok (.invokevirtual 163, 3) := by decide +kernel
theorem dX2_findLoopFlows_85 : decode cX2_findLoopFlows 85 = .ok (.lconst 0, 1) := by decide +kernel
theorem dX2_findLoopFlows_86 : decode cX2_findLoopFlows 86 = .ok (.lcmp, 1) := by decide +kernel
theorem dX2_findLoopFlows_87 : decode cX2_findLoopFlows 87 = .ok (.ifCond .lt 10, 3) := by decide +kernel
theorem dX2_findLoopFlows_90 : decode cX2_findLoopFlows 90 = .ok (.iload 6, 2) := by decide +kernel
theorem dX2_findLoopFlows_92 : decode cX2_findLoopFlows 92 = .ok (.istore 4, 2) := by decide +kernel
theorem dX2_findLoopFlows_94 : decode cX2_findLoopFlows 94 = .ok (.goto 8, 3) := by decide +kernel
theorem dX2_findLoopFlows_97 : decode cX2_findLoopFlows 97 = .ok (.iload 6, 2) := by decide +kernel
theorem dX2_findLoopFlows_99 : decode cX2_findLoopFlows 99 = .ok (.iconst 1, 1) := by decide +kernel
theorem dX2_findLoopFlows_100 : decode cX2_findLoopFlows 100 = .ok (.iadd, 1) := by decide +kernel
theorem dX2_findLoopFlows_101 : decode cX2_findLoopFlows 101 = .ok (.istore_n 3, 1) := by decide +kernel
theorem dX2_findLoopFlows_102 : decode cX2_findLoopFlows 102 = .ok (.iinc 5 1, 3) := by decide +kernel
theorem dX2_findLoopFlows_105 : decode cX2_findLoopFlows 105 = .ok (.goto (-49), 3) := by decide +kernel
theorem dX2_findLoopFlows_108 : decode cX2_findLoopFlows 108 = .ok (.aload_n 0, 1) := by decide +kernel
theorem dX2_findLoopFlows_109 : decode cX2_findLoopFlows 109 = .ok (.aload_n 0, 1) := by decide +kernel
theorem dX2_findLoopFlows_110 : decode cX2_findLoopFlows 110 = .ok (.aload_n 1, 1) := by decide +kernel
theorem dX2_findLoopFlows_111 : decode cX2_findLoopFlows 111 = .ok (.aload_n 2, 1) := by decide +kernel
theorem dX2_findLoopFlows_112 : decode cX2_findLoopFlows 112 = .ok (.iload_n 3, 1) := by decide +kernel
theorem dX2_findLoopFlows_113 : decode cX2_findLoopFlows 113 = .ok (.invokevirtual 163, 3) := by decide +kernel
theorem dX2_findLoopFlows_116 : decode cX2_findLoopFlows 116 = .ok (.putfield 49, 3) := by decide +kernel
theorem dX2_findLoopFlows_119 : decode cX2_findLoopFlows 119 = .ok (.iconst 0, 1) := by decide +kernel
theorem dX2_findLoopFlows_120 : decode cX2_findLoopFlows 120 = .ok (.istore 5, 2) := by decide +kernel
theorem dX2_findLoopFlows_122 : decode cX2_findLoopFlows 122 = .ok (.iload 5, 2) := by decide +kernel
theorem dX2_findLoopFlows_124 : decode cX2_findLoopFlows 124 = .ok (.aload_n 2, 1) := by decide +kernel
theorem dX2_findLoopFlows_125 : decode cX2_findLoopFlows 125 = .ok (.getfield 157, 3) := by decide +kernel
theorem dX2_findLoopFlows_128 : decode cX2_findLoopFlows 128 = .ok (.if_icmp .ge 35, 3) := by decide +kernel
theorem dX2_findLoopFlows_131 : decode cX2_findLoopFlows 131 = .ok (.aload_n 0, 1) := by decide +kernel
theorem dX2_findLoopFlows_132 : decode cX2_findLoopFlows 132 = .ok (.aload_n 1, 1) := by decide +kernel
theorem dX2_findLoopFlows_133 : decode cX2_findLoopFlows 133 = .ok (.aload_n 2, 1) := by decide +kernel
theorem dX2_findLoopFlows_134 : decode cX2_findLoopFlows 134 = .ok (.getfield 167, 3) := by decide +kernel
theorem dX2_findLoopFlows_137 : decode cX2_findLoopFlows 137 = .ok (.iload 5, 2) := by decide +kernel
theorem dX2_findLoopFlows_139 : decode cX2_findLoopFlows 139 = .ok (.iaload, 1) := by decide +kernel
theorem dX2_findLoopFlows_140 : decode cX2_findLoopFlows 140 = .ok (.aload_n 2, 1) := by decide +kernel
theorem dX2_findLoopFlows_141 : decode cX2_findLoopFlows 141 = .ok (.getfield 160, 3) := by decide +kernel
theorem dX2_findLoopFlows_144 : decode cX2_findLoopFlows 144 = .ok (.iload 5, 2) := by decide +kernel
theorem dX2_findLoopFlows_146 : decode cX2_findLoopFlows 146 = .ok (.iaload, 1) := by decide +kernel
theorem dX2_findLoopFlows_147 : decode cX2_findLoopFlows 147 = .ok (.aload_n 0, 1) := by decide +kernel
theorem dX2_findLoopFlows_148 : decode cX2_findLoopFlows 148 = .ok (.getfield 18, 3) := by decide +kernel
theorem dX2_findLoopFlows_151 : decode cX2_findLoopFlows 151 = .ok (.iload 5, 2) := by decide +kernel
theorem dX2_findLoopFlows_153 : decode cX2_findLoopFlows 153 = .ok (.iaload, 1) := by decide +kernel
theorem dX2_findLoopFlows_154 : decode cX2_findLoopFlows 154 = .ok (.invokevirtual 153, 3) := by decide +kernel
theorem dX2_findLoopFlows_157 : decode cX2_findLoopFlows 157 = .ok (.iinc 5 1, 3) := by decide +kernel
theorem dX2_findLoopFlows_160 : decode cX2_findLoopFlows 160 = .ok (.goto (-38), 3) := by decide +kernel
theorem dX2_findLoopFlows_163 : decode cX2_findLoopFlows 163 = .ok (.return_, 1) := by decide +kernel
theorem dX2_sendRound_0 : decode cX2_sendRound 0 = .ok (.iload_n 3, 1) := by decide +kernel
theorem dX2_sendRound_1 : decode cX2_sendRound 1 = .ok (.istore 4, 2) := by decide +kernel
theorem dX2_sendRound_3 : decode cX2_sendRound 3 = .ok (.lconst 0, 1) := by decide +kernel
theorem dX2_sendRound_4 : decode cX2_sendRound 4 = .ok (.lstore 5, 2) := by decide +kernel
theorem dX2_sendRound_6 : decode cX2_sendRound 6 = .ok (.iconst 0, 1) := by decide +kernel
theorem dX2_sendRound_7 : decode cX2_sendRound 7 = .ok (.istore 7, 2) := by decide +kernel
theorem dX2_sendRound_9 : decode cX2_sendRound 9 = .ok (.iload 7, 2) := by decide +kernel
theorem dX2_sendRound_11 : decode cX2_sendRound 11 = .ok (.aload_n 2, 1) := by decide +kernel
theorem dX2_sendRound_12 : decode cX2_sendRound 12 = .ok (.getfield 157, 3) := by decide +kernel
theorem dX2_sendRound_15 : decode cX2_sendRound 15 = .ok (.if_icmp .ge 58, 3) := by decide +kernel
theorem dX2_sendRound_18 : decode cX2_sendRound 18 = .ok (.iload 7, 2) := by decide +kernel
theorem dX2_sendRound_20 : decode cX2_sendRound 20 = .ok (.ifCond .le 20, 3) := by decide +kernel
theorem dX2_sendRound_23 : decode cX2_sendRound 23 = .ok (.iload 4, 2) := by decide +kernel
theorem dX2_sendRound_25 : decode cX2_sendRound 25 = .ok (.aload_n 0, 1) := by decide +kernel
theorem dX2_sendRound_26 : decode cX2_sendRound 26 = .ok (.getfield 21, 3) := by decide +kernel
theorem dX2_sendRound_29 : decode cX2_sendRound 29 = .ok (.aload_n 2, 1) := by decide +kernel
theorem dX2_sendRound_30 : decode cX2_sendRound 30 = .ok (.getfield 160, 3) := by decide +kernel
theorem dX2_sendRound_33 : decode cX2_sendRound 33 = .ok (.iload 7, 2) := by decide +kernel
theorem dX2_sendRound_35 : decode cX2_sendRound 35 = .ok (.iaload, 1) := by decide +kernel
theorem dX2_sendRound_36 : decode cX2_sendRound 36 = .ok (.iaload, 1) := by decide +kernel
theorem dX2_sendRound_37 : decode cX2_sendRound 37 = .ok (.isub, 1) := by decide +kernel
theorem dX2_sendRound_38 : decode cX2_sendRound 38 = .ok (.istore 4, 2) := by decide +kernel
theorem dX2_sendRound_40 : decode cX2_sendRound 40 = .ok (.aload_n 0, 1) := by decide +kernel
theorem dX2_sendRound_41 : decode cX2_sendRound 41 = .ok (.getfield 18, 3) := by decide +kernel
theorem dX2_sendRound_44 : decode cX2_sendRound 44 = .ok (.iload 7, 2) := by decide +kernel
theorem dX2_sendRound_46 : decode cX2_sendRound 46 = .ok (.iload 4, 2) := by decide +kernel
theorem dX2_sendRound_48 : decode cX2_sendRound 48 = .ok (.iastore, 1) := by decide +kernel
theorem dX2_sendRound_49 : decode cX2_sendRound 49 = .ok (.lload 5, 2) := by decide +kernel
theorem dX2_sendRound_51 : decode cX2_sendRound 51 = .ok (.aload_n 1, 1) := by decide +kernel
theorem dX2_sendRound_52 : decode cX2_sendRound 52 = .ok (.aload_n 2, 1) := by decide +kernel
theorem dX2_sendRound_53 : decode cX2_sendRound 53 = .ok (.getfield 167, 3) := by decide +kernel
theorem dX2_sendRound_56 : decode cX2_sendRound 56 = .ok (.iload 7, 2) := by decide +kernel
theorem dX2_sendRound_58 : decode cX2_sendRound 58 = .ok (.iaload, 1) := by decide +kernel
theorem dX2_sendRound_59 : decode cX2_sendRound 59 = .ok (.iload 4, 2) := by decide +kernel
theorem dX2_sendRound_61 : decode cX2_sendRound 61 = .ok (.invokevirtual 170, 3) := by decide +kernel
theorem dX2_sendRound_64 : decode cX2_sendRound 64 = .ok (.ladd, 1) := by decide +kernel
theorem dX2_sendRound_65 : decode cX2_sendRound 65 = .ok (.lstore 5, 2) := by decide +kernel
theorem dX2_sendRound_67 : decode cX2_sendRound 67 = .ok (.iinc 7 1, 3) := by decide +kernel
theorem dX2_sendRound_70 : decode cX2_sendRound 70 = .ok (.goto (-61), 3) := by decide +kernel
theorem dX2_sendRound_73 : decode cX2_sendRound 73 = .ok (.lload 5, 2) := by decide +kernel
theorem dX2_sendRound_75 : decode cX2_sendRound 75 = .ok (.lreturn, 1) := by decide +kernel
theorem dX2_carry_0 : decode cX2_carry 0 = .ok (.iload_n 2, 1) := by decide +kernel
theorem dX2_carry_1 : decode cX2_carry 1 = .ok (.invokestatic 174, 3) := by decide +kernel
theorem dX2_carry_4 : decode cX2_carry 4 = .ok (.ifCond .eq 27, 3) := by decide +kernel
theorem dX2_carry_7 : decode cX2_carry 7 = .ok (.aload_n 0, 1) := by decide +kernel
theorem dX2_carry_8 : decode cX2_carry 8 = .ok (.getfield 15, 3) := by decide +kernel
theorem dX2_carry_11 : decode cX2_carry 11 = .ok (.iload_n 2, 1) := by decide +kernel
theorem dX2_carry_12 : decode cX2_carry 12 = .ok (.aload_n 1, 1) := by decide +kernel
theorem dX2_carry_13 : decode cX2_carry 13 = .ok (.getfield 177, 3) := by decide +kernel
theorem dX2_carry_16 : decode cX2_carry 16 = .ok (.iload_n 2, 1) := by decide +kernel
theorem dX2_carry_17 : decode cX2_carry 17 = .ok (.iaload, 1) := by decide +kernel
theorem dX2_carry_18 : decode cX2_carry 18 = .ok (.iload_n 3, 1) := by decide +kernel
theorem dX2_carry_19 : decode cX2_carry 19 = .ok (.if_icmp .ne 8, 3) := by decide +kernel
theorem dX2_carry_22 : decode cX2_carry 22 = .ok (.iload 4, 2) := by decide +kernel
theorem dX2_carry_24 : decode cX2_carry 24 = .ok (.goto 6, 3) := by decide +kernel
theorem dX2_carry_27 : decode cX2_carry 27 = .ok (.iload 4, 2) := by decide +kernel
theorem dX2_carry_29 : decode cX2_carry 29 = .ok (.ineg, 1) := by decide +kernel
theorem dX2_carry_30 : decode cX2_carry 30 = .ok (.iastore, 1) := by decide +kernel
theorem dX2_carry_31 : decode cX2_carry 31 = .ok (.return_, 1) := by decide +kernel
theorem dX2_findWaterOrder_0 : decode cX2_findWaterOrder 0 = .ok (.iconst 0, 1) := by decide +kernel
theorem dX2_findWaterOrder_1 : decode cX2_findWaterOrder 1 = .ok (.istore_n 2, 1) := by decide +kernel
theorem dX2_findWaterOrder_2 : decode cX2_findWaterOrder 2 = .ok (.iconst 0, 1) := by decide +kernel
theorem dX2_findWaterOrder_3 : decode cX2_findWaterOrder 3 = .ok (.istore_n 3, 1) := by decide +kernel
theorem dX2_findWaterOrder_4 : decode cX2_findWaterOrder 4 = .ok (.iload_n 3, 1) := by decide +kernel
theorem dX2_findWaterOrder_5 : decode cX2_findWaterOrder 5 = .ok (.aload_n 1, 1) := by decide +kernel
theorem dX2_findWaterOrder_6 : decode cX2_findWaterOrder 6 = .ok (.getfield 103, 3) := by decide +kernel
theorem dX2_findWaterOrder_9 : decode cX2_findWaterOrder 9 = .ok (.if_icmp .ge 51, 3) := by decide +kernel
theorem dX2_findWaterOrder_12 : decode cX2_findWaterOrder 12 = .ok (.aload_n 1, 1) := by decide +kernel
theorem dX2_findWaterOrder_13 : decode cX2_findWaterOrder 13 = .ok (.getfield 108, 3) := by decide +kernel
theorem dX2_findWaterOrder_16 : decode cX2_findWaterOrder 16 = .ok (.iload_n 3, 1) := by decide +kernel
theorem dX2_findWaterOrder_17 : decode cX2_findWaterOrder 17 = .ok (.iaload, 1) := by decide +kernel
theorem dX2_findWaterOrder_18 : decode cX2_findWaterOrder 18 = .ok (.istore 4, 2) := by decide +kernel
theorem dX2_findWaterOrder_20 : decode cX2_findWaterOrder 20 = .ok (.aload_n 1, 1) := by decide +kernel
theorem dX2_findWaterOrder_21 : decode cX2_findWaterOrder 21 = .ok (.getfield 147, 3) := by decide +kernel
theorem dX2_findWaterOrder_24 : decode cX2_findWaterOrder 24 = .ok (.iload 4, 2) := by decide +kernel
theorem dX2_findWaterOrder_26 : decode cX2_findWaterOrder 26 = .ok (.iaload, 1) := by decide +kernel
theorem dX2_findWaterOrder_27 : decode cX2_findWaterOrder 27 = .ok (.ifCond .ge 11, 3) := by decide +kernel
theorem dX2_findWaterOrder_30 : decode cX2_findWaterOrder 30 = .ok (.aload_n 0, 1) := by decide +kernel
theorem dX2_findWaterOrder_31 : decode cX2_findWaterOrder 31 = .ok (.iload 4, 2) := by decide +kernel
theorem dX2_findWaterOrder_33 : decode cX2_findWaterOrder 33 = .ok (.iload_n 2, 1) := by decide +kernel
theorem dX2_findWaterOrder_34 : decode cX2_findWaterOrder 34 = .ok (.invokevirtual 180, 3) := by decide +kernel
theorem dX2_findWaterOrder_37 : decode cX2_findWaterOrder 37 = .ok (.istore_n 2, 1) := by decide +kernel
theorem dX2_findWaterOrder_38 : decode cX2_findWaterOrder 38 = .ok (.aload_n 1, 1) := by decide +kernel
theorem dX2_findWaterOrder_39 : decode cX2_findWaterOrder 39 = .ok (.iload 4, 2) := by decide +kernel
theorem dX2_findWaterOrder_41 : decode cX2_findWaterOrder 41 = .ok (.invokevirtual 183, 3) := by decide +kernel
theorem dX2_findWaterOrder_44 : decode cX2_findWaterOrder 44 = .ok (.ifCond .eq 10, 3) := by decide +kernel
theorem dX2_findWaterOrder_47 : decode cX2_findWaterOrder 47 = .ok (.aload_n 0, 1) := by decide +kernel
theorem dX2_findWaterOrder_48 : decode cX2_findWaterOrder 48 = .ok (.aload_n 1, 1) := by decide +kernel
theorem dX2_findWaterOrder_49 : decode cX2_findWaterOrder 49 = .ok (.iload_n 2, 1) := by decide +kernel
theorem dX2_findWaterOrder_50 : decode cX2_findWaterOrder 50 = .ok (.invokevirtual 186, 3) := by decide +kernel
theorem dX2_findWaterOrder_53 : decode cX2_findWaterOrder 53 = .ok (.istore_n 2, 1) := by decide +kernel
theorem dX2_findWaterOrder_54 : decode cX2_findWaterOrder 54 = .ok (.iinc 3 1, 3) := by decide +kernel
theorem dX2_findWaterOrder_57 : decode cX2_findWaterOrder 57 = .ok (.goto (-53), 3) := by decide +kernel
theorem dX2_findWaterOrder_60 : decode cX2_findWaterOrder 60 = .ok (.return_, 1) := by decide +kernel
theorem dX2_putLoopInOrder_0 : decode cX2_putLoopInOrder 0 = .ok (.iload_n 2, 1) := by decide +kernel
theorem dX2_putLoopInOrder_1 : decode cX2_putLoopInOrder 1 = .ok (.istore_n 3, 1) := by decide +kernel
theorem dX2_putLoopInOrder_2 : decode cX2_putLoopInOrder 2 = .ok (.iconst 1, 1) := by decide +kernel
theorem dX2_putLoopInOrder_3 : decode cX2_putLoopInOrder 3 = .ok (.istore 4, 2) := by decide +kernel
theorem dX2_putLoopInOrder_5 : decode cX2_putLoopInOrder 5 = .ok (.iload 4, 2) := by decide +kernel
theorem dX2_putLoopInOrder_7 : decode cX2_putLoopInOrder 7 = .ok (.aload_n 1, 1) := by decide +kernel
theorem dX2_putLoopInOrder_8 : decode cX2_putLoopInOrder 8 = .ok (.getfield 157, 3) := by decide +kernel
theorem dX2_putLoopInOrder_11 : decode cX2_putLoopInOrder 11 = .ok (.if_icmp .ge 32, 3) := by decide +kernel
theorem dX2_putLoopInOrder_14 : decode cX2_putLoopInOrder 14 = .ok (.aload_n 0, 1) := by decide +kernel
theorem dX2_putLoopInOrder_15 : decode cX2_putLoopInOrder 15 = .ok (.getfield 18, 3) := by decide +kernel
theorem dX2_putLoopInOrder_18 : decode cX2_putLoopInOrder 18 = .ok (.iload 4, 2) := by decide +kernel
theorem dX2_putLoopInOrder_20 : decode cX2_putLoopInOrder 20 = .ok (.iaload, 1) := by decide +kernel
theorem dX2_putLoopInOrder_21 : decode cX2_putLoopInOrder 21 = .ok (.ifCond .lt 16, 3) := by decide +kernel
theorem dX2_putLoopInOrder_24 : decode cX2_putLoopInOrder 24 = .ok (.aload_n 0, 1) := by decide +kernel
theorem dX2_putLoopInOrder_25 : decode cX2_putLoopInOrder 25 = .ok (.aload_n 1, 1) := by decide +kernel
theorem dX2_putLoopInOrder_26 : decode cX2_putLoopInOrder 26 = .ok (.getfield 160, 3) := by decide +kernel
theorem dX2_putLoopInOrder_29 : decode cX2_putLoopInOrder 29 = .ok (.iload 4, 2) := by decide +kernel
theorem dX2_putLoopInOrder_31 : decode cX2_putLoopInOrder 31 = .ok (.iaload, 1) := by decide +kernel
theorem dX2_putLoopInOrder_32 : decode cX2_putLoopInOrder 32 = .ok (.iload_n 3, 1) := by decide +kernel
theorem dX2_putLoopInOrder_33 : decode cX2_putLoopInOrder 33 = .ok (.invokevirtual 180, 3) := by decide +kernel
theorem dX2_putLoopInOrder_36 : decode cX2_putLoopInOrder 36 = .ok (.istore_n 3, 1) := by decide +kernel
theorem dX2_putLoopInOrder_37 : decode cX2_putLoopInOrder 37 = .ok (.iinc 4 1, 3) := by decide +kernel
theorem dX2_putLoopInOrder_40 : decode cX2_putLoopInOrder 40 = .ok (.goto (-35), 3) := by decide +kernel
theorem dX2_putLoopInOrder_43 : decode cX2_putLoopInOrder 43 = .ok (.aload_n 1, 1) := by decide +kernel
theorem dX2_putLoopInOrder_44 : decode cX2_putLoopInOrder 44 = .ok (.getfield 157, 3) := by decide +kernel
theorem dX2_putLoopInOrder_47 : decode cX2_putLoopInOrder 47 = .ok (.iconst 1, 1) := by decide +kernel
theorem dX2_putLoopInOrder_48 : decode cX2_putLoopInOrder 48 = .ok (.isub, 1) := by decide +kernel
theorem dX2_putLoopInOrder_49 : decode cX2_putLoopInOrder 49 = .ok (.istore 4, 2) := by decide +kernel
theorem dX2_putLoopInOrder_51 : decode cX2_putLoopInOrder 51 = .ok (.iload 4, 2) := by decide +kernel
theorem dX2_putLoopInOrder_53 : decode cX2_putLoopInOrder 53 = .ok (.ifCond .le 32, 3) := by decide +kernel
theorem dX2_putLoopInOrder_56 : decode cX2_putLoopInOrder 56 = .ok (.aload_n 0, 1) := by decide +kernel
theorem dX2_putLoopInOrder_57 : decode cX2_putLoopInOrder 57 = .ok (.getfield 18, 3) := by decide +kernel
theorem dX2_putLoopInOrder_60 : decode cX2_putLoopInOrder 60 = .ok (.iload 4, 2) := by decide +kernel
theorem dX2_putLoopInOrder_62 : decode cX2_putLoopInOrder 62 = .ok (.iaload, 1) := by decide +kernel
theorem dX2_putLoopInOrder_63 : decode cX2_putLoopInOrder 63 = .ok (.ifCond .ge 16, 3) := by decide +kernel
theorem dX2_putLoopInOrder_66 : decode cX2_putLoopInOrder 66 = .ok (.aload_n 0, 1) := by decide +kernel
theorem dX2_putLoopInOrder_67 : decode cX2_putLoopInOrder 67 = .ok (.aload_n 1, 1) := by decide +kernel
theorem dX2_putLoopInOrder_68 : decode cX2_putLoopInOrder 68 = .ok (.getfield 160, 3) := by decide +kernel
theorem dX2_putLoopInOrder_71 : decode cX2_putLoopInOrder 71 = .ok (.iload 4, 2) := by decide +kernel
theorem dX2_putLoopInOrder_73 : decode cX2_putLoopInOrder 73 = .ok (.iaload, 1) := by decide +kernel
theorem dX2_putLoopInOrder_74 : decode cX2_putLoopInOrder 74 = .ok (.iload_n 3, 1) := by decide +kernel
theorem dX2_putLoopInOrder_75 : decode cX2_putLoopInOrder 75 = .ok (.invokevirtual 180, 3) := by decide +kernel
theorem dX2_putLoopInOrder_78 : decode cX2_putLoopInOrder 78 = .ok (.istore_n 3, 1) := by decide +kernel
theorem dX2_putLoopInOrder_79 : decode cX2_putLoopInOrder 79 = .ok (.iinc 4 (-1), 3) := by decide +kernel
theorem dX2_putLoopInOrder_82 : decode cX2_putLoopInOrder 82 = .ok (.goto (-31), 3) := by decide +kernel
theorem dX2_putLoopInOrder_85 : decode cX2_putLoopInOrder 85 = .ok (.iload_n 3, 1) := by decide +kernel
theorem dX2_putLoopInOrder_86 : decode cX2_putLoopInOrder 86 = .ok (.ireturn, 1) := by decide +kernel
theorem dX2_putInOrder_0 : decode cX2_putInOrder 0 = .ok (.iload_n 2, 1) := by decide +kernel
theorem dX2_putInOrder_1 : decode cX2_putInOrder 1 = .ok (.bipush 10, 2) := by decide +kernel
theorem dX2_putInOrder_3 : decode cX2_putInOrder 3 = .ok (.if_icmp .lt 5, 3) := by decide +kernel
theorem dX2_putInOrder_6 : decode cX2_putInOrder 6 = .ok (.iload_n 2, 1) := by decide +kernel
theorem dX2_putInOrder_7 : decode cX2_putInOrder 7 = .ok (.ireturn, 1) := by decide +kernel
theorem dX2_putInOrder_8 : decode cX2_putInOrder 8 = .ok (.aload_n 0, 1) := by decide +kernel
theorem dX2_putInOrder_9 : decode cX2_putInOrder 9 = .ok (.getfield 24, 3) := by decide +kernel
theorem dX2_putInOrder_12 : decode cX2_putInOrder 12 = .ok (.iload_n 2, 1) := by decide +kernel
theorem dX2_putInOrder_13 : decode cX2_putInOrder 13 = .ok (.iload_n 1, 1) := by decide +kernel
theorem dX2_putInOrder_14 : decode cX2_putInOrder 14 = .ok (.iastore, 1) := by decide +kernel
theorem dX2_putInOrder_15 : decode cX2_putInOrder 15 = .ok (.iload_n 2, 1) := by decide +kernel
theorem dX2_putInOrder_16 : decode cX2_putInOrder 16 = .ok (.iconst 1, 1) := by decide +kernel
theorem dX2_putInOrder_17 : decode cX2_putInOrder 17 = .ok (.iadd, 1) := by decide +kernel
theorem dX2_putInOrder_18 : decode cX2_putInOrder 18 = .ok (.ireturn, 1) := by decide +kernel
theorem dX2_findTemperatures_0 : decode cX2_findTemperatures 0 = .ok (.aload_n 0, 1) := by decide +kernel
theorem dX2_findTemperatures_1 : decode cX2_findTemperatures 1 = .ok (.getfield 27, 3) := by decide +kernel
theorem dX2_findTemperatures_4 : decode cX2_findTemperatures 4 = .ok (.aload_n 1, 1) := by decide +kernel
theorem dX2_findTemperatures_5 : decode cX2_findTemperatures 5 = .ok (.getfield 57, 3) := by decide +kernel
theorem dX2_findTemperatures_8 : decode cX2_findTemperatures 8 = .ok (.iconst 1, 1) := by decide +kernel
theorem dX2_findTemperatures_9 : decode cX2_findTemperatures 9 = .ok (.iaload, 1) := by decide +kernel
theorem dX2_findTemperatures_10 : decode cX2_findTemperatures 10 = .ok (.invokestatic 62, 3) := by decide +kernel
theorem dX2_findTemperatures_13 : decode cX2_findTemperatures 13 = .ok (.aload_n 0, 1) := by decide +kernel
theorem dX2_findTemperatures_14 : decode cX2_findTemperatures 14 = .ok (.getfield 40, 3) := by decide +kernel
theorem dX2_findTemperatures_17 : decode cX2_findTemperatures 17 = .ok (.lconst 0, 1) := by decide +kernel
theorem dX2_findTemperatures_18 : decode cX2_findTemperatures 18 = .ok (.invokestatic 190, 3) := by decide +kernel
theorem dX2_findTemperatures_21 : decode cX2_findTemperatures 21 = .ok (.aload_n 0, 1) := by decide +kernel
theorem dX2_findTemperatures_22 : decode cX2_findTemperatures 22 = .ok (.getfield 43, 3) := by decide +kernel
theorem dX2_findTemperatures_25 : decode cX2_findTemperatures 25 = .ok (.lconst 0, 1) := by decide +kernel
theorem dX2_findTemperatures_26 : decode cX2_findTemperatures 26 = .ok (.invokestatic 190, 3) := by decide +kernel
theorem dX2_findTemperatures_29 : decode cX2_findTemperatures 29 = .ok (.aload_n 0, 1) := by decide +kernel
theorem dX2_findTemperatures_30 : decode cX2_findTemperatures 30 = .ok (.getfield 27, 3) := by decide +kernel
theorem dX2_findTemperatures_33 : decode cX2_findTemperatures 33 = .ok (.iconst 0, 1) := by decide +kernel
theorem dX2_findTemperatures_34 : decode cX2_findTemperatures 34 = .ok (.aload_n 1, 1) := by decide +kernel
theorem dX2_findTemperatures_35 : decode cX2_findTemperatures 35 = .ok (.getfield 57, 3) := by decide +kernel
theorem dX2_findTemperatures_38 : decode cX2_findTemperatures 38 = .ok (.iconst 0, 1) := by decide +kernel
theorem dX2_findTemperatures_39 : decode cX2_findTemperatures 39 = .ok (.iaload, 1) := by decide +kernel
theorem dX2_findTemperatures_40 : decode cX2_findTemperatures 40 = .ok (.iastore, 1) := by decide +kernel
theorem dX2_findTemperatures_41 : decode cX2_findTemperatures 41 = .ok (.iconst 1, 1) := by decide +kernel
theorem dX2_findTemperatures_42 : decode cX2_findTemperatures 42 = .ok (.istore_n 3, 1) := by decide +kernel
theorem dX2_findTemperatures_43 : decode cX2_findTemperatures 43 = .ok (.iload_n 3, 1) := by decide +kernel
theorem dX2_findTemperatures_44 : decode cX2_findTemperatures 44 = .ok (.aload_n 2, 1) := by decide +kernel
theorem dX2_findTemperatures_45 : decode cX2_findTemperatures 45 = .ok (.getfield 103, 3) := by decide +kernel
theorem dX2_findTemperatures_48 : decode cX2_findTemperatures 48 = .ok (.if_icmp .ge 110, 3) := by decide +kernel
theorem dX2_findTemperatures_51 : decode cX2_findTemperatures 51 = .ok (.aload_n 0, 1) := by decide +kernel
theorem dX2_findTemperatures_52 : decode cX2_findTemperatures 52 = .ok (.getfield 24, 3) := by decide +kernel
theorem dX2_findTemperatures_55 : decode cX2_findTemperatures 55 = .ok (.iload_n 3, 1) := by decide +kernel
theorem dX2_findTemperatures_56 : decode cX2_findTemperatures 56 = .ok (.iaload, 1) := by decide +kernel
theorem dX2_findTemperatures_57 : decode cX2_findTemperatures 57 = .ok (.istore 4, 2) := by decide +kernel
theorem dX2_findTemperatures_59 : decode cX2_findTemperatures 59 = .ok (.aload_n 2, 1) := by decide +kernel
theorem dX2_findTemperatures_60 : decode cX2_findTemperatures 60 = .ok (.getfield 150, 3) := by decide +kernel
theorem dX2_findTemperatures_63 : decode cX2_findTemperatures 63 = .ok (.iload 4, 2) := by decide +kernel
theorem dX2_findTemperatures_65 : decode cX2_findTemperatures 65 = .ok (.iaload, 1) := by decide +kernel
theorem dX2_findTemperatures_66 : decode cX2_findTemperatures 66 = .ok (.istore 5, 2) := by decide +kernel
theorem dX2_findTemperatures_68 : decode cX2_findTemperatures 68 = .ok (.aload_n 2, 1) := by decide +kernel
theorem dX2_findTemperatures_69 : decode cX2_findTemperatures 69 = .ok (.getfield 147, 3) := by decide +kernel
theorem dX2_findTemperatures_72 : decode cX2_findTemperatures 72 = .ok (.iload 4, 2) := by decide +kernel
theorem dX2_findTemperatures_74 : decode cX2_findTemperatures 74 = .ok (.iaload, 1) := by decide +kernel
theorem dX2_findTemperatures_75 : decode cX2_findTemperatures 75 = .ok (.istore 6, 2) := by decide +kernel
theorem dX2_findTemperatures_77 : decode cX2_findTemperatures 77 = .ok (.aload_n 0, 1) := by decide +kernel
theorem dX2_findTemperatures_78 : decode cX2_findTemperatures 78 = .ok (.aload_n 1, 1) := by decide +kernel
theorem dX2_findTemperatures_79 : decode cX2_findTemperatures 79 = .ok (.iload 5, 2) := by decide +kernel
theorem dX2_findTemperatures_81 : decode cX2_findTemperatures 81 = .ok (.iload 4, 2) := by decide +kernel
theorem dX2_findTemperatures_83 : decode cX2_findTemperatures 83 = .ok (.invokevirtual 193, 3) := by decide +kernel
theorem dX2_findTemperatures_86 : decode cX2_findTemperatures 86 = .ok (.aload_n 0, 1) := by decide +kernel
theorem dX2_findTemperatures_87 : decode cX2_findTemperatures 87 = .ok (.aload_n 1, 1) := by decide +kernel
theorem dX2_findTemperatures_88 : decode cX2_findTemperatures 88 = .ok (.iload 6, 2) := by decide +kernel
theorem dX2_findTemperatures_90 : decode cX2_findTemperatures 90 = .ok (.iload 4, 2) := by decide +kernel
theorem dX2_findTemperatures_92 : decode cX2_findTemperatures 92 = .ok (.invokevirtual 193, 3) := by decide +kernel
theorem dX2_findTemperatures_95 : decode cX2_findTemperatures 95 = .ok (.ladd, 1) := by decide +kernel
theorem dX2_findTemperatures_96 : decode cX2_findTemperatures 96 = .ok (.lstore 7, 2) := by decide +kernel
theorem dX2_findTemperatures_98 : decode cX2_findTemperatures 98 = .ok (.aload_n 0, 1) := by decide +kernel
theorem dX2_findTemperatures_99 : decode cX2_findTemperatures 99 = .ok (.aload_n 1, 1) := by decide +kernel
theorem dX2_findTemperatures_100 : decode cX2_findTemperatures 100 = .ok (.iload 5, 2) := by decide +kernel
theorem dX2_findTemperatures_102 : decode cX2_findTemperatures 102 = .ok (.iload 4, 2) := by decide +kernel
theorem dX2_findTemperatures_104 : decode cX2_findTemperatures 104 = .ok (.invokevirtual 197, 3) := by decide +kernel
theorem dX2_findTemperatures_107 : decode cX2_findTemperatures 107 = .ok (.aload_n 0, 1) := by decide +kernel
theorem dX2_findTemperatures_108 : decode cX2_findTemperatures 108 = .ok (.aload_n 1, 1) := by decide +kernel
theorem dX2_findTemperatures_109 : decode cX2_findTemperatures 109 = .ok (.iload 6, 2) := by decide +kernel
theorem dX2_findTemperatures_111 : decode cX2_findTemperatures 111 = .ok (.iload 4, 2) := by decide +kernel
theorem dX2_findTemperatures_113 : decode cX2_findTemperatures 113 = .ok (.invokevirtual 197, 3) := by decide +kernel
theorem dX2_findTemperatures_116 : decode cX2_findTemperatures 116 = .ok (.iadd, 1) := by decide +kernel
theorem dX2_findTemperatures_117 : decode cX2_findTemperatures 117 = .ok (.i2l, 1) := by decide +kernel
theorem dX2_findTemperatures_118 : decode cX2_findTemperatures 118 = .ok (.lstore 9, 2) := by decide +kernel
theorem dX2_findTemperatures_120 : decode cX2_findTemperatures 120 = .ok (.lload 9, 2) := by decide +kernel
theorem dX2_findTemperatures_122 : decode cX2_findTemperatures 122 = .ok (.lconst 0, 1) := by decide +kernel
theorem dX2_findTemperatures_123 : decode cX2_findTemperatures 123 = .ok (.lcmp, 1) := by decide +kernel
theorem dX2_findTemperatures_124 : decode cX2_findTemperatures 124 = .ok (.ifCond .le 28, 3) := by decide +kernel
theorem dX2_findTemperatures_127 : decode cX2_findTemperatures 127 = .ok (.aload_n 0, 1) := by decide +kernel
theorem dX2_findTemperatures_128 : decode cX2_findTemperatures 128 = .ok (.getfield 27, 3) := by decide +kernel
theorem dX2_findTemperatures_131 : decode cX2_findTemperatures 131 = .ok (.iload 4, 2) := by decide +kernel
theorem dX2_findTemperatures_133 : decode cX2_findTemperatures 133 = .ok (.lload 7, 2) := by decide +kernel
theorem dX2_findTemperatures_135 : decode cX2_findTemperatures 135 = .ok (.lload 9, 2) := by decide +kernel
theorem dX2_findTemperatures_137 : decode cX2_findTemperatures 137 = .ok (.ldiv, 1) := by decide +kernel
theorem dX2_findTemperatures_138 : decode cX2_findTemperatures 138 = .ok (.l2i, 1) := by decide +kernel
theorem dX2_findTemperatures_139 : decode cX2_findTemperatures 139 = .ok (.iastore, 1) := by decide +kernel
theorem dX2_findTemperatures_140 : decode cX2_findTemperatures 140 = .ok (.aload_n 0, 1) := by decide +kernel
theorem dX2_findTemperatures_141 : decode cX2_findTemperatures 141 = .ok (.getfield 40, 3) := by decide +kernel
theorem dX2_findTemperatures_144 : decode cX2_findTemperatures 144 = .ok (.iload 4, 2) := by decide +kernel
theorem dX2_findTemperatures_146 : decode cX2_findTemperatures 146 = .ok (.lload 7, 2) := by decide +kernel
theorem dX2_findTemperatures_148 : decode cX2_findTemperatures 148 = .ok (.lload 9, 2) := by decide +kernel
theorem dX2_findTemperatures_150 : decode cX2_findTemperatures 150 = .ok (.lrem, 1) := by decide +kernel
theorem dX2_findTemperatures_151 : decode cX2_findTemperatures 151 = .ok (.lastore, 1) := by decide +kernel
theorem dX2_findTemperatures_152 : decode cX2_findTemperatures 152 = .ok (.iinc 3 1, 3) := by decide +kernel
theorem dX2_findTemperatures_155 : decode cX2_findTemperatures 155 = .ok (.goto (-112), 3) := by decide +kernel
theorem dX2_findTemperatures_158 : decode cX2_findTemperatures 158 = .ok (.return_, 1) := by decide +kernel
theorem dX2_flowTo_0 : decode cX2_flowTo 0 = .ok (.iload_n 2, 1) := by decide +kernel
theorem dX2_flowTo_1 : decode cX2_flowTo 1 = .ok (.invokestatic 174, 3) := by decide +kernel
theorem dX2_flowTo_4 : decode cX2_flowTo 4 = .ok (.ifCond .ne 5, 3) := by decide +kernel
theorem dX2_flowTo_7 : decode cX2_flowTo 7 = .ok (.iconst 0, 1) := by decide +kernel
theorem dX2_flowTo_8 : decode cX2_flowTo 8 = .ok (.ireturn, 1) := by decide +kernel
theorem dX2_flowTo_9 : decode cX2_flowTo 9 = .ok (.aload_n 1, 1) := by decide +kernel
theorem dX2_flowTo_10 : decode cX2_flowTo 10 = .ok (.getfield 201, 3) := by decide +kernel
theorem dX2_flowTo_13 : decode cX2_flowTo 13 = .ok (.iload_n 2, 1) := by decide +kernel
theorem dX2_flowTo_14 : decode cX2_flowTo 14 = .ok (.iaload, 1) := by decide +kernel
theorem dX2_flowTo_15 : decode cX2_flowTo 15 = .ok (.iload_n 3, 1) := by decide +kernel
theorem dX2_flowTo_16 : decode cX2_flowTo 16 = .ok (.if_icmp .ne 12, 3) := by decide +kernel
theorem dX2_flowTo_19 : decode cX2_flowTo 19 = .ok (.aload_n 0, 1) := by decide +kernel
theorem dX2_flowTo_20 : decode cX2_flowTo 20 = .ok (.getfield 15, 3) := by decide +kernel
theorem dX2_flowTo_23 : decode cX2_flowTo 23 = .ok (.iload_n 2, 1) := by decide +kernel
theorem dX2_flowTo_24 : decode cX2_flowTo 24 = .ok (.iaload, 1) := by decide +kernel
theorem dX2_flowTo_25 : decode cX2_flowTo 25 = .ok (.goto 10, 3) := by decide +kernel
theorem dX2_flowTo_28 : decode cX2_flowTo 28 = .ok (.aload_n 0, 1) := by decide +kernel
theorem dX2_flowTo_29 : decode cX2_flowTo 29 = .ok (.getfield 15, 3) := by decide +kernel
theorem dX2_flowTo_32 : decode cX2_flowTo 32 = .ok (.iload_n 2, 1) := by decide +kernel
theorem dX2_flowTo_33 : decode cX2_flowTo 33 = .ok (.iaload, 1) := by decide +kernel
theorem dX2_flowTo_34 : decode cX2_flowTo 34 = .ok (.ineg, 1) := by decide +kernel
theorem dX2_flowTo_35 : decode cX2_flowTo 35 = .ok (.istore 4, 2) := by decide +kernel
theorem dX2_flowTo_37 : decode cX2_flowTo 37 = .ok (.iconst 0, 1) := by decide +kernel
theorem dX2_flowTo_38 : decode cX2_flowTo 38 = .ok (.iload 4, 2) := by decide +kernel
theorem dX2_flowTo_40 : decode cX2_flowTo 40 = .ok (.invokestatic 204, 3) := by decide +kernel
theorem dX2_flowTo_43 : decode cX2_flowTo 43 = .ok (.ireturn, 1) := by decide +kernel
theorem dX2_bring_0 : decode cX2_bring 0 = .ok (.aload_n 0, 1) := by decide +kernel
theorem dX2_bring_1 : decode cX2_bring 1 = .ok (.aload_n 1, 1) := by decide +kernel
theorem dX2_bring_2 : decode cX2_bring 2 = .ok (.iload_n 2, 1) := by decide +kernel
theorem dX2_bring_3 : decode cX2_bring 3 = .ok (.iload_n 3, 1) := by decide +kernel
theorem dX2_bring_4 : decode cX2_bring 4 = .ok (.invokevirtual 197, 3) := by decide +kernel
theorem dX2_bring_7 : decode cX2_bring 7 = .ok (.istore 4, 2) := by decide +kernel
theorem dX2_bring_9 : decode cX2_bring 9 = .ok (.iload 4, 2) := by decide +kernel
theorem dX2_bring_11 : decode cX2_bring 11 = .ok (.ifCond .ne 7, 3) := by decide +kernel
theorem dX2_bring_14 : decode cX2_bring 14 = .ok (.iconst (-1), 1) := by decide +kernel
theorem dX2_bring_15 : decode cX2_bring 15 = .ok (.goto 9, 3) := by decide +kernel
theorem dX2_bring_18 : decode cX2_bring 18 = .ok (.aload_n 1, 1) := by decide +kernel
theorem dX2_bring_19 : decode cX2_bring 19 = .ok (.iload_n 2, 1) := by decide +kernel
theorem dX2_bring_20 : decode cX2_bring 20 = .ok (.iload_n 3, 1) := by decide +kernel
theorem dX2_bring_21 : decode cX2_bring 21 = .ok (.invokevirtual 206, 3) := by decide +kernel
theorem dX2_bring_24 : decode cX2_bring 24 = .ok (.istore 5, 2) := by decide +kernel
theorem dX2_bring_26 : decode cX2_bring 26 = .ok (.iload 5, 2) := by decide +kernel
theorem dX2_bring_28 : decode cX2_bring 28 = .ok (.invokestatic 144, 3) := by decide +kernel
theorem dX2_bring_31 : decode cX2_bring 31 = .ok (.ifCond .ne 5, 3) := by decide +kernel
theorem dX2_bring_34 : decode cX2_bring 34 = .ok (.lconst 0, 1) := by decide +kernel
theorem dX2_bring_35 : decode cX2_bring 35 = .ok (.lreturn, 1) := by decide +kernel
theorem dX2_bring_36 : decode cX2_bring 36 = .ok (.aload_n 0, 1) := by decide +kernel
theorem dX2_bring_37 : decode cX2_bring 37 = .ok (.getfield 27, 3) := by decide +kernel
theorem dX2_bring_40 : decode cX2_bring 40 = .ok (.iload 5, 2) := by decide +kernel
theorem dX2_bring_42 : decode cX2_bring 42 = .ok (.iaload, 1) := by decide +kernel
theorem dX2_bring_43 : decode cX2_bring 43 = .ok (.istore 6, 2) := by decide +kernel
theorem dX2_bring_45 : decode cX2_bring 45 = .ok (.aload_n 1, 1) := by decide +kernel
theorem dX2_bring_46 : decode cX2_bring 46 = .ok (.iload_n 2, 1) := by decide +kernel
theorem dX2_bring_47 : decode cX2_bring 47 = .ok (.iload 4, 2) := by decide +kernel
theorem dX2_bring_49 : decode cX2_bring 49 = .ok (.iload 6, 2) := by decide +kernel
theorem dX2_bring_51 : decode cX2_bring 51 = .ok (.invokevirtual 209, 3) := by decide +kernel
theorem dX2_bring_54 : decode cX2_bring 54 = .ok (.istore 7, 2) := by decide +kernel
theorem dX2_bring_56 : decode cX2_bring 56 = .ok (.aload_n 0, 1) := by decide +kernel
theorem dX2_bring_57 : decode cX2_bring 57 = .ok (.getfield 43, 3) := by decide +kernel
theorem dX2_bring_60 : decode cX2_bring 60 = .ok (.iload_n 2, 1) := by decide +kernel
theorem dX2_bring_61 : decode cX2_bring 61 = .ok (.iload 4, 2) := by decide +kernel
theorem dX2_bring_63 : decode cX2_bring 63 = .ok (.i2l, 1) := by decide +kernel
theorem dX2_bring_64 : decode cX2_bring 64 = .ok (.iload 6, 2) := by decide +kernel
theorem dX2_bring_66 : decode cX2_bring 66 = .ok (.iload 7, 2) := by decide +kernel
theorem dX2_bring_68 : decode cX2_bring 68 = .ok (.isub, 1) := by decide +kernel
theorem dX2_bring_69 : decode cX2_bring 69 = .ok (.i2l, 1) := by decide +kernel
theorem dX2_bring_70 : decode cX2_bring 70 = .ok (.lmul, 1) := by decide +kernel
theorem dX2_bring_71 : decode cX2_bring 71 = .ok (.lastore, 1) := by decide +kernel
theorem dX2_bring_72 : decode cX2_bring 72 = .ok (.iload 4, 2) := by decide +kernel
theorem dX2_bring_74 : decode cX2_bring 74 = .ok (.i2l, 1) := by decide +kernel
theorem dX2_bring_75 : decode cX2_bring 75 = .ok (.iload 7, 2) := by decide +kernel
theorem dX2_bring_77 : decode cX2_bring 77 = .ok (.i2l, 1) := by decide +kernel
theorem dX2_bring_78 : decode cX2_bring 78 = .ok (.lmul, 1) := by decide +kernel
theorem dX2_bring_79 : decode cX2_bring 79 = .ok (.lreturn, 1) := by decide +kernel
theorem dX2_findReturns_0 : decode cX2_findReturns 0 = .ok (.aload_n 0, 1) := by decide +kernel
theorem dX2_findReturns_1 : decode cX2_findReturns 1 = .ok (.getfield 30, 3) := by decide +kernel
theorem dX2_findReturns_4 : decode cX2_findReturns 4 = .ok (.aload_n 1, 1) := by decide +kernel
theorem dX2_findReturns_5 : decode cX2_findReturns 5 = .ok (.getfield 57, 3) := by decide +kernel
theorem dX2_findReturns_8 : decode cX2_findReturns 8 = .ok (.iconst 1, 1) := by decide +kernel
theorem dX2_findReturns_9 : decode cX2_findReturns 9 = .ok (.iaload, 1) := by decide +kernel
theorem dX2_findReturns_10 : decode cX2_findReturns 10 = .ok (.invokestatic 62, 3) := by decide +kernel
theorem dX2_findReturns_13 : decode cX2_findReturns 13 = .ok (.iconst 0, 1) := by decide +kernel
theorem dX2_findReturns_14 : decode cX2_findReturns 14 = .ok (.istore_n 3, 1) := by decide +kernel
theorem dX2_findReturns_15 : decode cX2_findReturns 15 = .ok (.iload_n 3, 1) := by decide +kernel
theorem dX2_findReturns_16 : decode cX2_findReturns 16 = .ok (.bipush 10, 2) := by decide +kernel
theorem dX2_findReturns_18 : decode cX2_findReturns 18 = .ok (.if_icmp .ge 43, 3) := by decide +kernel
theorem dX2_findReturns_21 : decode cX2_findReturns 21 = .ok (.aload_n 0, 1) := by decide +kernel
theorem dX2_findReturns_22 : decode cX2_findReturns 22 = .ok (.getfield 33, 3) := by decide +kernel
theorem dX2_findReturns_25 : decode cX2_findReturns 25 = .ok (.iload_n 3, 1) := by decide +kernel
theorem dX2_findReturns_26 : decode cX2_findReturns 26 = .ok (.aload_n 0, 1) := by decide +kernel
theorem dX2_findReturns_27 : decode cX2_findReturns 27 = .ok (.getfield 9, 3) := by decide +kernel
theorem dX2_findReturns_30 : decode cX2_findReturns 30 = .ok (.iload_n 3, 1) := by decide +kernel
theorem dX2_findReturns_31 : decode cX2_findReturns 31 = .ok (.iaload, 1) := by decide +kernel
theorem dX2_findReturns_32 : decode cX2_findReturns 32 = .ok (.i2l, 1) := by decide +kernel
theorem dX2_findReturns_33 : decode cX2_findReturns 33 = .ok (.lastore, 1) := by decide +kernel
theorem dX2_findReturns_34 : decode cX2_findReturns 34 = .ok (.aload_n 0, 1) := by decide +kernel
theorem dX2_findReturns_35 : decode cX2_findReturns 35 = .ok (.getfield 37, 3) := by decide +kernel
theorem dX2_findReturns_38 : decode cX2_findReturns 38 = .ok (.iload_n 3, 1) := by decide +kernel
theorem dX2_findReturns_39 : decode cX2_findReturns 39 = .ok (.aload_n 0, 1) := by decide +kernel
theorem dX2_findReturns_40 : decode cX2_findReturns 40 = .ok (.getfield 9, 3) := by decide +kernel
theorem dX2_findReturns_43 : decode cX2_findReturns 43 = .ok (.iload_n 3, 1) := by decide +kernel
theorem dX2_findReturns_44 : decode cX2_findReturns 44 = .ok (.iaload, 1) := by decide +kernel
theorem dX2_findReturns_45 : decode cX2_findReturns 45 = .ok (.i2l, 1) := by decide +kernel
theorem dX2_findReturns_46 : decode cX2_findReturns 46 = .ok (.aload_n 1, 1) := by decide +kernel
theorem dX2_findReturns_47 : decode cX2_findReturns 47 = .ok (.getfield 92, 3) := by decide +kernel
theorem dX2_findReturns_50 : decode cX2_findReturns 50 = .ok (.iload_n 3, 1) := by decide +kernel
theorem dX2_findReturns_51 : decode cX2_findReturns 51 = .ok (.iaload, 1) := by decide +kernel
theorem dX2_findReturns_52 : decode cX2_findReturns 52 = .ok (.i2l, 1) := by decide +kernel
theorem dX2_findReturns_53 : decode cX2_findReturns 53 = .ok (.lmul, 1) := by decide +kernel
theorem dX2_findReturns_54 : decode cX2_findReturns 54 = .ok (.lastore, 1) := by decide +kernel
theorem dX2_findReturns_55 : decode cX2_findReturns 55 = .ok (.iinc 3 1, 3) := by decide +kernel
theorem dX2_findReturns_58 : decode cX2_findReturns 58 = .ok (.goto (-43), 3) := by decide +kernel
theorem dX2_findReturns_61 : decode cX2_findReturns 61 = .ok (.aload_n 2, 1) := by decide +kernel
theorem dX2_findReturns_62 : decode cX2_findReturns 62 = .ok (.getfield 103, 3) := by decide +kernel
theorem dX2_findReturns_65 : decode cX2_findReturns 65 = .ok (.iconst 1, 1) := by decide +kernel
theorem dX2_findReturns_66 : decode cX2_findReturns 66 = .ok (.isub, 1) := by decide +kernel
theorem dX2_findReturns_67 : decode cX2_findReturns 67 = .ok (.istore_n 3, 1) := by decide +kernel
theorem dX2_findReturns_68 : decode cX2_findReturns 68 = .ok (.iload_n 3, 1) := by decide +kernel
theorem dX2_findReturns_69 : decode cX2_findReturns 69 = .ok (.ifCond .lt 105, 3) := by decide +kernel
theorem dX2_findReturns_72 : decode cX2_findReturns 72 = .ok (.aload_n 0, 1) := by decide +kernel
theorem dX2_findReturns_73 : decode cX2_findReturns 73 = .ok (.getfield 24, 3) := by decide +kernel
theorem dX2_findReturns_76 : decode cX2_findReturns 76 = .ok (.iload_n 3, 1) := by decide +kernel
theorem dX2_findReturns_77 : decode cX2_findReturns 77 = .ok (.iaload, 1) := by decide +kernel
theorem dX2_findReturns_78 : decode cX2_findReturns 78 = .ok (.istore 4, 2) := by decide +kernel
theorem dX2_findReturns_80 : decode cX2_findReturns 80 = .ok (.aload_n 0, 1) := by decide +kernel
theorem dX2_findReturns_81 : decode cX2_findReturns 81 = .ok (.getfield 33, 3) := by decide +kernel
theorem dX2_findReturns_84 : decode cX2_findReturns 84 = .ok (.iload 4, 2) := by decide +kernel
theorem dX2_findReturns_86 : decode cX2_findReturns 86 = .ok (.laload, 1) := by decide +kernel
theorem dX2_findReturns_87 : decode cX2_findReturns 87 = .ok (.lconst 0, 1) := by decide +kernel
theorem dX2_findReturns_88 : decode cX2_findReturns 88 = .ok (.lcmp, 1) := by decide +kernel
theorem dX2_findReturns_89 : decode cX2_findReturns 89 = .ok (.ifCond .le 51, 3) := by decide +kernel
theorem dX2_findReturns_92 : decode cX2_findReturns 92 = .ok (.aload_n 0, 1) := by decide +kernel
theorem dX2_findReturns_93 : decode cX2_findReturns 93 = .ok (.getfield 30, 3) := by decide +kernel
theorem dX2_findReturns_96 : decode cX2_findReturns 96 = .ok (.iload 4, 2) := by decide +kernel
theorem dX2_findReturns_98 : decode cX2_findReturns 98 = .ok (.aload_n 0, 1) := by decide +kernel
theorem dX2_findReturns_99 : decode cX2_findReturns 99 = .ok (.getfield 37, 3) := by decide +kernel
theorem dX2_findReturns_102 : decode cX2_findReturns 102 = .ok (.iload 4, 2) := by decide +kernel
theorem dX2_findReturns_104 : decode cX2_findReturns 104 = .ok (.laload, 1) := by decide +kernel
theorem dX2_findReturns_105 : decode cX2_findReturns 105 = .ok (.aload_n 0, 1) := by decide +kernel
theorem dX2_findReturns_106 : decode cX2_findReturns 106 = .ok (.getfield 33, 3) := by decide +kernel
theorem dX2_findReturns_109 : decode cX2_findReturns 109 = .ok (.iload 4, 2) := by decide +kernel
theorem dX2_findReturns_111 : decode cX2_findReturns 111 = .ok (.laload, 1) := by decide +kernel
theorem dX2_findReturns_112 : decode cX2_findReturns 112 = .ok (.ldiv, 1) := by decide +kernel
theorem dX2_findReturns_113 : decode cX2_findReturns 113 = .ok (.l2i, 1) := by decide +kernel
theorem dX2_findReturns_114 : decode cX2_findReturns 114 = .ok (.iastore, 1) := by decide +kernel
theorem dX2_findReturns_115 : decode cX2_findReturns 115 = .ok (.aload_n 0, 1) := by decide +kernel
theorem dX2_findReturns_116 : decode cX2_findReturns 116 = .ok (.getfield 40, 3) := by decide +kernel
theorem dX2_findReturns_119 : decode cX2_findReturns 119 = .ok (.iload 4, 2) := by decide +kernel
theorem dX2_findReturns_121 : decode cX2_findReturns 121 = .ok (.dup2, 1) := by decide +kernel
theorem dX2_findReturns_122 : decode cX2_findReturns 122 = .ok (.laload, 1) := by decide +kernel
theorem dX2_findReturns_123 : decode cX2_findReturns 123 = .ok (.aload_n 0, 1) := by decide +kernel
theorem dX2_findReturns_124 : decode cX2_findReturns 124 = .ok (.getfield 37, 3) := by decide +kernel
theorem dX2_findReturns_127 : decode cX2_findReturns 127 = .ok (.iload 4, 2) := by decide +kernel
theorem dX2_findReturns_129 : decode cX2_findReturns 129 = .ok (.laload, 1) := by decide +kernel
theorem dX2_findReturns_130 : decode cX2_findReturns 130 = .ok (.aload_n 0, 1) := by decide +kernel
theorem dX2_findReturns_131 : decode cX2_findReturns 131 = .ok (.getfield 33, 3) := by decide +kernel
theorem dX2_findReturns_134 : decode cX2_findReturns 134 = .ok (.iload 4, 2) := by decide +kernel
theorem dX2_findReturns_136 : decode cX2_findReturns 136 = .ok (.laload, 1) := by decide +kernel
theorem dX2_findReturns_137 : decode cX2_findReturns 137 = .ok (.lrem, 1) := by decide +kernel
theorem dX2_findReturns_138 : decode cX2_findReturns 138 = .ok (.ladd, 1) := by decide +kernel
theorem dX2_findReturns_139 : decode cX2_findReturns 139 = .ok (.lastore, 1) := by decide +kernel
theorem dX2_findReturns_140 : decode cX2_findReturns 140 = .ok (.aload_n 0, 1) := by decide +kernel
theorem dX2_findReturns_141 : decode cX2_findReturns 141 = .ok (.aload_n 1, 1) := by decide +kernel
theorem dX2_findReturns_142 : decode cX2_findReturns 142 = .ok (.aload_n 2, 1) := by decide +kernel
theorem dX2_findReturns_143 : decode cX2_findReturns 143 = .ok (.getfield 150, 3) := by decide +kernel
theorem dX2_findReturns_146 : decode cX2_findReturns 146 = .ok (.iload 4, 2) := by decide +kernel
theorem dX2_findReturns_148 : decode cX2_findReturns 148 = .ok (.iaload, 1) := by decide +kernel
theorem dX2_findReturns_149 : decode cX2_findReturns 149 = .ok (.iload 4, 2) := by decide +kernel
theorem dX2_findReturns_151 : decode cX2_findReturns 151 = .ok (.invokevirtual 213, 3) := by decide +kernel
theorem dX2_findReturns_154 : decode cX2_findReturns 154 = .ok (.aload_n 0, 1) := by decide +kernel
theorem dX2_findReturns_155 : decode cX2_findReturns 155 = .ok (.aload_n 1, 1) := by decide +kernel
theorem dX2_findReturns_156 : decode cX2_findReturns 156 = .ok (.aload_n 2, 1) := by decide +kernel
theorem dX2_findReturns_157 : decode cX2_findReturns 157 = .ok (.getfield 147, 3) := by decide +kernel
theorem dX2_findReturns_160 : decode cX2_findReturns 160 = .ok (.iload 4, 2) := by decide +kernel
theorem dX2_findReturns_162 : decode cX2_findReturns 162 = .ok (.iaload, 1) := by decide +kernel
theorem dX2_findReturns_163 : decode cX2_findReturns 163 = .ok (.iload 4, 2) := by decide +kernel
theorem dX2_findReturns_165 : decode cX2_findReturns 165 = .ok (.invokevirtual 213, 3) := by decide +kernel
theorem dX2_findReturns_168 : decode cX2_findReturns 168 = .ok (.iinc 3 (-1), 3) := by decide +kernel
theorem dX2_findReturns_171 : decode cX2_findReturns 171 = .ok (.goto (-103), 3) := by decide +kernel
theorem dX2_findReturns_174 : decode cX2_findReturns 174 = .ok (.return_, 1) := by decide +kernel
theorem dX2_sendBack_0 : decode cX2_sendBack 0 = .ok (.aload_n 0, 1) := by decide +kernel
theorem dX2_sendBack_1 : decode cX2_sendBack 1 = .ok (.aload_n 1, 1) := by decide +kernel
theorem dX2_sendBack_2 : decode cX2_sendBack 2 = .ok (.iload_n 2, 1) := by decide +kernel
theorem dX2_sendBack_3 : decode cX2_sendBack 3 = .ok (.iload_n 3, 1) := by decide +kernel
theorem dX2_sendBack_4 : decode cX2_sendBack 4 = .ok (.invokevirtual 197, 3) := by decide +kernel
theorem dX2_sendBack_7 : decode cX2_sendBack 7 = .ok (.istore 4, 2) := by decide +kernel
theorem dX2_sendBack_9 : decode cX2_sendBack 9 = .ok (.iload 4, 2) := by decide +kernel
theorem dX2_sendBack_11 : decode cX2_sendBack 11 = .ok (.ifCond .ne 7, 3) := by decide +kernel
theorem dX2_sendBack_14 : decode cX2_sendBack 14 = .ok (.iconst (-1), 1) := by decide +kernel
theorem dX2_sendBack_15 : decode cX2_sendBack 15 = .ok (.goto 9, 3) := by decide +kernel
theorem dX2_sendBack_18 : decode cX2_sendBack 18 = .ok (.aload_n 1, 1) := by decide +kernel
theorem dX2_sendBack_19 : decode cX2_sendBack 19 = .ok (.iload_n 2, 1) := by decide +kernel
theorem dX2_sendBack_20 : decode cX2_sendBack 20 = .ok (.iload_n 3, 1) := by decide +kernel
theorem dX2_sendBack_21 : decode cX2_sendBack 21 = .ok (.invokevirtual 206, 3) := by decide +kernel
theorem dX2_sendBack_24 : decode cX2_sendBack 24 = .ok (.istore 5, 2) := by decide +kernel
theorem dX2_sendBack_26 : decode cX2_sendBack 26 = .ok (.iload 5, 2) := by decide +kernel
theorem dX2_sendBack_28 : decode cX2_sendBack 28 = .ok (.invokestatic 144, 3) := by decide +kernel
theorem dX2_sendBack_31 : decode cX2_sendBack 31 = .ok (.ifCond .ne 4, 3) := by decide +kernel
theorem dX2_sendBack_34 : decode cX2_sendBack 34 = .ok (.return_, 1) := by decide +kernel
theorem dX2_sendBack_35 : decode cX2_sendBack 35 = .ok (.aload_n 0, 1) := by decide +kernel
theorem dX2_sendBack_36 : decode cX2_sendBack 36 = .ok (.getfield 30, 3) := by decide +kernel
theorem dX2_sendBack_39 : decode cX2_sendBack 39 = .ok (.iload_n 3, 1) := by decide +kernel
theorem dX2_sendBack_40 : decode cX2_sendBack 40 = .ok (.iaload, 1) := by decide +kernel
theorem dX2_sendBack_41 : decode cX2_sendBack 41 = .ok (.istore 6, 2) := by decide +kernel
theorem dX2_sendBack_43 : decode cX2_sendBack 43 = .ok (.aload_n 1, 1) := by decide +kernel
theorem dX2_sendBack_44 : decode cX2_sendBack 44 = .ok (.iload_n 2, 1) := by decide +kernel
theorem dX2_sendBack_45 : decode cX2_sendBack 45 = .ok (.iload 4, 2) := by decide +kernel
theorem dX2_sendBack_47 : decode cX2_sendBack 47 = .ok (.iload 6, 2) := by decide +kernel
theorem dX2_sendBack_49 : decode cX2_sendBack 49 = .ok (.invokevirtual 209, 3) := by decide +kernel
theorem dX2_sendBack_52 : decode cX2_sendBack 52 = .ok (.istore 7, 2) := by decide +kernel
theorem dX2_sendBack_54 : decode cX2_sendBack 54 = .ok (.aload_n 0, 1) := by decide +kernel
theorem dX2_sendBack_55 : decode cX2_sendBack 55 = .ok (.getfield 43, 3) := by decide +kernel
theorem dX2_sendBack_58 : decode cX2_sendBack 58 = .ok (.iload_n 2, 1) := by decide +kernel
theorem dX2_sendBack_59 : decode cX2_sendBack 59 = .ok (.dup2, 1) := by decide +kernel
theorem dX2_sendBack_60 : decode cX2_sendBack 60 = .ok (.laload, 1) := by decide +kernel
theorem dX2_sendBack_61 : decode cX2_sendBack 61 = .ok (.iload 4, 2) := by decide +kernel
theorem dX2_sendBack_63 : decode cX2_sendBack 63 = .ok (.i2l, 1) := by decide +kernel
theorem dX2_sendBack_64 : decode cX2_sendBack 64 = .ok (.iload 6, 2) := by decide +kernel
theorem dX2_sendBack_66 : decode cX2_sendBack 66 = .ok (.iload 7, 2) := by decide +kernel
theorem dX2_sendBack_68 : decode cX2_sendBack 68 = .ok (.isub, 1) := by decide +kernel
theorem dX2_sendBack_69 : decode cX2_sendBack 69 = .ok (.i2l, 1) := by decide +kernel
theorem dX2_sendBack_70 : decode cX2_sendBack 70 = .ok (.lmul, 1) := by decide +kernel
theorem dX2_sendBack_71 : decode cX2_sendBack 71 = .ok (.ladd, 1) := by decide +kernel
theorem dX2_sendBack_72 : decode cX2_sendBack 72 = .ok (.lastore, 1) := by decide +kernel
theorem dX2_sendBack_73 : decode cX2_sendBack 73 = .ok (.aload_n 0, 1) := by decide +kernel
theorem dX2_sendBack_74 : decode cX2_sendBack 74 = .ok (.getfield 33, 3) := by decide +kernel
theorem dX2_sendBack_77 : decode cX2_sendBack 77 = .ok (.iload 5, 2) := by decide +kernel
theorem dX2_sendBack_79 : decode cX2_sendBack 79 = .ok (.dup2, 1) := by decide +kernel
theorem dX2_sendBack_80 : decode cX2_sendBack 80 = .ok (.laload, 1) := by decide +kernel
theorem dX2_sendBack_81 : decode cX2_sendBack 81 = .ok (.iload 4, 2) := by decide +kernel
theorem dX2_sendBack_83 : decode cX2_sendBack 83 = .ok (.i2l, 1) := by decide +kernel
theorem dX2_sendBack_84 : decode cX2_sendBack 84 = .ok (.ladd, 1) := by decide +kernel
theorem dX2_sendBack_85 : decode cX2_sendBack 85 = .ok (.lastore, 1) := by decide +kernel
theorem dX2_sendBack_86 : decode cX2_sendBack 86 = .ok (.aload_n 0, 1) := by decide +kernel
theorem dX2_sendBack_87 : decode cX2_sendBack 87 = .ok (.getfield 37, 3) := by decide +kernel
theorem dX2_sendBack_90 : decode cX2_sendBack 90 = .ok (.iload 5, 2) := by decide +kernel
theorem dX2_sendBack_92 : decode cX2_sendBack 92 = .ok (.dup2, 1) := by decide +kernel
theorem dX2_sendBack_93 : decode cX2_sendBack 93 = .ok (.laload, 1) := by decide +kernel
theorem dX2_sendBack_94 : decode cX2_sendBack 94 = .ok (.iload 4, 2) := by decide +kernel
theorem dX2_sendBack_96 : decode cX2_sendBack 96 = .ok (.i2l, 1) := by decide +kernel
theorem dX2_sendBack_97 : decode cX2_sendBack 97 = .ok (.iload 7, 2) := by decide +kernel
theorem dX2_sendBack_99 : decode cX2_sendBack 99 = .ok (.i2l, 1) := by decide +kernel
theorem dX2_sendBack_100 : decode cX2_sendBack 100 = .ok (.lmul, 1) := by decide +kernel
theorem dX2_sendBack_101 : decode cX2_sendBack 101 = .ok (.ladd, 1) := by decide +kernel
theorem dX2_sendBack_102 : decode cX2_sendBack 102 = .ok (.lastore, 1) := by decide +kernel
theorem dX2_sendBack_103 : decode cX2_sendBack 103 = .ok (.return_, 1) := by decide +kernel
theorem dX2_findHeads_0 : decode cX2_findHeads 0 = .ok (.aload_n 0, 1) := by decide +kernel
theorem dX2_findHeads_1 : decode cX2_findHeads 1 = .ok (.getfield 46, 3) := by decide +kernel
theorem dX2_findHeads_4 : decode cX2_findHeads 4 = .ok (.lconst 0, 1) := by decide +kernel
theorem dX2_findHeads_5 : decode cX2_findHeads 5 = .ok (.invokestatic 190, 3) := by decide +kernel
theorem dX2_findHeads_8 : decode cX2_findHeads 8 = .ok (.iconst 0, 1) := by decide +kernel
theorem dX2_findHeads_9 : decode cX2_findHeads 9 = .ok (.istore_n 3, 1) := by decide +kernel
theorem dX2_findHeads_10 : decode cX2_findHeads 10 = .ok (.iload_n 3, 1) := by decide +kernel
theorem dX2_findHeads_11 : decode cX2_findHeads 11 = .ok (.aload_n 2, 1) := by decide +kernel
theorem dX2_findHeads_12 : decode cX2_findHeads 12 = .ok (.getfield 103, 3) := by decide +kernel
theorem dX2_findHeads_15 : decode cX2_findHeads 15 = .ok (.if_icmp .ge 104, 3) := by decide +kernel
theorem dX2_findHeads_18 : decode cX2_findHeads 18 = .ok (.aload_n 2, 1) := by decide +kernel
theorem dX2_findHeads_19 : decode cX2_findHeads 19 = .ok (.getfield 108, 3) := by decide +kernel
theorem dX2_findHeads_22 : decode cX2_findHeads 22 = .ok (.iload_n 3, 1) := by decide +kernel
theorem dX2_findHeads_23 : decode cX2_findHeads 23 = .ok (.iaload, 1) := by decide +kernel
theorem dX2_findHeads_24 : decode cX2_findHeads 24 = .ok (.istore 4, 2) := by decide +kernel
theorem dX2_findHeads_26 : decode cX2_findHeads 26 = .ok (.aload_n 2, 1) := by decide +kernel
theorem dX2_findHeads_27 : decode cX2_findHeads 27 = .ok (.getfield 141, 3) := by decide +kernel
theorem dX2_findHeads_30 : decode cX2_findHeads 30 = .ok (.iload 4, 2) := by decide +kernel
theorem dX2_findHeads_32 : decode cX2_findHeads 32 = .ok (.iaload, 1) := by decide +kernel
theorem dX2_findHeads_33 : decode cX2_findHeads 33 = .ok (.istore 5, 2) := by decide +kernel
theorem dX2_findHeads_35 : decode cX2_findHeads 35 = .ok (.aload_n 2, 1) := by decide +kernel
theorem dX2_findHeads_36 : decode cX2_findHeads 36 = .ok (.getfield 150, 3) := by decide +kernel
theorem dX2_findHeads_39 : decode cX2_findHeads 39 = .ok (.iload 4, 2) := by decide +kernel
theorem dX2_findHeads_41 : decode cX2_findHeads 41 = .ok (.iaload, 1) := by decide +kernel
theorem dX2_findHeads_42 : decode cX2_findHeads 42 = .ok (.istore 6, 2) := by decide +kernel
theorem dX2_findHeads_44 : decode cX2_findHeads 44 = .ok (.iload 5, 2) := by decide +kernel
theorem dX2_findHeads_46 : decode cX2_findHeads 46 = .ok (.invokestatic 144, 3) := by decide +kernel
theorem dX2_findHeads_49 : decode cX2_findHeads 49 = .ok (.ifCond .eq 49, 3) := by decide +kernel
theorem dX2_findHeads_52 : decode cX2_findHeads 52 = .ok (.iload 6, 2) := by decide +kernel
theorem dX2_findHeads_54 : decode cX2_findHeads 54 = .ok (.invokestatic 174, 3) := by decide +kernel
theorem dX2_findHeads_57 : decode cX2_findHeads 57 = .ok (.ifCond .eq 41, 3) := by decide +kernel
theorem dX2_findHeads_60 : decode cX2_findHeads 60 = .ok (.aload_n 2, 1) := by decide +kernel
theorem dX2_findHeads_61 : decode cX2_findHeads 61 = .ok (.getfield 147, 3) := by decide +kernel
theorem dX2_findHeads_64 : decode cX2_findHeads 64 = .ok (.iload 4, 2) := by decide +kernel
theorem dX2_findHeads_66 : decode cX2_findHeads 66 = .ok (.iaload, 1) := by decide +kernel
theorem dX2_findHeads_67 : decode cX2_findHeads 67 = .ok (.ifCond .ge 31, 3) := by decide +kernel
theorem dX2_findHeads_70 : decode cX2_findHeads 70 = .ok (.aload_n 0, 1) := by decide +kernel
theorem dX2_findHeads_71 : decode cX2_findHeads 71 = .ok (.getfield 46, 3) := by decide +kernel
theorem dX2_findHeads_74 : decode cX2_findHeads 74 = .ok (.iload 4, 2) := by decide +kernel
theorem dX2_findHeads_76 : decode cX2_findHeads 76 = .ok (.aload_n 0, 1) := by decide +kernel
theorem dX2_findHeads_77 : decode cX2_findHeads 77 = .ok (.getfield 46, 3) := by decide +kernel
theorem dX2_findHeads_80 : decode cX2_findHeads 80 = .ok (.iload 5, 2) := by decide +kernel
theorem dX2_findHeads_82 : decode cX2_findHeads 82 = .ok (.laload, 1) := by decide +kernel
theorem dX2_findHeads_83 : decode cX2_findHeads 83 = .ok (.aload_n 1, 1) := by decide +kernel
theorem dX2_findHeads_84 : decode cX2_findHeads 84 = .ok (.iload 6, 2) := by decide +kernel
theorem dX2_findHeads_86 : decode cX2_findHeads 86 = .ok (.aload_n 0, 1) := by decide +kernel
theorem dX2_findHeads_87 : decode cX2_findHeads 87 = .ok (.getfield 21, 3) := by decide +kernel
theorem dX2_findHeads_90 : decode cX2_findHeads 90 = .ok (.iload 4, 2) := by decide +kernel
theorem dX2_findHeads_92 : decode cX2_findHeads 92 = .ok (.iaload, 1) := by decide +kernel
theorem dX2_findHeads_93 : decode cX2_findHeads 93 = .ok (.invokevirtual 170, 3) := by decide +kernel
theorem dX2_findHeads_96 : decode cX2_findHeads 96 = .ok (.ladd, 1) := by decide +kernel
theorem dX2_findHeads_97 : decode cX2_findHeads 97 = .ok (.lastore, 1) := by decide +kernel
theorem dX2_findHeads_98 : decode cX2_findHeads 98 = .ok (.aload_n 2, 1) := by decide +kernel
theorem dX2_findHeads_99 : decode cX2_findHeads 99 = .ok (.iload 4, 2) := by decide +kernel
theorem dX2_findHeads_101 : decode cX2_findHeads 101 = .ok (.invokevirtual 183, 3) := by decide +kernel
theorem dX2_findHeads_104 : decode cX2_findHeads 104 = .ok (.ifCond .eq 9, 3) := by decide +kernel
theorem dX2_findHeads_107 : decode cX2_findHeads 107 = .ok (.aload_n 0, 1) := by decide +kernel
theorem dX2_findHeads_108 : decode cX2_findHeads 108 = .ok (.aload_n 1, 1) := by decide +kernel
theorem dX2_findHeads_109 : decode cX2_findHeads 109 = .ok (.aload_n 2, 1) := by decide +kernel
theorem dX2_findHeads_110 : decode cX2_findHeads 110 = .ok (.invokevirtual 217, 3) := by decide +kernel
theorem dX2_findHeads_113 : decode cX2_findHeads 113 = .ok (.iinc 3 1, 3) := by decide +kernel
theorem dX2_findHeads_116 : decode cX2_findHeads 116 = .ok (.goto (-106), 3) := by decide +kernel
theorem dX2_findHeads_119 : decode cX2_findHeads 119 = .ok (.return_, 1) := by decide +kernel
theorem dX2_findLoopHeads_0 : decode cX2_findLoopHeads 0 = .ok (.iconst 1, 1) := by decide +kernel
theorem dX2_findLoopHeads_1 : decode cX2_findLoopHeads 1 = .ok (.istore_n 3, 1) := by decide +kernel
theorem dX2_findLoopHeads_2 : decode cX2_findLoopHeads 2 = .ok (.iload_n 3, 1) := by decide +kernel
theorem dX2_findLoopHeads_3 : decode cX2_findLoopHeads 3 = .ok (.aload_n 2, 1) := by decide +kernel
theorem dX2_findLoopHeads_4 : decode cX2_findLoopHeads 4 = .ok (.getfield 157, 3) := by decide +kernel
theorem dX2_findLoopHeads_7 : decode cX2_findLoopHeads 7 = .ok (.if_icmp .ge 58, 3) := by decide +kernel
theorem dX2_findLoopHeads_10 : decode cX2_findLoopHeads 10 = .ok (.aload_n 1, 1) := by decide +kernel
theorem dX2_findLoopHeads_11 : decode cX2_findLoopHeads 11 = .ok (.aload_n 2, 1) := by decide +kernel
theorem dX2_findLoopHeads_12 : decode cX2_findLoopHeads 12 = .ok (.getfield 167, 3) := by decide +kernel
theorem dX2_findLoopHeads_15 : decode cX2_findLoopHeads 15 = .ok (.iload_n 3, 1) := by decide +kernel
theorem dX2_findLoopHeads_16 : decode cX2_findLoopHeads 16 = .ok (.iconst 1, 1) := by decide +kernel
theorem dX2_findLoopHeads_17 : decode cX2_findLoopHeads 17 = .ok (.isub, 1) := by decide +kernel
theorem dX2_findLoopHeads_18 : decode cX2_findLoopHeads 18 = .ok (.iaload, 1) := by decide +kernel
theorem dX2_findLoopHeads_19 : decode cX2_findLoopHeads 19 = .ok (.aload_n 0, 1) := by decide +kernel
theorem dX2_findLoopHeads_20 : decode cX2_findLoopHeads 20 = .ok (.getfield 18, 3) := by decide +kernel
theorem dX2_findLoopHeads_23 : decode cX2_findLoopHeads 23 = .ok (.iload_n 3, 1) := by decide +kernel
theorem dX2_findLoopHeads_24 : decode cX2_findLoopHeads 24 = .ok (.iconst 1, 1) := by decide +kernel
theorem dX2_findLoopHeads_25 : decode cX2_findLoopHeads 25 = .ok (.isub, 1) := by decide +kernel
theorem dX2_findLoopHeads_26 : decode cX2_findLoopHeads 26 = .ok (.iaload, 1) := by decide +kernel
theorem dX2_findLoopHeads_27 : decode cX2_findLoopHeads 27 = .ok (.invokevirtual 170, 3) := by decide +kernel
theorem dX2_findLoopHeads_30 : decode cX2_findLoopHeads 30 = .ok (.lstore 4, 2) := by decide +kernel
theorem dX2_findLoopHeads_32 : decode cX2_findLoopHeads 32 = .ok (.aload_n 0, 1) := by decide +kernel
theorem dX2_findLoopHeads_33 : decode cX2_findLoopHeads 33 = .ok (.getfield 46, 3) := by decide +kernel
theorem dX2_findLoopHeads_36 : decode cX2_findLoopHeads 36 = .ok (.aload_n 2, 1) := by decide +kernel
theorem dX2_findLoopHeads_37 : decode cX2_findLoopHeads 37 = .ok (.getfield 160, 3) := by decide +kernel
theorem dX2_findLoopHeads_40 : decode cX2_findLoopHeads 40 = .ok (.iload_n 3, 1) := by decide +kernel
theorem dX2_findLoopHeads_41 : decode cX2_findLoopHeads 41 = .ok (.iaload, 1) := by decide +kernel
theorem dX2_findLoopHeads_42 : decode cX2_findLoopHeads 42 = .ok (.aload_n 0, 1) := by decide +kernel
theorem dX2_findLoopHeads_43 : decode cX2_findLoopHeads 43 = .ok (.getfield 46, 3) := by decide +kernel
theorem dX2_findLoopHeads_46 : decode cX2_findLoopHeads 46 = .ok (.aload_n 2, 1) := by decide +kernel
theorem dX2_findLoopHeads_47 : decode cX2_findLoopHeads 47 = .ok (.getfield 160, 3) := by decide +kernel
theorem dX2_findLoopHeads_50 : decode cX2_findLoopHeads 50 = .ok (.iload_n 3, 1) := by decide +kernel
theorem dX2_findLoopHeads_51 : decode cX2_findLoopHeads 51 = .ok (.iconst 1, 1) := by decide +kernel
theorem dX2_findLoopHeads_52 : decode cX2_findLoopHeads 52 = .ok (.isub, 1) := by decide +kernel
theorem dX2_findLoopHeads_53 : decode cX2_findLoopHeads 53 = .ok (.iaload, 1) := by decide +kernel
theorem dX2_findLoopHeads_54 : decode cX2_findLoopHeads 54 = .ok (.laload, 1) := by decide +kernel
theorem dX2_findLoopHeads_55 : decode cX2_findLoopHeads 55 = .ok (.lload 4, 2) := by decide +kernel
theorem dX2_findLoopHeads_57 : decode cX2_findLoopHeads 57 = .ok (.ladd, 1) := by decide +kernel
theorem dX2_findLoopHeads_58 : decode cX2_findLoopHeads 58 = .ok (.lastore, 1) := by decide +kernel
theorem dX2_findLoopHeads_59 : decode cX2_findLoopHeads 59 = .ok (.iinc 3 1, 3) := by decide +kernel
theorem dX2_findLoopHeads_62 : decode cX2_findLoopHeads 62 = .ok (.goto (-60), 3) := by decide +kernel
theorem dX2_findLoopHeads_65 : decode cX2_findLoopHeads 65 = .ok (.return_, 1) := by decide +kernel
theorem dX4_init_0 : decode cX4_init 0 = .ok (.aload_n 0, 1) := by decide +kernel
theorem dX4_init_1 : decode cX4_init 1 = .ok (.invokespecial 1, 3) := by decide +kernel
theorem dX4_init_4 : decode cX4_init 4 = .ok (.aload_n 0, 1) := by decide +kernel
theorem dX4_init_5 : decode cX4_init 5 = .ok (.new 7, 3) := by decide +kernel
theorem dX4_init_8 : decode cX4_init 8 = .ok (.dup, 1) := by decide +kernel
theorem dX4_init_9 : decode cX4_init 9 = .ok (.invokespecial 9, 3) := by decide +kernel
theorem dX4_init_12 : decode cX4_init 12 = .ok (.putfield 10, 3) := by decide +kernel
theorem dX4_init_15 : decode cX4_init 15 = .ok (.aload_n 0, 1) := by decide +kernel
theorem dX4_init_16 : decode cX4_init 16 = .ok (.new 7, 3) := by decide +kernel
theorem dX4_init_19 : decode cX4_init 19 = .ok (.dup, 1) := by decide +kernel
theorem dX4_init_20 : decode cX4_init 20 = .ok (.invokespecial 9, 3) := by decide +kernel
theorem dX4_init_23 : decode cX4_init 23 = .ok (.putfield 16, 3) := by decide +kernel
theorem dX4_init_26 : decode cX4_init 26 = .ok (.aload_n 0, 1) := by decide +kernel
theorem dX4_init_27 : decode cX4_init 27 = .ok (.new 7, 3) := by decide +kernel
theorem dX4_init_30 : decode cX4_init 30 = .ok (.dup, 1) := by decide +kernel
theorem dX4_init_31 : decode cX4_init 31 = .ok (.invokespecial 9, 3) := by decide +kernel
theorem dX4_init_34 : decode cX4_init 34 = .ok (.putfield 19, 3) := by decide +kernel
theorem dX4_init_37 : decode cX4_init 37 = .ok (.aload_n 0, 1) := by decide +kernel
theorem dX4_init_38 : decode cX4_init 38 = .ok (.bipush 9, 2) := by decide +kernel
theorem dX4_init_40 : decode cX4_init 40 = .ok (.anewarray 7, 3) := by decide +kernel
theorem dX4_init_43 : decode cX4_init 43 = .ok (.putfield 22, 3) := by decide +kernel
theorem dX4_init_46 : decode cX4_init 46 = .ok (.aload_n 0, 1) := by decide +kernel
theorem dX4_init_47 : decode cX4_init 47 = .ok (.new 26, 3) := by decide +kernel
theorem dX4_init_50 : decode cX4_init 50 = .ok (.dup, 1) := by decide +kernel
theorem dX4_init_51 : decode cX4_init 51 = .ok (.invokespecial 28, 3) := by decide +kernel
theorem dX4_init_54 : decode cX4_init 54 = .ok (.putfield 29, 3) := by decide +kernel
theorem dX4_init_57 : decode cX4_init 57 = .ok (.aload_n 0, 1) := by decide +kernel
theorem dX4_init_58 : decode cX4_init 58 = .ok (.new 33, 3) := by decide +kernel
theorem dX4_init_61 : decode cX4_init 61 = .ok (.dup, 1) := by decide +kernel
theorem dX4_init_62 : decode cX4_init 62 = .ok (.invokespecial 35, 3) := by decide +kernel
theorem dX4_init_65 : decode cX4_init 65 = .ok (.putfield 36, 3) := by decide +kernel
theorem dX4_init_68 : decode cX4_init 68 = .ok (.aload_n 0, 1) := by decide +kernel
theorem dX4_init_69 : decode cX4_init 69 = .ok (.new 33, 3) := by decide +kernel
theorem dX4_init_72 : decode cX4_init 72 = .ok (.dup, 1) := by decide +kernel
theorem dX4_init_73 : decode cX4_init 73 = .ok (.invokespecial 35, 3) := by decide +kernel
theorem dX4_init_76 : decode cX4_init 76 = .ok (.putfield 40, 3) := by decide +kernel
theorem dX4_init_79 : decode cX4_init 79 = .ok (.aload_n 0, 1) := by decide +kernel
theorem dX4_init_80 : decode cX4_init 80 = .ok (.new 43, 3) := by decide +kernel
theorem dX4_init_83 : decode cX4_init 83 = .ok (.dup, 1) := by decide +kernel
theorem dX4_init_84 : decode cX4_init 84 = .ok (.invokespecial 45, 3) := by decide +kernel
theorem dX4_init_87 : decode cX4_init 87 = .ok (.putfield 46, 3) := by decide +kernel
theorem dX4_init_90 : decode cX4_init 90 = .ok (.aload_n 0, 1) := by decide +kernel
theorem dX4_init_91 : decode cX4_init 91 = .ok (.iconst 0, 1) := by decide +kernel
theorem dX4_init_92 : decode cX4_init 92 = .ok (.putfield 50, 3) := by decide +kernel
theorem dX4_init_95 : decode cX4_init 95 = .ok (.aload_n 0, 1) := by decide +kernel
theorem dX4_init_96 : decode cX4_init 96 = .ok (.iconst 0, 1) := by decide +kernel
theorem dX4_init_97 : decode cX4_init 97 = .ok (.putfield 54, 3) := by decide +kernel
theorem dX4_init_100 : decode cX4_init 100 = .ok (.aload_n 0, 1) := by decide +kernel
theorem dX4_init_101 : decode cX4_init 101 = .ok (.iconst 0, 1) := by decide +kernel
theorem dX4_init_102 : decode cX4_init 102 = .ok (.putfield 57, 3) := by decide +kernel
theorem dX4_init_105 : decode cX4_init 105 = .ok (.aload_n 0, 1) := by decide +kernel
theorem dX4_init_106 : decode cX4_init 106 = .ok (.iconst 0, 1) := by decide +kernel
theorem dX4_init_107 : decode cX4_init 107 = .ok (.putfield 61, 3) := by decide +kernel
theorem dX4_init_110 : decode cX4_init 110 = .ok (.aload_n 0, 1) := by decide +kernel
theorem dX4_init_111 : decode cX4_init 111 = .ok (.iconst (-1), 1) := by decide +kernel
theorem dX4_init_112 : decode cX4_init 112 = .ok (.putfield 64, 3) := by decide +kernel
theorem dX4_init_115 : decode cX4_init 115 = .ok (.aload_n 0, 1) := by decide +kernel
theorem dX4_init_116 : decode cX4_init 116 = .ok (.iconst 0, 1) := by decide +kernel
theorem dX4_init_117 : decode cX4_init 117 = .ok (.putfield 67, 3) := by decide +kernel
theorem dX4_init_120 : decode cX4_init 120 = .ok (.iconst 0, 1) := by decide +kernel
theorem dX4_init_121 : decode cX4_init 121 = .ok (.istore_n 1, 1) := by decide +kernel
theorem dX4_init_122 : decode cX4_init 122 = .ok (.iload_n 1, 1) := by decide +kernel
theorem dX4_init_123 : decode cX4_init 123 = .ok (.aload_n 0, 1) := by decide +kernel
theorem dX4_init_124 : decode cX4_init 124 = .ok (.getfield 22, 3) := by decide +kernel
theorem dX4_init_127 : decode cX4_init 127 = .ok (.arraylength, 1) := by decide +kernel
theorem dX4_init_128 : decode cX4_init 128 = .ok (.if_icmp .ge 22, 3) := by decide +kernel
theorem dX4_init_131 : decode cX4_init 131 = .ok (.aload_n 0, 1) := by decide +kernel
theorem dX4_init_132 : decode cX4_init 132 = .ok (.getfield 22, 3) := by decide +kernel
theorem dX4_init_135 : decode cX4_init 135 = .ok (.iload_n 1, 1) := by decide +kernel
theorem dX4_init_136 : decode cX4_init 136 = .ok (.new 7, 3) := by decide +kernel
theorem dX4_init_139 : decode cX4_init 139 = .ok (.dup, 1) := by decide +kernel
theorem dX4_init_140 : decode cX4_init 140 = .ok (.invokespecial 9, 3) := by decide +kernel
theorem dX4_init_143 : decode cX4_init 143 = .ok (.aastore, 1) := by decide +kernel
theorem dX4_init_144 : decode cX4_init 144 = .ok (.iinc 1 1, 3) := by decide +kernel
theorem dX4_init_147 : decode cX4_init 147 = .ok (.goto (-25), 3) := by decide +kernel
theorem dX4_init_150 : decode cX4_init 150 = .ok (.return_, 1) := by decide +kernel
theorem dX4_setSetting_0 : decode cX4_setSetting 0 = .ok (.iload_n 1, 1) := by decide +kernel
theorem dX4_setSetting_1 : decode cX4_setSetting 1 = .ok (.iload_n 2, 1) := by decide +kernel
theorem dX4_setSetting_2 : decode cX4_setSetting 2 = .ok (.invokestatic 70, 3) := by decide +kernel
theorem dX4_setSetting_5 : decode cX4_setSetting 5 = .ok (.istore_n 3, 1) := by decide +kernel
theorem dX4_setSetting_6 : decode cX4_setSetting 6 = .ok (.iload_n 3, 1) := by decide +kernel
theorem dX4_setSetting_7 : decode cX4_setSetting 7 = .ok (.iconst 1, 1) := by decide +kernel
theorem dX4_setSetting_8 : decode cX4_setSetting 8 = .ok (.if_icmp .ne 13, 3) := by decide +kernel
theorem dX4_setSetting_11 : decode cX4_setSetting 11 = .ok (.new 74, 3) := by decide +kernel
theorem dX4_setSetting_14 : decode cX4_setSetting 14 = .ok (.dup, 1) := by decide +kernel
theorem dX4_setSetting_15 : decode cX4_setSetting 15 = .ok (.ldc 76, 2) := by decide +kernel
theorem dX4_setSetting_17 : decode cX4_setSetting 17 = .ok (.invokespecial 78, 3) := by decide +kernel
theorem dX4_setSetting_20 : decode cX4_setSetting 20 = .ok (.athrow, 1) := by decide +kernel
theorem dX4_setSetting_21 : decode cX4_setSetting 21 = .ok (.iload_n 3, 1) := by decide +kernel
theorem dX4_setSetting_22 : decode cX4_setSetting 22 = .ok (.ifCond .eq 13, 3) := by decide +kernel
theorem dX4_setSetting_25 : decode cX4_setSetting 25 = .ok (.new 81, 3) := by decide +kernel
theorem dX4_setSetting_28 : decode cX4_setSetting 28 = .ok (.dup, 1) := by decide +kernel
theorem dX4_setSetting_29 : decode cX4_setSetting 29 = .ok (.ldc 83, 2) := by decide +kernel
theorem dX4_setSetting_31 : decode cX4_setSetting 31 = .ok (.invokespecial 85, 3) := by decide +kernel
theorem dX4_setSetting_34 : decode cX4_setSetting 34 = .ok (.athrow, 1) := by decide +kernel
theorem dX4_setSetting_35 : decode cX4_setSetting 35 = .ok (.aload_n 0, 1) := by decide +kernel
theorem dX4_setSetting_36 : decode cX4_setSetting 36 = .ok (.getfield 10, 3) := by decide +kernel
theorem dX4_setSetting_39 : decode cX4_setSetting 39 = .ok (.getfield 86, 3) := by decide +kernel
theorem dX4_setSetting_42 : decode cX4_setSetting 42 = .ok (.iload_n 1, 1) := by decide +kernel
theorem dX4_setSetting_43 : decode cX4_setSetting 43 = .ok (.iaload, 1) := by decide +kernel
theorem dX4_setSetting_44 : decode cX4_setSetting 44 = .ok (.istore 4, 2) := by decide +kernel
theorem dX4_setSetting_46 : decode cX4_setSetting 46 = .ok (.aload_n 0, 1) := by decide +kernel
theorem dX4_setSetting_47 : decode cX4_setSetting 47 = .ok (.invokevirtual 90, 3) := by decide +kernel
theorem dX4_setSetting_50 : decode cX4_setSetting 50 = .ok (.aload_n 0, 1) := by decide +kernel
theorem dX4_setSetting_51 : decode cX4_setSetting 51 = .ok (.getfield 10, 3) := by decide +kernel
theorem dX4_setSetting_54 : decode cX4_setSetting 54 = .ok (.getfield 86, 3) := by decide +kernel
theorem dX4_setSetting_57 : decode cX4_setSetting 57 = .ok (.iload_n 1, 1) := by decide +kernel
theorem dX4_setSetting_58 : decode cX4_setSetting 58 = .ok (.iload_n 2, 1) := by decide +kernel
theorem dX4_setSetting_59 : decode cX4_setSetting 59 = .ok (.iastore, 1) := by decide +kernel
theorem dX4_setSetting_60 : decode cX4_setSetting 60 = .ok (.aload_n 0, 1) := by decide +kernel
theorem dX4_setSetting_61 : decode cX4_setSetting 61 = .ok (.invokevirtual 93, 3) := by decide +kernel
theorem dX4_setSetting_64 : decode cX4_setSetting 64 = .ok (.iload 4, 2) := by decide +kernel
theorem dX4_setSetting_66 : decode cX4_setSetting 66 = .ok (.ireturn, 1) := by decide +kernel
theorem dX4_setting_0 : decode cX4_setting 0 = .ok (.iload_n 1, 1) := by decide +kernel
theorem dX4_setting_1 : decode cX4_setting 1 = .ok (.iconst 0, 1) := by decide +kernel
theorem dX4_setting_2 : decode cX4_setting 2 = .ok (.bipush 6, 2) := by decide +kernel
theorem dX4_setting_4 : decode cX4_setting 4 = .ok (.invokestatic 96, 3) := by decide +kernel
theorem dX4_setting_7 : decode cX4_setting 7 = .ok (.ifCond .ne 13, 3) := by decide +kernel
theorem dX4_setting_10 : decode cX4_setting 10 = .ok (.new 74, 3) := by decide +kernel
theorem dX4_setting_13 : decode cX4_setting 13 = .ok (.dup, 1) := by decide +kernel
theorem dX4_setting_14 : decode cX4_setting 14 = .ok (.ldc 76, 2) := by decide +kernel
theorem dX4_setting_16 : decode cX4_setting 16 = .ok (.invokespecial 78, 3) := by decide +kernel
theorem dX4_setting_19 : decode cX4_setting 19 = .ok (.athrow, 1) := by decide +kernel
theorem dX4_setting_20 : decode cX4_setting 20 = .ok (.aload_n 0, 1) := by decide +kernel
theorem dX4_setting_21 : decode cX4_setting 21 = .ok (.getfield 10, 3) := by decide +kernel
theorem dX4_setting_24 : decode cX4_setting 24 = .ok (.getfield 86, 3) := by decide +kernel
theorem dX4_setting_27 : decode cX4_setting 27 = .ok (.iload_n 1, 1) := by decide +kernel
theorem dX4_setting_28 : decode cX4_setting 28 = .ok (.iaload, 1) := by decide +kernel
theorem dX4_setting_29 : decode cX4_setting 29 = .ok (.ireturn, 1) := by decide +kernel
theorem dX4_addPipe_0 : decode cX4_addPipe 0 = .ok (.aload_n 0, 1) := by decide +kernel
theorem dX4_addPipe_1 : decode cX4_addPipe 1 = .ok (.aload_n 0, 1) := by decide +kernel
theorem dX4_addPipe_2 : decode cX4_addPipe 2 = .ok (.getfield 10, 3) := by decide +kernel
theorem dX4_addPipe_5 : decode cX4_addPipe 5 = .ok (.iload_n 1, 1) := by decide +kernel
theorem dX4_addPipe_6 : decode cX4_addPipe 6 = .ok (.iload_n 2, 1) := by decide +kernel
theorem dX4_addPipe_7 : decode cX4_addPipe 7 = .ok (.iload_n 3, 1) := by decide +kernel
theorem dX4_addPipe_8 : decode cX4_addPipe 8 = .ok (.iload 4, 2) := by decide +kernel
theorem dX4_addPipe_10 : decode cX4_addPipe 10 = .ok (.invokevirtual 100, 3) := by decide +kernel
theorem dX4_addPipe_13 : decode cX4_addPipe 13 = .ok (.invokevirtual 104, 3) := by decide +kernel
theorem dX4_addPipe_16 : decode cX4_addPipe 16 = .ok (.aload_n 0, 1) := by decide +kernel
theorem dX4_addPipe_17 : decode cX4_addPipe 17 = .ok (.invokevirtual 90, 3) := by decide +kernel
theorem dX4_addPipe_20 : decode cX4_addPipe 20 = .ok (.aload_n 0, 1) := by decide +kernel
theorem dX4_addPipe_21 : decode cX4_addPipe 21 = .ok (.getfield 10, 3) := by decide +kernel
theorem dX4_addPipe_24 : decode cX4_addPipe 24 = .ok (.iload_n 1, 1) := by decide +kernel
theorem dX4_addPipe_25 : decode cX4_addPipe 25 = .ok (.iload_n 2, 1) := by decide +kernel
theorem dX4_addPipe_26 : decode cX4_addPipe 26 = .ok (.iload_n 3, 1) := by decide +kernel
theorem dX4_addPipe_27 : decode cX4_addPipe 27 = .ok (.iload 4, 2) := by decide +kernel
theorem dX4_addPipe_29 : decode cX4_addPipe 29 = .ok (.invokevirtual 108, 3) := by decide +kernel
theorem dX4_addPipe_32 : decode cX4_addPipe 32 = .ok (.aload_n 0, 1) := by decide +kernel
theorem dX4_addPipe_33 : decode cX4_addPipe 33 = .ok (.invokevirtual 93, 3) := by decide +kernel
theorem dX4_addPipe_36 : decode cX4_addPipe 36 = .ok (.aload_n 0, 1) := by decide +kernel
theorem dX4_addPipe_37 : decode cX4_addPipe 37 = .ok (.getfield 10, 3) := by decide +kernel
theorem dX4_addPipe_40 : decode cX4_addPipe 40 = .ok (.getfield 112, 3) := by decide +kernel
theorem dX4_addPipe_43 : decode cX4_addPipe 43 = .ok (.iconst 1, 1) := by decide +kernel
theorem dX4_addPipe_44 : decode cX4_addPipe 44 = .ok (.isub, 1) := by decide +kernel
theorem dX4_addPipe_45 : decode cX4_addPipe 45 = .ok (.ireturn, 1) := by decide +kernel
theorem dX4_removePipe_0 : decode cX4_removePipe 0 = .ok (.aload_n 0, 1) := by decide +kernel
theorem dX4_removePipe_1 : decode cX4_removePipe 1 = .ok (.iload_n 1, 1) := by decide +kernel
theorem dX4_removePipe_2 : decode cX4_removePipe 2 = .ok (.invokevirtual 115, 3) := by decide +kernel
theorem dX4_removePipe_5 : decode cX4_removePipe 5 = .ok (.aload_n 0, 1) := by decide +kernel
theorem dX4_removePipe_6 : decode cX4_removePipe 6 = .ok (.invokevirtual 90, 3) := by decide +kernel
theorem dX4_removePipe_9 : decode cX4_removePipe 9 = .ok (.aload_n 0, 1) := by decide +kernel
theorem dX4_removePipe_10 : decode cX4_removePipe 10 = .ok (.getfield 10, 3) := by decide +kernel
theorem dX4_removePipe_13 : decode cX4_removePipe 13 = .ok (.iload_n 1, 1) := by decide +kernel
theorem dX4_removePipe_14 : decode cX4_removePipe 14 = .ok (.invokevirtual 118, 3) := by decide +kernel
theorem dX4_removePipe_17 : decode cX4_removePipe 17 = .ok (.aload_n 0, 1) := by decide +kernel
theorem dX4_removePipe_18 : decode cX4_removePipe 18 = .ok (.invokevirtual 93, 3) := by decide +kernel
theorem dX4_removePipe_21 : decode cX4_removePipe 21 = .ok (.aload_n 0, 1) := by decide +kernel
theorem dX4_removePipe_22 : decode cX4_removePipe 22 = .ok (.getfield 10, 3) := by decide +kernel
theorem dX4_removePipe_25 : decode cX4_removePipe 25 = .ok (.getfield 112, 3) := by decide +kernel
theorem dX4_removePipe_28 : decode cX4_removePipe 28 = .ok (.ireturn, 1) := by decide +kernel
theorem dX4_addStation_0 : decode cX4_addStation 0 = .ok (.aload_n 0, 1) := by decide +kernel
theorem dX4_addStation_1 : decode cX4_addStation 1 = .ok (.aload_n 0, 1) := by decide +kernel
theorem dX4_addStation_2 : decode cX4_addStation 2 = .ok (.getfield 10, 3) := by decide +kernel
theorem dX4_addStation_5 : decode cX4_addStation 5 = .ok (.iload_n 1, 1) := by decide +kernel
theorem dX4_addStation_6 : decode cX4_addStation 6 = .ok (.iload_n 2, 1) := by decide +kernel
theorem dX4_addStation_7 : decode cX4_addStation 7 = .ok (.iload_n 3, 1) := by decide +kernel
theorem dX4_addStation_8 : decode cX4_addStation 8 = .ok (.iload 4, 2) := by decide +kernel
theorem dX4_addStation_10 : decode cX4_addStation 10 = .ok (.invokevirtual 121, 3) := by decide +kernel
theorem dX4_addStation_13 : decode cX4_addStation 13 = .ok (.invokevirtual 104, 3) := by decide +kernel
theorem dX4_addStation_16 : decode cX4_addStation 16 = .ok (.aload_n 0, 1) := by decide +kernel
theorem dX4_addStation_17 : decode cX4_addStation 17 = .ok (.invokevirtual 90, 3) := by decide +kernel
theorem dX4_addStation_20 : decode cX4_addStation 20 = .ok (.aload_n 0, 1) := by decide +kernel
theorem dX4_addStation_21 : decode cX4_addStation 21 = .ok (.getfield 10, 3) := by decide +kernel
theorem dX4_addStation_24 : decode cX4_addStation 24 = .ok (.iload_n 1, 1) := by decide +kernel
theorem dX4_addStation_25 : decode cX4_addStation 25 = .ok (.iload_n 2, 1) := by decide +kernel
theorem dX4_addStation_26 : decode cX4_addStation 26 = .ok (.iload_n 3, 1) := by decide +kernel
theorem dX4_addStation_27 : decode cX4_addStation 27 = .ok (.iload 4, 2) := by decide +kernel
theorem dX4_addStation_29 : decode cX4_addStation 29 = .ok (.invokevirtual 124, 3) := by decide +kernel
theorem dX4_addStation_32 : decode cX4_addStation 32 = .ok (.aload_n 0, 1) := by decide +kernel
theorem dX4_addStation_33 : decode cX4_addStation 33 = .ok (.invokevirtual 93, 3) := by decide +kernel
theorem dX4_addStation_36 : decode cX4_addStation 36 = .ok (.aload_n 0, 1) := by decide +kernel
theorem dX4_addStation_37 : decode cX4_addStation 37 = .ok (.getfield 10, 3) := by decide +kernel
theorem dX4_addStation_40 : decode cX4_addStation 40 = .ok (.invokevirtual 127, 3) := by decide +kernel
theorem dX4_addStation_43 : decode cX4_addStation 43 = .ok (.ireturn, 1) := by decide +kernel
theorem dX4_removeStation_0 : decode cX4_removeStation 0 = .ok (.aload_n 0, 1) := by decide +kernel
theorem dX4_removeStation_1 : decode cX4_removeStation 1 = .ok (.aload_n 0, 1) := by decide +kernel
theorem dX4_removeStation_2 : decode cX4_removeStation 2 = .ok (.getfield 10, 3) := by decide +kernel
theorem dX4_removeStation_5 : decode cX4_removeStation 5 = .ok (.iload_n 1, 1) := by decide +kernel
theorem dX4_removeStation_6 : decode cX4_removeStation 6 = .ok (.invokevirtual 131, 3) := by decide +kernel
theorem dX4_removeStation_9 : decode cX4_removeStation 9 = .ok (.invokevirtual 104, 3) := by decide +kernel
theorem dX4_removeStation_12 : decode cX4_removeStation 12 = .ok (.aload_n 0, 1) := by decide +kernel
theorem dX4_removeStation_13 : decode cX4_removeStation 13 = .ok (.invokevirtual 90, 3) := by decide +kernel
theorem dX4_removeStation_16 : decode cX4_removeStation 16 = .ok (.aload_n 0, 1) := by decide +kernel
theorem dX4_removeStation_17 : decode cX4_removeStation 17 = .ok (.getfield 10, 3) := by decide +kernel
theorem dX4_removeStation_20 : decode cX4_removeStation 20 = .ok (.iload_n 1, 1) := by decide +kernel
theorem dX4_removeStation_21 : decode cX4_removeStation 21 = .ok (.invokevirtual 135, 3) := by decide +kernel
theorem dX4_removeStation_24 : decode cX4_removeStation 24 = .ok (.aload_n 0, 1) := by decide +kernel
theorem dX4_removeStation_25 : decode cX4_removeStation 25 = .ok (.invokevirtual 93, 3) := by decide +kernel
theorem dX4_removeStation_28 : decode cX4_removeStation 28 = .ok (.aload_n 0, 1) := by decide +kernel
theorem dX4_removeStation_29 : decode cX4_removeStation 29 = .ok (.getfield 10, 3) := by decide +kernel
theorem dX4_removeStation_32 : decode cX4_removeStation 32 = .ok (.invokevirtual 127, 3) := by decide +kernel
theorem dX4_removeStation_35 : decode cX4_removeStation 35 = .ok (.ireturn, 1) := by decide +kernel
theorem dX4_setReturn_0 : decode cX4_setReturn 0 = .ok (.aload_n 0, 1) := by decide +kernel
theorem dX4_setReturn_1 : decode cX4_setReturn 1 = .ok (.iload_n 1, 1) := by decide +kernel
theorem dX4_setReturn_2 : decode cX4_setReturn 2 = .ok (.invokevirtual 138, 3) := by decide +kernel
theorem dX4_setReturn_5 : decode cX4_setReturn 5 = .ok (.iload_n 2, 1) := by decide +kernel
theorem dX4_setReturn_6 : decode cX4_setReturn 6 = .ok (.sipush 200, 3) := by decide +kernel
theorem dX4_setReturn_9 : decode cX4_setReturn 9 = .ok (.sipush 600, 3) := by decide +kernel
theorem dX4_setReturn_12 : decode cX4_setReturn 12 = .ok (.invokestatic 141, 3) := by decide +kernel
theorem dX4_setReturn_15 : decode cX4_setReturn 15 = .ok (.aload_n 0, 1) := by decide +kernel
theorem dX4_setReturn_16 : decode cX4_setReturn 16 = .ok (.getfield 10, 3) := by decide +kernel
theorem dX4_setReturn_19 : decode cX4_setReturn 19 = .ok (.getfield 145, 3) := by decide +kernel
theorem dX4_setReturn_22 : decode cX4_setReturn 22 = .ok (.iload_n 1, 1) := by decide +kernel
theorem dX4_setReturn_23 : decode cX4_setReturn 23 = .ok (.iaload, 1) := by decide +kernel
theorem dX4_setReturn_24 : decode cX4_setReturn 24 = .ok (.istore_n 3, 1) := by decide +kernel
theorem dX4_setReturn_25 : decode cX4_setReturn 25 = .ok (.aload_n 0, 1) := by decide +kernel
theorem dX4_setReturn_26 : decode cX4_setReturn 26 = .ok (.invokevirtual 90, 3) := by decide +kernel
theorem dX4_setReturn_29 : decode cX4_setReturn 29 = .ok (.aload_n 0, 1) := by decide +kernel
theorem dX4_setReturn_30 : decode cX4_setReturn 30 = .ok (.getfield 10, 3) := by decide +kernel
theorem dX4_setReturn_33 : decode cX4_setReturn 33 = .ok (.getfield 145, 3) := by decide +kernel
theorem dX4_setReturn_36 : decode cX4_setReturn 36 = .ok (.iload_n 1, 1) := by decide +kernel
theorem dX4_setReturn_37 : decode cX4_setReturn 37 = .ok (.iload_n 2, 1) := by decide +kernel
theorem dX4_setReturn_38 : decode cX4_setReturn 38 = .ok (.iastore, 1) := by decide +kernel
theorem dX4_setReturn_39 : decode cX4_setReturn 39 = .ok (.aload_n 0, 1) := by decide +kernel
theorem dX4_setReturn_40 : decode cX4_setReturn 40 = .ok (.invokevirtual 93, 3) := by decide +kernel
theorem dX4_setReturn_43 : decode cX4_setReturn 43 = .ok (.iload_n 3, 1) := by decide +kernel
theorem dX4_setReturn_44 : decode cX4_setReturn 44 = .ok (.ireturn, 1) := by decide +kernel
theorem dX4_setMeter_0 : decode cX4_setMeter 0 = .ok (.aload_n 0, 1) := by decide +kernel
theorem dX4_setMeter_1 : decode cX4_setMeter 1 = .ok (.iload_n 1, 1) := by decide +kernel
theorem dX4_setMeter_2 : decode cX4_setMeter 2 = .ok (.invokevirtual 138, 3) := by decide +kernel
theorem dX4_setMeter_5 : decode cX4_setMeter 5 = .ok (.iload_n 2, 1) := by decide +kernel
theorem dX4_setMeter_6 : decode cX4_setMeter 6 = .ok (.iconst 0, 1) := by decide +kernel
theorem dX4_setMeter_7 : decode cX4_setMeter 7 = .ok (.iconst 2, 1) := by decide +kernel
theorem dX4_setMeter_8 : decode cX4_setMeter 8 = .ok (.invokestatic 141, 3) := by decide +kernel
theorem dX4_setMeter_11 : decode cX4_setMeter 11 = .ok (.iload_n 3, 1) := by decide +kernel
theorem dX4_setMeter_12 : decode cX4_setMeter 12 = .ok (.iconst 0, 1) := by decide +kernel
theorem dX4_setMeter_13 : decode cX4_setMeter 13 = .ok (.sipush 2000, 3) := by decide +kernel
theorem dX4_setMeter_16 : decode cX4_setMeter 16 = .ok (.invokestatic 141, 3) := by decide +kernel
theorem dX4_setMeter_19 : decode cX4_setMeter 19 = .ok (.aload_n 0, 1) := by decide +kernel
theorem dX4_setMeter_20 : decode cX4_setMeter 20 = .ok (.getfield 10, 3) := by decide +kernel
theorem dX4_setMeter_23 : decode cX4_setMeter 23 = .ok (.getfield 148, 3) := by decide +kernel
theorem dX4_setMeter_26 : decode cX4_setMeter 26 = .ok (.iload_n 1, 1) := by decide +kernel
theorem dX4_setMeter_27 : decode cX4_setMeter 27 = .ok (.iaload, 1) := by decide +kernel
theorem dX4_setMeter_28 : decode cX4_setMeter 28 = .ok (.istore 4, 2) := by decide +kernel
theorem dX4_setMeter_30 : decode cX4_setMeter 30 = .ok (.aload_n 0, 1) := by decide +kernel
theorem dX4_setMeter_31 : decode cX4_setMeter 31 = .ok (.invokevirtual 90, 3) := by decide +kernel
theorem dX4_setMeter_34 : decode cX4_setMeter 34 = .ok (.aload_n 0, 1) := by decide +kernel
theorem dX4_setMeter_35 : decode cX4_setMeter 35 = .ok (.getfield 10, 3) := by decide +kernel
theorem dX4_setMeter_38 : decode cX4_setMeter 38 = .ok (.getfield 148, 3) := by decide +kernel
theorem dX4_setMeter_41 : decode cX4_setMeter 41 = .ok (.iload_n 1, 1) := by decide +kernel
theorem dX4_setMeter_42 : decode cX4_setMeter 42 = .ok (.iload_n 2, 1) := by decide +kernel
theorem dX4_setMeter_43 : decode cX4_setMeter 43 = .ok (.iastore, 1) := by decide +kernel
theorem dX4_setMeter_44 : decode cX4_setMeter 44 = .ok (.aload_n 0, 1) := by decide +kernel
theorem dX4_setMeter_45 : decode cX4_setMeter 45 = .ok (.getfield 10, 3) := by decide +kernel
theorem dX4_setMeter_48 : decode cX4_setMeter 48 = .ok (.getfield 151, 3) := by decide +kernel
theorem dX4_setMeter_51 : decode cX4_setMeter 51 = .ok (.iload_n 1, 1) := by decide +kernel
theorem dX4_setMeter_52 : decode cX4_setMeter 52 = .ok (.iload_n 3, 1) := by decide +kernel
theorem dX4_setMeter_53 : decode cX4_setMeter 53 = .ok (.iastore, 1) := by decide +kernel
theorem dX4_setMeter_54 : decode cX4_setMeter 54 = .ok (.aload_n 0, 1) := by decide +kernel
theorem dX4_setMeter_55 : decode cX4_setMeter 55 = .ok (.invokevirtual 93, 3) := by decide +kernel
theorem dX4_setMeter_58 : decode cX4_setMeter 58 = .ok (.iload 4, 2) := by decide +kernel
theorem dX4_setMeter_60 : decode cX4_setMeter 60 = .ok (.ireturn, 1) := by decide +kernel
theorem dX4_hours_0 : decode cX4_hours 0 = .ok (.iload_n 1, 1) := by decide +kernel
theorem dX4_hours_1 : decode cX4_hours 1 = .ok (.iconst 1, 1) := by decide +kernel
theorem dX4_hours_2 : decode cX4_hours 2 = .ok (.bipush 24, 2) := by decide +kernel
theorem dX4_hours_4 : decode cX4_hours 4 = .ok (.invokestatic 141, 3) := by decide +kernel
theorem dX4_hours_7 : decode cX4_hours 7 = .ok (.aload_n 0, 1) := by decide +kernel
theorem dX4_hours_8 : decode cX4_hours 8 = .ok (.invokevirtual 154, 3) := by decide +kernel
theorem dX4_hours_11 : decode cX4_hours 11 = .ok (.aload_n 0, 1) := by decide +kernel
theorem dX4_hours_12 : decode cX4_hours 12 = .ok (.aload_n 0, 1) := by decide +kernel
theorem dX4_hours_13 : decode cX4_hours 13 = .ok (.invokevirtual 157, 3) := by decide +kernel
theorem dX4_hours_16 : decode cX4_hours 16 = .ok (.invokevirtual 104, 3) := by decide +kernel
theorem dX4_hours_19 : decode cX4_hours 19 = .ok (.aload_n 0, 1) := by decide +kernel
theorem dX4_hours_20 : decode cX4_hours 20 = .ok (.invokevirtual 90, 3) := by decide +kernel
theorem dX4_hours_23 : decode cX4_hours 23 = .ok (.aload_n 0, 1) := by decide +kernel
theorem dX4_hours_24 : decode cX4_hours 24 = .ok (.iload_n 1, 1) := by decide +kernel
theorem dX4_hours_25 : decode cX4_hours 25 = .ok (.invokevirtual 160, 3) := by decide +kernel
theorem dX4_hours_28 : decode cX4_hours 28 = .ok (.aload_n 0, 1) := by decide +kernel
theorem dX4_hours_29 : decode cX4_hours 29 = .ok (.invokevirtual 93, 3) := by decide +kernel
theorem dX4_hours_32 : decode cX4_hours 32 = .ok (.aload_n 0, 1) := by decide +kernel
theorem dX4_hours_33 : decode cX4_hours 33 = .ok (.getfield 10, 3) := by decide +kernel
theorem dX4_hours_36 : decode cX4_hours 36 = .ok (.getfield 163, 3) := by decide +kernel
theorem dX4_hours_39 : decode cX4_hours 39 = .ok (.lreturn, 1) := by decide +kernel
theorem dX4_append_0 : decode cX4_append 0 = .ok (.iload_n 1, 1) := by decide +kernel
theorem dX4_append_1 : decode cX4_append 1 = .ok (.bipush 32, 2) := by decide +kernel
theorem dX4_append_3 : decode cX4_append 3 = .ok (.bipush 126, 2) := by decide +kernel
theorem dX4_append_5 : decode cX4_append 5 = .ok (.invokestatic 141, 3) := by decide +kernel
theorem dX4_append_8 : decode cX4_append 8 = .ok (.aload_n 0, 1) := by decide +kernel
theorem dX4_append_9 : decode cX4_append 9 = .ok (.getfield 46, 3) := by decide +kernel
theorem dX4_append_12 : decode cX4_append 12 = .ok (.getfield 167, 3) := by decide +kernel
theorem dX4_append_15 : decode cX4_append 15 = .ok (.bipush 60, 2) := by decide +kernel
theorem dX4_append_17 : decode cX4_append 17 = .ok (.if_icmp .lt 13, 3) := by decide +kernel
theorem dX4_append_20 : decode cX4_append 20 = .ok (.new 170, 3) := by decide +kernel
theorem dX4_append_23 : decode cX4_append 23 = .ok (.dup, 1) := by decide +kernel
theorem dX4_append_24 : decode cX4_append 24 = .ok (.ldc 172, 2) := by decide +kernel
theorem dX4_append_26 : decode cX4_append 26 = .ok (.invokespecial 174, 3) := by decide +kernel
theorem dX4_append_29 : decode cX4_append 29 = .ok (.athrow, 1) := by decide +kernel
theorem dX4_append_30 : decode cX4_append 30 = .ok (.aload_n 0, 1) := by decide +kernel
theorem dX4_append_31 : decode cX4_append 31 = .ok (.getfield 46, 3) := by decide +kernel
theorem dX4_append_34 : decode cX4_append 34 = .ok (.getfield 175, 3) := by decide +kernel
theorem dX4_append_37 : decode cX4_append 37 = .ok (.aload_n 0, 1) := by decide +kernel
theorem dX4_append_38 : decode cX4_append 38 = .ok (.getfield 46, 3) := by decide +kernel
theorem dX4_append_41 : decode cX4_append 41 = .ok (.getfield 167, 3) := by decide +kernel
theorem dX4_append_44 : decode cX4_append 44 = .ok (.iload_n 1, 1) := by decide +kernel
theorem dX4_append_45 : decode cX4_append 45 = .ok (.i2c, 1) := by decide +kernel
theorem dX4_append_46 : decode cX4_append 46 = .ok (.castore, 1) := by decide +kernel
theorem dX4_append_47 : decode cX4_append 47 = .ok (.aload_n 0, 1) := by decide +kernel
theorem dX4_append_48 : decode cX4_append 48 = .ok (.getfield 46, 3) := by decide +kernel
theorem dX4_append_51 : decode cX4_append 51 = .ok (.dup, 1) := by decide +kernel
theorem dX4_append_52 : decode cX4_append 52 = .ok (.getfield 167, 3) := by decide +kernel
theorem dX4_append_55 : decode cX4_append 55 = .ok (.iconst 1, 1) := by decide +kernel
theorem dX4_append_56 : decode cX4_append 56 = .ok (.iadd, 1) := by decide +kernel
theorem dX4_append_57 : decode cX4_append 57 = .ok (.putfield 167, 3) := by decide +kernel
theorem dX4_append_60 : decode cX4_append 60 = .ok (.aload_n 0, 1) := by decide +kernel
theorem dX4_append_61 : decode cX4_append 61 = .ok (.getfield 46, 3) := by decide +kernel
theorem dX4_append_64 : decode cX4_append 64 = .ok (.getfield 167, 3) := by decide +kernel
theorem dX4_append_67 : decode cX4_append 67 = .ok (.ireturn, 1) := by decide +kernel
theorem dX4_run_0 : decode cX4_run 0 = .ok (.aload_n 0, 1) := by decide +kernel
theorem dX4_run_1 : decode cX4_run 1 = .ok (.aload_n 0, 1) := by decide +kernel
theorem dX4_run_2 : decode cX4_run 2 = .ok (.getfield 46, 3) := by decide +kernel
theorem dX4_run_5 : decode cX4_run 5 = .ok (.invokevirtual 179, 3) := by decide +kernel
theorem dX4_run_8 : decode cX4_run 8 = .ok (.putfield 64, 3) := by decide +kernel
theorem dX4_run_11 : decode cX4_run 11 = .ok (.aload_n 0, 1) := by decide +kernel
theorem dX4_run_12 : decode cX4_run 12 = .ok (.getfield 46, 3) := by decide +kernel
theorem dX4_run_15 : decode cX4_run 15 = .ok (.iconst 0, 1) := by decide +kernel
theorem dX4_run_16 : decode cX4_run 16 = .ok (.putfield 167, 3) := by decide +kernel
theorem dX4_run_19 : decode cX4_run 19 = .ok (.aload_n 0, 1) := by decide +kernel
theorem dX4_run_20 : decode cX4_run 20 = .ok (.getfield 64, 3) := by decide +kernel
theorem dX4_run_23 : decode cX4_run 23 = .ok (.ifCond .lt 13, 3) := by decide +kernel
theorem dX4_run_26 : decode cX4_run 26 = .ok (.new 81, 3) := by decide +kernel
theorem dX4_run_29 : decode cX4_run 29 = .ok (.dup, 1) := by decide +kernel
theorem dX4_run_30 : decode cX4_run 30 = .ok (.ldc 182, 2) := by decide +kernel
theorem dX4_run_32 : decode cX4_run 32 = .ok (.invokespecial 85, 3) := by decide +kernel
theorem dX4_run_35 : decode cX4_run 35 = .ok (.athrow, 1) := by decide +kernel
theorem dX4_run_36 : decode cX4_run 36 = .ok (.aload_n 0, 1) := by decide +kernel
theorem dX4_run_37 : decode cX4_run 37 = .ok (.invokevirtual 90, 3) := by decide +kernel
theorem dX4_run_40 : decode cX4_run 40 = .ok (.iconst 0, 1) := by decide +kernel
theorem dX4_run_41 : decode cX4_run 41 = .ok (.istore_n 1, 1) := by decide +kernel
theorem dX4_run_42 : decode cX4_run 42 = .ok (.iconst 0, 1) := by decide +kernel
theorem dX4_run_43 : decode cX4_run 43 = .ok (.istore_n 2, 1) := by decide +kernel
theorem dX4_run_44 : decode cX4_run 44 = .ok (.iload_n 2, 1) := by decide +kernel
theorem dX4_run_45 : decode cX4_run 45 = .ok (.aload_n 0, 1) := by decide +kernel
theorem dX4_run_46 : decode cX4_run 46 = .ok (.getfield 46, 3) := by decide +kernel
theorem dX4_run_49 : decode cX4_run 49 = .ok (.getfield 184, 3) := by decide +kernel
theorem dX4_run_52 : decode cX4_run 52 = .ok (.if_icmp .ge 37, 3) := by decide +kernel
theorem dX4_run_55 : decode cX4_run 55 = .ok (.iload_n 1, 1) := by decide +kernel
theorem dX4_run_56 : decode cX4_run 56 = .ok (.ifCond .ne 33, 3) := by decide +kernel
theorem dX4_run_59 : decode cX4_run 59 = .ok (.aload_n 0, 1) := by decide +kernel
theorem dX4_run_60 : decode cX4_run 60 = .ok (.getfield 46, 3) := by decide +kernel
theorem dX4_run_63 : decode cX4_run 63 = .ok (.getfield 187, 3) := by decide +kernel
theorem dX4_run_66 : decode cX4_run 66 = .ok (.iload_n 2, 1) := by decide +kernel
theorem dX4_run_67 : decode cX4_run 67 = .ok (.caload, 1) := by decide +kernel
theorem dX4_run_68 : decode cX4_run 68 = .ok (.bipush 104, 2) := by decide +kernel
theorem dX4_run_70 : decode cX4_run 70 = .ok (.if_icmp .ne 7, 3) := by decide +kernel
theorem dX4_run_73 : decode cX4_run 73 = .ok (.aload_n 0, 1) := by decide +kernel
theorem dX4_run_74 : decode cX4_run 74 = .ok (.invokevirtual 154, 3) := by decide +kernel
theorem dX4_run_77 : decode cX4_run 77 = .ok (.aload_n 0, 1) := by decide +kernel
theorem dX4_run_78 : decode cX4_run 78 = .ok (.iload_n 2, 1) := by decide +kernel
theorem dX4_run_79 : decode cX4_run 79 = .ok (.invokevirtual 190, 3) := by decide +kernel
theorem dX4_run_82 : decode cX4_run 82 = .ok (.istore_n 1, 1) := by decide +kernel
theorem dX4_run_83 : decode cX4_run 83 = .ok (.iinc 2 1, 3) := by decide +kernel
theorem dX4_run_86 : decode cX4_run 86 = .ok (.goto (-42), 3) := by decide +kernel
theorem dX4_run_89 : decode cX4_run 89 = .ok (.iload_n 1, 1) := by decide +kernel
theorem dX4_run_90 : decode cX4_run 90 = .ok (.ifCond .eq 24, 3) := by decide +kernel
theorem dX4_run_93 : decode cX4_run 93 = .ok (.aload_n 0, 1) := by decide +kernel
theorem dX4_run_94 : decode cX4_run 94 = .ok (.getfield 10, 3) := by decide +kernel
theorem dX4_run_97 : decode cX4_run 97 = .ok (.aload_n 0, 1) := by decide +kernel
theorem dX4_run_98 : decode cX4_run 98 = .ok (.getfield 22, 3) := by decide +kernel
theorem dX4_run_101 : decode cX4_run 101 = .ok (.aload_n 0, 1) := by decide +kernel
theorem dX4_run_102 : decode cX4_run 102 = .ok (.getfield 50, 3) := by decide +kernel
theorem dX4_run_105 : decode cX4_run 105 = .ok (.aaload, 1) := by decide +kernel
theorem dX4_run_106 : decode cX4_run 106 = .ok (.invokevirtual 193, 3) := by decide +kernel
theorem dX4_run_109 : decode cX4_run 109 = .ok (.aload_n 0, 1) := by decide +kernel
theorem dX4_run_110 : decode cX4_run 110 = .ok (.iconst 0, 1) := by decide +kernel
theorem dX4_run_111 : decode cX4_run 111 = .ok (.putfield 61, 3) := by decide +kernel
theorem dX4_run_114 : decode cX4_run 114 = .ok (.aload_n 0, 1) := by decide +kernel
theorem dX4_run_115 : decode cX4_run 115 = .ok (.iload_n 1, 1) := by decide +kernel
theorem dX4_run_116 : decode cX4_run 116 = .ok (.invokevirtual 104, 3) := by decide +kernel
theorem dX4_run_119 : decode cX4_run 119 = .ok (.aload_n 0, 1) := by decide +kernel
theorem dX4_run_120 : decode cX4_run 120 = .ok (.invokevirtual 93, 3) := by decide +kernel
theorem dX4_run_123 : decode cX4_run 123 = .ok (.aload_n 0, 1) := by decide +kernel
theorem dX4_run_124 : decode cX4_run 124 = .ok (.getfield 46, 3) := by decide +kernel
theorem dX4_run_127 : decode cX4_run 127 = .ok (.getfield 184, 3) := by decide +kernel
theorem dX4_run_130 : decode cX4_run 130 = .ok (.ireturn, 1) := by decide +kernel
theorem dX4_faultPosition_0 : decode cX4_faultPosition 0 = .ok (.aload_n 0, 1) := by decide +kernel
theorem dX4_faultPosition_1 : decode cX4_faultPosition 1 = .ok (.getfield 64, 3) := by decide +kernel
theorem dX4_faultPosition_4 : decode cX4_faultPosition 4 = .ok (.ireturn, 1) := by decide +kernel
theorem dX4_refusal_0 : decode cX4_refusal 0 = .ok (.aload_n 0, 1) := by decide +kernel
theorem dX4_refusal_1 : decode cX4_refusal 1 = .ok (.getfield 67, 3) := by decide +kernel
theorem dX4_refusal_4 : decode cX4_refusal 4 = .ok (.ifCond .ne 13, 3) := by decide +kernel
theorem dX4_refusal_7 : decode cX4_refusal 7 = .ok (.new 197, 3) := by decide +kernel
theorem dX4_refusal_10 : decode cX4_refusal 10 = .ok (.dup, 1) := by decide +kernel
theorem dX4_refusal_11 : decode cX4_refusal 11 = .ok (.ldc 199, 2) := by decide +kernel
theorem dX4_refusal_13 : decode cX4_refusal 13 = .ok (.invokespecial 201, 3) := by decide +kernel
theorem dX4_refusal_16 : decode cX4_refusal 16 = .ok (.athrow, 1) := by decide +kernel
theorem dX4_refusal_17 : decode cX4_refusal 17 = .ok (.aload_n 0, 1) := by decide +kernel
theorem dX4_refusal_18 : decode cX4_refusal 18 = .ok (.getfield 67, 3) := by decide +kernel
theorem dX4_refusal_21 : decode cX4_refusal 21 = .ok (.ireturn, 1) := by decide +kernel
theorem dX4_pipe_0 : decode cX4_pipe 0 = .ok (.aload_n 0, 1) := by decide +kernel
theorem dX4_pipe_1 : decode cX4_pipe 1 = .ok (.iload_n 1, 1) := by decide +kernel
theorem dX4_pipe_2 : decode cX4_pipe 2 = .ok (.invokevirtual 115, 3) := by decide +kernel
theorem dX4_pipe_5 : decode cX4_pipe 5 = .ok (.iload_n 2, 1) := by decide +kernel
theorem dX4_pipe_6 : decode cX4_pipe 6 = .ok (.iconst 0, 1) := by decide +kernel
theorem dX4_pipe_7 : decode cX4_pipe 7 = .ok (.iconst 4, 1) := by decide +kernel
theorem dX4_pipe_8 : decode cX4_pipe 8 = .ok (.invokestatic 141, 3) := by decide +kernel
theorem dX4_pipe_11 : decode cX4_pipe 11 = .ok (.iload_n 2, 1) := by decide +kernel
theorem dX4_pipe_12 : decode cX4_pipe 12 = .ok (.tableswitch 72 0 3 #[32, 42, 52, 62], 32) := by decide +kernel
theorem dX4_pipe_44 : decode cX4_pipe 44 = .ok (.aload_n 0, 1) := by decide +kernel
theorem dX4_pipe_45 : decode cX4_pipe 45 = .ok (.getfield 10, 3) := by decide +kernel
theorem dX4_pipe_48 : decode cX4_pipe 48 = .ok (.getfield 202, 3) := by decide +kernel
theorem dX4_pipe_51 : decode cX4_pipe 51 = .ok (.iload_n 1, 1) := by decide +kernel
theorem dX4_pipe_52 : decode cX4_pipe 52 = .ok (.iaload, 1) := by decide +kernel
theorem dX4_pipe_53 : decode cX4_pipe 53 = .ok (.ireturn, 1) := by decide +kernel
theorem dX4_pipe_54 : decode cX4_pipe 54 = .ok (.aload_n 0, 1) := by decide +kernel
theorem dX4_pipe_55 : decode cX4_pipe 55 = .ok (.getfield 10, 3) := by decide +kernel
theorem dX4_pipe_58 : decode cX4_pipe 58 = .ok (.getfield 205, 3) := by decide +kernel
theorem dX4_pipe_61 : decode cX4_pipe 61 = .ok (.iload_n 1, 1) := by decide +kernel
theorem dX4_pipe_62 : decode cX4_pipe 62 = .ok (.iaload, 1) := by decide +kernel
theorem dX4_pipe_63 : decode cX4_pipe 63 = .ok (.ireturn, 1) := by decide +kernel
theorem dX4_pipe_64 : decode cX4_pipe 64 = .ok (.aload_n 0, 1) := by decide +kernel
theorem dX4_pipe_65 : decode cX4_pipe 65 = .ok (.getfield 10, 3) := by decide +kernel
theorem dX4_pipe_68 : decode cX4_pipe 68 = .ok (.getfield 208, 3) := by decide +kernel
theorem dX4_pipe_71 : decode cX4_pipe 71 = .ok (.iload_n 1, 1) := by decide +kernel
theorem dX4_pipe_72 : decode cX4_pipe 72 = .ok (.iaload, 1) := by decide +kernel
theorem dX4_pipe_73 : decode cX4_pipe 73 = .ok (.ireturn, 1) := by decide +kernel
theorem dX4_pipe_74 : decode cX4_pipe 74 = .ok (.aload_n 0, 1) := by decide +kernel
theorem dX4_pipe_75 : decode cX4_pipe 75 = .ok (.getfield 10, 3) := by decide +kernel
theorem dX4_pipe_78 : decode cX4_pipe 78 = .ok (.getfield 211, 3) := by decide +kernel
theorem dX4_pipe_81 : decode cX4_pipe 81 = .ok (.iload_n 1, 1) := by decide +kernel
theorem dX4_pipe_82 : decode cX4_pipe 82 = .ok (.iaload, 1) := by decide +kernel
theorem dX4_pipe_83 : decode cX4_pipe 83 = .ok (.ireturn, 1) := by decide +kernel
theorem dX4_pipe_84 : decode cX4_pipe 84 = .ok (.aload_n 0, 1) := by decide +kernel
theorem dX4_pipe_85 : decode cX4_pipe 85 = .ok (.invokevirtual 154, 3) := by decide +kernel
theorem dX4_pipe_88 : decode cX4_pipe 88 = .ok (.aload_n 0, 1) := by decide +kernel
theorem dX4_pipe_89 : decode cX4_pipe 89 = .ok (.getfield 29, 3) := by decide +kernel
theorem dX4_pipe_92 : decode cX4_pipe 92 = .ok (.getfield 214, 3) := by decide +kernel
theorem dX4_pipe_95 : decode cX4_pipe 95 = .ok (.iload_n 1, 1) := by decide +kernel
theorem dX4_pipe_96 : decode cX4_pipe 96 = .ok (.baload, 1) := by decide +kernel
theorem dX4_pipe_97 : decode cX4_pipe 97 = .ok (.ifCond .eq 7, 3) := by decide +kernel
theorem dX4_pipe_100 : decode cX4_pipe 100 = .ok (.iconst 1, 1) := by decide +kernel
theorem dX4_pipe_101 : decode cX4_pipe 101 = .ok (.goto 4, 3) := by decide +kernel
theorem dX4_pipe_104 : decode cX4_pipe 104 = .ok (.iconst 0, 1) := by decide +kernel
theorem dX4_pipe_105 : decode cX4_pipe 105 = .ok (.ireturn, 1) := by decide +kernel
theorem dX4_station_0 : decode cX4_station 0 = .ok (.aload_n 0, 1) := by decide +kernel
theorem dX4_station_1 : decode cX4_station 1 = .ok (.iload_n 1, 1) := by decide +kernel
theorem dX4_station_2 : decode cX4_station 2 = .ok (.invokevirtual 138, 3) := by decide +kernel
theorem dX4_station_5 : decode cX4_station 5 = .ok (.iload_n 2, 1) := by decide +kernel
theorem dX4_station_6 : decode cX4_station 6 = .ok (.iconst 0, 1) := by decide +kernel
theorem dX4_station_7 : decode cX4_station 7 = .ok (.bipush 7, 2) := by decide +kernel
theorem dX4_station_9 : decode cX4_station 9 = .ok (.invokestatic 141, 3) := by decide +kernel
theorem dX4_station_12 : decode cX4_station 12 = .ok (.iload_n 2, 1) := by decide +kernel
theorem dX4_station_13 : decode cX4_station 13 = .ok (.tableswitch 116 0 6 #[43, 53, 63, 73, 83, 93, 102], 43) := by decide +kernel
theorem dX4_station_56 : decode cX4_station 56 = .ok (.aload_n 0, 1) := by decide +kernel
theorem dX4_station_57 : decode cX4_station 57 = .ok (.getfield 10, 3) := by decide +kernel
theorem dX4_station_60 : decode cX4_station 60 = .ok (.getfield 218, 3) := by decide +kernel
theorem dX4_station_63 : decode cX4_station 63 = .ok (.iload_n 1, 1) := by decide +kernel
theorem dX4_station_64 : decode cX4_station 64 = .ok (.iaload, 1) := by decide +kernel
theorem dX4_station_65 : decode cX4_station 65 = .ok (.ireturn, 1) := by decide +kernel
theorem dX4_station_66 : decode cX4_station 66 = .ok (.aload_n 0, 1) := by decide +kernel
theorem dX4_station_67 : decode cX4_station 67 = .ok (.getfield 10, 3) := by decide +kernel
theorem dX4_station_70 : decode cX4_station 70 = .ok (.getfield 145, 3) := by decide +kernel
theorem dX4_station_73 : decode cX4_station 73 = .ok (.iload_n 1, 1) := by decide +kernel
theorem dX4_station_74 : decode cX4_station 74 = .ok (.iaload, 1) := by decide +kernel
theorem dX4_station_75 : decode cX4_station 75 = .ok (.ireturn, 1) := by decide +kernel
theorem dX4_station_76 : decode cX4_station 76 = .ok (.aload_n 0, 1) := by decide +kernel
theorem dX4_station_77 : decode cX4_station 77 = .ok (.getfield 10, 3) := by decide +kernel
theorem dX4_station_80 : decode cX4_station 80 = .ok (.getfield 221, 3) := by decide +kernel
theorem dX4_station_83 : decode cX4_station 83 = .ok (.iload_n 1, 1) := by decide +kernel
theorem dX4_station_84 : decode cX4_station 84 = .ok (.iaload, 1) := by decide +kernel
theorem dX4_station_85 : decode cX4_station 85 = .ok (.ireturn, 1) := by decide +kernel
theorem dX4_station_86 : decode cX4_station 86 = .ok (.aload_n 0, 1) := by decide +kernel
theorem dX4_station_87 : decode cX4_station 87 = .ok (.getfield 10, 3) := by decide +kernel
theorem dX4_station_90 : decode cX4_station 90 = .ok (.getfield 148, 3) := by decide +kernel
theorem dX4_station_93 : decode cX4_station 93 = .ok (.iload_n 1, 1) := by decide +kernel
theorem dX4_station_94 : decode cX4_station 94 = .ok (.iaload, 1) := by decide +kernel
theorem dX4_station_95 : decode cX4_station 95 = .ok (.ireturn, 1) := by decide +kernel
theorem dX4_station_96 : decode cX4_station 96 = .ok (.aload_n 0, 1) := by decide +kernel
theorem dX4_station_97 : decode cX4_station 97 = .ok (.getfield 10, 3) := by decide +kernel
theorem dX4_station_100 : decode cX4_station 100 = .ok (.getfield 151, 3) := by decide +kernel
theorem dX4_station_103 : decode cX4_station 103 = .ok (.iload_n 1, 1) := by decide +kernel
theorem dX4_station_104 : decode cX4_station 104 = .ok (.iaload, 1) := by decide +kernel
theorem dX4_station_105 : decode cX4_station 105 = .ok (.ireturn, 1) := by decide +kernel
theorem dX4_station_106 : decode cX4_station 106 = .ok (.aload_n 0, 1) := by decide +kernel
theorem dX4_station_107 : decode cX4_station 107 = .ok (.getfield 10, 3) := by decide +kernel
theorem dX4_station_110 : decode cX4_station 110 = .ok (.iload_n 1, 1) := by decide +kernel
theorem dX4_station_111 : decode cX4_station 111 = .ok (.invokevirtual 224, 3) := by decide +kernel
theorem dX4_station_114 : decode cX4_station 114 = .ok (.ireturn, 1) := by decide +kernel
theorem dX4_station_115 : decode cX4_station 115 = .ok (.aload_n 0, 1) := by decide +kernel
theorem dX4_station_116 : decode cX4_station 116 = .ok (.invokevirtual 154, 3) := by decide +kernel
theorem dX4_station_119 : decode cX4_station 119 = .ok (.aload_n 0, 1) := by decide +kernel
theorem dX4_station_120 : decode cX4_station 120 = .ok (.getfield 36, 3) := by decide +kernel
theorem dX4_station_123 : decode cX4_station 123 = .ok (.getfield 227, 3) := by decide +kernel
theorem dX4_station_126 : decode cX4_station 126 = .ok (.iload_n 1, 1) := by decide +kernel
theorem dX4_station_127 : decode cX4_station 127 = .ok (.iaload, 1) := by decide +kernel
theorem dX4_station_128 : decode cX4_station 128 = .ok (.ireturn, 1) := by decide +kernel
theorem dX4_station_129 : decode cX4_station 129 = .ok (.aload_n 0, 1) := by decide +kernel
theorem dX4_station_130 : decode cX4_station 130 = .ok (.getfield 10, 3) := by decide +kernel
theorem dX4_station_133 : decode cX4_station 133 = .ok (.iload_n 1, 1) := by decide +kernel
theorem dX4_station_134 : decode cX4_station 134 = .ok (.invokevirtual 230, 3) := by decide +kernel
theorem dX4_station_137 : decode cX4_station 137 = .ok (.ireturn, 1) := by decide +kernel
theorem dX4_meter_0 : decode cX4_meter 0 = .ok (.aload_n 0, 1) := by decide +kernel
theorem dX4_meter_1 : decode cX4_meter 1 = .ok (.iload_n 1, 1) := by decide +kernel
theorem dX4_meter_2 : decode cX4_meter 2 = .ok (.invokevirtual 138, 3) := by decide +kernel
theorem dX4_meter_5 : decode cX4_meter 5 = .ok (.iload_n 2, 1) := by decide +kernel
theorem dX4_meter_6 : decode cX4_meter 6 = .ok (.iconst 0, 1) := by decide +kernel
theorem dX4_meter_7 : decode cX4_meter 7 = .ok (.iconst 3, 1) := by decide +kernel
theorem dX4_meter_8 : decode cX4_meter 8 = .ok (.invokestatic 141, 3) := by decide +kernel
theorem dX4_meter_11 : decode cX4_meter 11 = .ok (.iload_n 2, 1) := by decide +kernel
theorem dX4_meter_12 : decode cX4_meter 12 = .ok (.tableswitch 58 0 2 #[28, 38, 48], 28) := by decide +kernel
theorem dX4_meter_40 : decode cX4_meter 40 = .ok (.aload_n 0, 1) := by decide +kernel
theorem dX4_meter_41 : decode cX4_meter 41 = .ok (.getfield 10, 3) := by decide +kernel
theorem dX4_meter_44 : decode cX4_meter 44 = .ok (.getfield 233, 3) := by decide +kernel
theorem dX4_meter_47 : decode cX4_meter 47 = .ok (.iload_n 1, 1) := by decide +kernel
theorem dX4_meter_48 : decode cX4_meter 48 = .ok (.laload, 1) := by decide +kernel
theorem dX4_meter_49 : decode cX4_meter 49 = .ok (.lreturn, 1) := by decide +kernel
theorem dX4_meter_50 : decode cX4_meter 50 = .ok (.aload_n 0, 1) := by decide +kernel
theorem dX4_meter_51 : decode cX4_meter 51 = .ok (.getfield 10, 3) := by decide +kernel
theorem dX4_meter_54 : decode cX4_meter 54 = .ok (.getfield 237, 3) := by decide +kernel
theorem dX4_meter_57 : decode cX4_meter 57 = .ok (.iload_n 1, 1) := by decide +kernel
theorem dX4_meter_58 : decode cX4_meter 58 = .ok (.laload, 1) := by decide +kernel
theorem dX4_meter_59 : decode cX4_meter 59 = .ok (.lreturn, 1) := by decide +kernel
theorem dX4_meter_60 : decode cX4_meter 60 = .ok (.aload_n 0, 1) := by decide +kernel
theorem dX4_meter_61 : decode cX4_meter 61 = .ok (.getfield 10, 3) := by decide +kernel
theorem dX4_meter_64 : decode cX4_meter 64 = .ok (.getfield 240, 3) := by decide +kernel
theorem dX4_meter_67 : decode cX4_meter 67 = .ok (.iload_n 1, 1) := by decide +kernel
theorem dX4_meter_68 : decode cX4_meter 68 = .ok (.laload, 1) := by decide +kernel
theorem dX4_meter_69 : decode cX4_meter 69 = .ok (.lreturn, 1) := by decide +kernel
theorem dX4_meter_70 : decode cX4_meter 70 = .ok (.aload_n 0, 1) := by decide +kernel
theorem dX4_meter_71 : decode cX4_meter 71 = .ok (.invokevirtual 154, 3) := by decide +kernel
theorem dX4_meter_74 : decode cX4_meter 74 = .ok (.aload_n 0, 1) := by decide +kernel
theorem dX4_meter_75 : decode cX4_meter 75 = .ok (.getfield 36, 3) := by decide +kernel
theorem dX4_meter_78 : decode cX4_meter 78 = .ok (.aload_n 0, 1) := by decide +kernel
theorem dX4_meter_79 : decode cX4_meter 79 = .ok (.getfield 10, 3) := by decide +kernel
theorem dX4_meter_82 : decode cX4_meter 82 = .ok (.iload_n 1, 1) := by decide +kernel
theorem dX4_meter_83 : decode cX4_meter 83 = .ok (.invokevirtual 243, 3) := by decide +kernel
theorem dX4_meter_86 : decode cX4_meter 86 = .ok (.lreturn, 1) := by decide +kernel
theorem dX4_flow_0 : decode cX4_flow 0 = .ok (.aload_n 0, 1) := by decide +kernel
theorem dX4_flow_1 : decode cX4_flow 1 = .ok (.iload_n 1, 1) := by decide +kernel
theorem dX4_flow_2 : decode cX4_flow 2 = .ok (.invokevirtual 115, 3) := by decide +kernel
theorem dX4_flow_5 : decode cX4_flow 5 = .ok (.aload_n 0, 1) := by decide +kernel
theorem dX4_flow_6 : decode cX4_flow 6 = .ok (.invokevirtual 154, 3) := by decide +kernel
theorem dX4_flow_9 : decode cX4_flow 9 = .ok (.aload_n 0, 1) := by decide +kernel
theorem dX4_flow_10 : decode cX4_flow 10 = .ok (.getfield 36, 3) := by decide +kernel
theorem dX4_flow_13 : decode cX4_flow 13 = .ok (.getfield 247, 3) := by decide +kernel
theorem dX4_flow_16 : decode cX4_flow 16 = .ok (.iload_n 1, 1) := by decide +kernel
theorem dX4_flow_17 : decode cX4_flow 17 = .ok (.iaload, 1) := by decide +kernel
theorem dX4_flow_18 : decode cX4_flow 18 = .ok (.ireturn, 1) := by decide +kernel
theorem dX4_direction_0 : decode cX4_direction 0 = .ok (.aload_n 0, 1) := by decide +kernel
theorem dX4_direction_1 : decode cX4_direction 1 = .ok (.iload_n 1, 1) := by decide +kernel
theorem dX4_direction_2 : decode cX4_direction 2 = .ok (.invokevirtual 115, 3) := by decide +kernel
theorem dX4_direction_5 : decode cX4_direction 5 = .ok (.aload_n 0, 1) := by decide +kernel
theorem dX4_direction_6 : decode cX4_direction 6 = .ok (.invokevirtual 154, 3) := by decide +kernel
theorem dX4_direction_9 : decode cX4_direction 9 = .ok (.aload_n 0, 1) := by decide +kernel
theorem dX4_direction_10 : decode cX4_direction 10 = .ok (.getfield 36, 3) := by decide +kernel
theorem dX4_direction_13 : decode cX4_direction 13 = .ok (.getfield 247, 3) := by decide +kernel
theorem dX4_direction_16 : decode cX4_direction 16 = .ok (.iload_n 1, 1) := by decide +kernel
theorem dX4_direction_17 : decode cX4_direction 17 = .ok (.iaload, 1) := by decide +kernel
theorem dX4_direction_18 : decode cX4_direction 18 = .ok (.istore_n 2, 1) := by decide +kernel
theorem dX4_direction_19 : decode cX4_direction 19 = .ok (.iload_n 2, 1) := by decide +kernel
theorem dX4_direction_20 : decode cX4_direction 20 = .ok (.ifCond .ne 6, 3) := by decide +kernel
theorem dX4_direction_23 : decode cX4_direction 23 = .ok (.bipush 48, 2) := by decide +kernel
theorem dX4_direction_25 : decode cX4_direction 25 = .ok (.ireturn, 1) := by decide +kernel
theorem dX4_direction_26 : decode cX4_direction 26 = .ok (.iload_n 2, 1) := by decide +kernel
theorem dX4_direction_27 : decode cX4_direction 27 = .ok (.ifCond .le 8, 3) := by decide +kernel
theorem dX4_direction_30 : decode cX4_direction 30 = .ok (.bipush 43, 2) := by decide +kernel
theorem dX4_direction_32 : decode cX4_direction 32 = .ok (.goto 5, 3) := by decide +kernel
theorem dX4_direction_35 : decode cX4_direction 35 = .ok (.bipush 45, 2) := by decide +kernel
theorem dX4_direction_37 : decode cX4_direction 37 = .ok (.ireturn, 1) := by decide +kernel
theorem dX4_temperature_0 : decode cX4_temperature 0 = .ok (.iload_n 1, 1) := by decide +kernel
theorem dX4_temperature_1 : decode cX4_temperature 1 = .ok (.invokestatic 250, 3) := by decide +kernel
theorem dX4_temperature_4 : decode cX4_temperature 4 = .ok (.aload_n 0, 1) := by decide +kernel
theorem dX4_temperature_5 : decode cX4_temperature 5 = .ok (.invokevirtual 154, 3) := by decide +kernel
theorem dX4_temperature_8 : decode cX4_temperature 8 = .ok (.iload_n 2, 1) := by decide +kernel
theorem dX4_temperature_9 : decode cX4_temperature 9 = .ok (.ifCond .eq 15, 3) := by decide +kernel
theorem dX4_temperature_12 : decode cX4_temperature 12 = .ok (.aload_n 0, 1) := by decide +kernel
theorem dX4_temperature_13 : decode cX4_temperature 13 = .ok (.getfield 36, 3) := by decide +kernel
theorem dX4_temperature_16 : decode cX4_temperature 16 = .ok (.getfield 253, 3) := by decide +kernel
theorem dX4_temperature_19 : decode cX4_temperature 19 = .ok (.iload_n 1, 1) := by decide +kernel
theorem dX4_temperature_20 : decode cX4_temperature 20 = .ok (.iaload, 1) := by decide +kernel
theorem dX4_temperature_21 : decode cX4_temperature 21 = .ok (.goto 12, 3) := by decide +kernel
theorem dX4_temperature_24 : decode cX4_temperature 24 = .ok (.aload_n 0, 1) := by decide +kernel
theorem dX4_temperature_25 : decode cX4_temperature 25 = .ok (.getfield 36, 3) := by decide +kernel
theorem dX4_temperature_28 : decode cX4_temperature 28 = .ok (.getfield 256, 3) := by decide +kernel
theorem dX4_temperature_31 : decode cX4_temperature 31 = .ok (.iload_n 1, 1) := by decide +kernel
theorem dX4_temperature_32 : decode cX4_temperature 32 = .ok (.iaload, 1) := by decide +kernel
theorem dX4_temperature_33 : decode cX4_temperature 33 = .ok (.ireturn, 1) := by decide +kernel
theorem dX4_loss_0 : decode cX4_loss 0 = .ok (.aload_n 0, 1) := by decide +kernel
theorem dX4_loss_1 : decode cX4_loss 1 = .ok (.iload_n 1, 1) := by decide +kernel
theorem dX4_loss_2 : decode cX4_loss 2 = .ok (.invokevirtual 115, 3) := by decide +kernel
theorem dX4_loss_5 : decode cX4_loss 5 = .ok (.aload_n 0, 1) := by decide +kernel
theorem dX4_loss_6 : decode cX4_loss 6 = .ok (.invokevirtual 154, 3) := by decide +kernel
theorem dX4_loss_9 : decode cX4_loss 9 = .ok (.aload_n 0, 1) := by decide +kernel
theorem dX4_loss_10 : decode cX4_loss 10 = .ok (.getfield 36, 3) := by decide +kernel
theorem dX4_loss_13 : decode cX4_loss 13 = .ok (.getfield 259, 3) := by decide +kernel
theorem dX4_loss_16 : decode cX4_loss 16 = .ok (.iload_n 1, 1) := by decide +kernel
theorem dX4_loss_17 : decode cX4_loss 17 = .ok (.laload, 1) := by decide +kernel
theorem dX4_loss_18 : decode cX4_loss 18 = .ok (.lreturn, 1) := by decide +kernel
theorem dX4_rounding_0 : decode cX4_rounding 0 = .ok (.iload_n 1, 1) := by decide +kernel
theorem dX4_rounding_1 : decode cX4_rounding 1 = .ok (.invokestatic 250, 3) := by decide +kernel
theorem dX4_rounding_4 : decode cX4_rounding 4 = .ok (.aload_n 0, 1) := by decide +kernel
theorem dX4_rounding_5 : decode cX4_rounding 5 = .ok (.invokevirtual 154, 3) := by decide +kernel
theorem dX4_rounding_8 : decode cX4_rounding 8 = .ok (.aload_n 0, 1) := by decide +kernel
theorem dX4_rounding_9 : decode cX4_rounding 9 = .ok (.getfield 36, 3) := by decide +kernel
theorem dX4_rounding_12 : decode cX4_rounding 12 = .ok (.getfield 262, 3) := by decide +kernel
theorem dX4_rounding_15 : decode cX4_rounding 15 = .ok (.iload_n 1, 1) := by decide +kernel
theorem dX4_rounding_16 : decode cX4_rounding 16 = .ok (.laload, 1) := by decide +kernel
theorem dX4_rounding_17 : decode cX4_rounding 17 = .ok (.lreturn, 1) := by decide +kernel
theorem dX4_head_0 : decode cX4_head 0 = .ok (.aload_n 0, 1) := by decide +kernel
theorem dX4_head_1 : decode cX4_head 1 = .ok (.invokevirtual 154, 3) := by decide +kernel
theorem dX4_head_4 : decode cX4_head 4 = .ok (.aload_n 0, 1) := by decide +kernel
theorem dX4_head_5 : decode cX4_head 5 = .ok (.iload_n 1, 1) := by decide +kernel
theorem dX4_head_6 : decode cX4_head 6 = .ok (.invokevirtual 265, 3) := by decide +kernel
theorem dX4_head_9 : decode cX4_head 9 = .ok (.aload_n 0, 1) := by decide +kernel
theorem dX4_head_10 : decode cX4_head 10 = .ok (.getfield 36, 3) := by decide +kernel
theorem dX4_head_13 : decode cX4_head 13 = .ok (.getfield 268, 3) := by decide +kernel
theorem dX4_head_16 : decode cX4_head 16 = .ok (.iload_n 1, 1) := by decide +kernel
theorem dX4_head_17 : decode cX4_head 17 = .ok (.laload, 1) := by decide +kernel
theorem dX4_head_18 : decode cX4_head 18 = .ok (.lreturn, 1) := by decide +kernel
theorem dX4_neededHead_0 : decode cX4_neededHead 0 = .ok (.aload_n 0, 1) := by decide +kernel
theorem dX4_neededHead_1 : decode cX4_neededHead 1 = .ok (.invokevirtual 154, 3) := by decide +kernel
theorem dX4_neededHead_4 : decode cX4_neededHead 4 = .ok (.aload_n 0, 1) := by decide +kernel
theorem dX4_neededHead_5 : decode cX4_neededHead 5 = .ok (.getfield 36, 3) := by decide +kernel
theorem dX4_neededHead_8 : decode cX4_neededHead 8 = .ok (.aload_n 0, 1) := by decide +kernel
theorem dX4_neededHead_9 : decode cX4_neededHead 9 = .ok (.getfield 29, 3) := by decide +kernel
theorem dX4_neededHead_12 : decode cX4_neededHead 12 = .ok (.invokevirtual 271, 3) := by decide +kernel
theorem dX4_neededHead_15 : decode cX4_neededHead 15 = .ok (.lreturn, 1) := by decide +kernel
theorem dX4_imbalance_0 : decode cX4_imbalance 0 = .ok (.aload_n 0, 1) := by decide +kernel
theorem dX4_imbalance_1 : decode cX4_imbalance 1 = .ok (.invokevirtual 154, 3) := by decide +kernel
theorem dX4_imbalance_4 : decode cX4_imbalance 4 = .ok (.aload_n 0, 1) := by decide +kernel
theorem dX4_imbalance_5 : decode cX4_imbalance 5 = .ok (.getfield 29, 3) := by decide +kernel
theorem dX4_imbalance_8 : decode cX4_imbalance 8 = .ok (.getfield 275, 3) := by decide +kernel
theorem dX4_imbalance_11 : decode cX4_imbalance 11 = .ok (.ifCond .ne 14, 3) := by decide +kernel
theorem dX4_imbalance_14 : decode cX4_imbalance 14 = .ok (.new 197, 3) := by decide +kernel
theorem dX4_imbalance_17 : decode cX4_imbalance 17 = .ok (.dup, 1) := by decide +kernel
theorem dX4_imbalance_18 : decode cX4_imbalance 18 = .ok (.ldc_w 278, 3) := by decide +kernel
theorem dX4_imbalance_21 : decode cX4_imbalance 21 = .ok (.invokespecial 201, 3) := by decide +kernel
theorem dX4_imbalance_24 : decode cX4_imbalance 24 = .ok (.athrow, 1) := by decide +kernel
theorem dX4_imbalance_25 : decode cX4_imbalance 25 = .ok (.aload_n 0, 1) := by decide +kernel
theorem dX4_imbalance_26 : decode cX4_imbalance 26 = .ok (.getfield 36, 3) := by decide +kernel
theorem dX4_imbalance_29 : decode cX4_imbalance 29 = .ok (.getfield 280, 3) := by decide +kernel
theorem dX4_imbalance_32 : decode cX4_imbalance 32 = .ok (.lreturn, 1) := by decide +kernel
theorem dX4_rounds_0 : decode cX4_rounds 0 = .ok (.aload_n 0, 1) := by decide +kernel
theorem dX4_rounds_1 : decode cX4_rounds 1 = .ok (.invokevirtual 154, 3) := by decide +kernel
theorem dX4_rounds_4 : decode cX4_rounds 4 = .ok (.aload_n 0, 1) := by decide +kernel
theorem dX4_rounds_5 : decode cX4_rounds 5 = .ok (.getfield 36, 3) := by decide +kernel
theorem dX4_rounds_8 : decode cX4_rounds 8 = .ok (.getfield 283, 3) := by decide +kernel
theorem dX4_rounds_11 : decode cX4_rounds 11 = .ok (.ireturn, 1) := by decide +kernel
theorem dX4_loop_0 : decode cX4_loop 0 = .ok (.aload_n 0, 1) := by decide +kernel
theorem dX4_loop_1 : decode cX4_loop 1 = .ok (.invokevirtual 154, 3) := by decide +kernel
theorem dX4_loop_4 : decode cX4_loop 4 = .ok (.iload_n 1, 1) := by decide +kernel
theorem dX4_loop_5 : decode cX4_loop 5 = .ok (.ifCond .lt 14, 3) := by decide +kernel
theorem dX4_loop_8 : decode cX4_loop 8 = .ok (.iload_n 1, 1) := by decide +kernel
theorem dX4_loop_9 : decode cX4_loop 9 = .ok (.aload_n 0, 1) := by decide +kernel
theorem dX4_loop_10 : decode cX4_loop 10 = .ok (.getfield 29, 3) := by decide +kernel
theorem dX4_loop_13 : decode cX4_loop 13 = .ok (.getfield 275, 3) := by decide +kernel
theorem dX4_loop_16 : decode cX4_loop 16 = .ok (.if_icmp .lt 14, 3) := by decide +kernel
theorem dX4_loop_19 : decode cX4_loop 19 = .ok (.new 197, 3) := by decide +kernel
theorem dX4_loop_22 : decode cX4_loop 22 = .ok (.dup, 1) := by decide +kernel
theorem dX4_loop_23 : decode cX4_loop 23 = .ok (.ldc_w 286, 3) := by decide +kernel
theorem dX4_loop_26 : decode cX4_loop 26 = .ok (.invokespecial 201, 3) := by decide +kernel
theorem dX4_loop_29 : decode cX4_loop 29 = .ok (.athrow, 1) := by decide +kernel
theorem dX4_loop_30 : decode cX4_loop 30 = .ok (.aload_n 0, 1) := by decide +kernel
theorem dX4_loop_31 : decode cX4_loop 31 = .ok (.getfield 29, 3) := by decide +kernel
theorem dX4_loop_34 : decode cX4_loop 34 = .ok (.getfield 288, 3) := by decide +kernel
theorem dX4_loop_37 : decode cX4_loop 37 = .ok (.iload_n 1, 1) := by decide +kernel
theorem dX4_loop_38 : decode cX4_loop 38 = .ok (.iaload, 1) := by decide +kernel
theorem dX4_loop_39 : decode cX4_loop 39 = .ok (.ireturn, 1) := by decide +kernel
theorem dX4_distance_0 : decode cX4_distance 0 = .ok (.aload_n 0, 1) := by decide +kernel
theorem dX4_distance_1 : decode cX4_distance 1 = .ok (.invokevirtual 154, 3) := by decide +kernel
theorem dX4_distance_4 : decode cX4_distance 4 = .ok (.aload_n 0, 1) := by decide +kernel
theorem dX4_distance_5 : decode cX4_distance 5 = .ok (.iload_n 1, 1) := by decide +kernel
theorem dX4_distance_6 : decode cX4_distance 6 = .ok (.invokevirtual 265, 3) := by decide +kernel
theorem dX4_distance_9 : decode cX4_distance 9 = .ok (.aload_n 0, 1) := by decide +kernel
theorem dX4_distance_10 : decode cX4_distance 10 = .ok (.getfield 29, 3) := by decide +kernel
theorem dX4_distance_13 : decode cX4_distance 13 = .ok (.getfield 291, 3) := by decide +kernel
theorem dX4_distance_16 : decode cX4_distance 16 = .ok (.iload_n 1, 1) := by decide +kernel
theorem dX4_distance_17 : decode cX4_distance 17 = .ok (.iaload, 1) := by decide +kernel
theorem dX4_distance_18 : decode cX4_distance 18 = .ok (.ireturn, 1) := by decide +kernel
theorem dX4_part_0 : decode cX4_part 0 = .ok (.iload_n 1, 1) := by decide +kernel
theorem dX4_part_1 : decode cX4_part 1 = .ok (.invokestatic 250, 3) := by decide +kernel
theorem dX4_part_4 : decode cX4_part 4 = .ok (.aload_n 0, 1) := by decide +kernel
theorem dX4_part_5 : decode cX4_part 5 = .ok (.getfield 10, 3) := by decide +kernel
theorem dX4_part_8 : decode cX4_part 8 = .ok (.iload_n 1, 1) := by decide +kernel
theorem dX4_part_9 : decode cX4_part 9 = .ok (.invokevirtual 294, 3) := by decide +kernel
theorem dX4_part_12 : decode cX4_part 12 = .ok (.ireturn, 1) := by decide +kernel
theorem dX4_isConnected_0 : decode cX4_isConnected 0 = .ok (.iload_n 1, 1) := by decide +kernel
theorem dX4_isConnected_1 : decode cX4_isConnected 1 = .ok (.invokestatic 250, 3) := by decide +kernel
theorem dX4_isConnected_4 : decode cX4_isConnected 4 = .ok (.aload_n 0, 1) := by decide +kernel
theorem dX4_isConnected_5 : decode cX4_isConnected 5 = .ok (.invokevirtual 154, 3) := by decide +kernel
theorem dX4_isConnected_8 : decode cX4_isConnected 8 = .ok (.aload_n 0, 1) := by decide +kernel
theorem dX4_isConnected_9 : decode cX4_isConnected 9 = .ok (.getfield 29, 3) := by decide +kernel
theorem dX4_isConnected_12 : decode cX4_isConnected 12 = .ok (.getfield 291, 3) := by decide +kernel
theorem dX4_isConnected_15 : decode cX4_isConnected 15 = .ok (.iload_n 1, 1) := by decide +kernel
theorem dX4_isConnected_16 : decode cX4_isConnected 16 = .ok (.iaload, 1) := by decide +kernel
theorem dX4_isConnected_17 : decode cX4_isConnected 17 = .ok (.ifCond .lt 7, 3) := by decide +kernel
theorem dX4_isConnected_20 : decode cX4_isConnected 20 = .ok (.iconst 1, 1) := by decide +kernel
theorem dX4_isConnected_21 : decode cX4_isConnected 21 = .ok (.goto 4, 3) := by decide +kernel
theorem dX4_isConnected_24 : decode cX4_isConnected 24 = .ok (.iconst 0, 1) := by decide +kernel
theorem dX4_isConnected_25 : decode cX4_isConnected 25 = .ok (.ireturn, 1) := by decide +kernel
theorem dX4_suspect_0 : decode cX4_suspect 0 = .ok (.iconst (-1), 1) := by decide +kernel
theorem dX4_suspect_1 : decode cX4_suspect 1 = .ok (.istore_n 1, 1) := by decide +kernel
theorem dX4_suspect_2 : decode cX4_suspect 2 = .ok (.ldc2_w 297, 3) := by decide +kernel
theorem dX4_suspect_5 : decode cX4_suspect 5 = .ok (.lstore_n 2, 1) := by decide +kernel
theorem dX4_suspect_6 : decode cX4_suspect 6 = .ok (.iconst 0, 1) := by decide +kernel
theorem dX4_suspect_7 : decode cX4_suspect 7 = .ok (.istore 4, 2) := by decide +kernel
theorem dX4_suspect_9 : decode cX4_suspect 9 = .ok (.iload 4, 2) := by decide +kernel
theorem dX4_suspect_11 : decode cX4_suspect 11 = .ok (.bipush 10, 2) := by decide +kernel
theorem dX4_suspect_13 : decode cX4_suspect 13 = .ok (.if_icmp .ge 60, 3) := by decide +kernel
theorem dX4_suspect_16 : decode cX4_suspect 16 = .ok (.aload_n 0, 1) := by decide +kernel
theorem dX4_suspect_17 : decode cX4_suspect 17 = .ok (.getfield 10, 3) := by decide +kernel
theorem dX4_suspect_20 : decode cX4_suspect 20 = .ok (.getfield 233, 3) := by decide +kernel
theorem dX4_suspect_23 : decode cX4_suspect 23 = .ok (.iload 4, 2) := by decide +kernel
theorem dX4_suspect_25 : decode cX4_suspect 25 = .ok (.laload, 1) := by decide +kernel
theorem dX4_suspect_26 : decode cX4_suspect 26 = .ok (.aload_n 0, 1) := by decide +kernel
theorem dX4_suspect_27 : decode cX4_suspect 27 = .ok (.getfield 10, 3) := by decide +kernel
theorem dX4_suspect_30 : decode cX4_suspect 30 = .ok (.getfield 237, 3) := by decide +kernel
theorem dX4_suspect_33 : decode cX4_suspect 33 = .ok (.iload 4, 2) := by decide +kernel
theorem dX4_suspect_35 : decode cX4_suspect 35 = .ok (.laload, 1) := by decide +kernel
theorem dX4_suspect_36 : decode cX4_suspect 36 = .ok (.lsub, 1) := by decide +kernel
theorem dX4_suspect_37 : decode cX4_suspect 37 = .ok (.invokestatic 299, 3) := by decide +kernel
theorem dX4_suspect_40 : decode cX4_suspect 40 = .ok (.lstore 5, 2) := by decide +kernel
theorem dX4_suspect_42 : decode cX4_suspect 42 = .ok (.aload_n 0, 1) := by decide +kernel
theorem dX4_suspect_43 : decode cX4_suspect 43 = .ok (.getfield 10, 3) := by decide +kernel
theorem dX4_suspect_46 : decode cX4_suspect 46 = .ok (.iload 4, 2) := by decide +kernel
theorem dX4_suspect_48 : decode cX4_suspect 48 = .ok (.invokevirtual 305, 3) := by decide +kernel
theorem dX4_suspect_51 : decode cX4_suspect 51 = .ok (.ifCond .eq 16, 3) := by decide +kernel
theorem dX4_suspect_54 : decode cX4_suspect 54 = .ok (.lload 5, 2) := by decide +kernel
theorem dX4_suspect_56 : decode cX4_suspect 56 = .ok (.lload_n 2, 1) := by decide +kernel
theorem dX4_suspect_57 : decode cX4_suspect 57 = .ok (.lcmp, 1) := by decide +kernel
theorem dX4_suspect_58 : decode cX4_suspect 58 = .ok (.ifCond .le 9, 3) := by decide +kernel
theorem dX4_suspect_61 : decode cX4_suspect 61 = .ok (.iload 4, 2) := by decide +kernel
theorem dX4_suspect_63 : decode cX4_suspect 63 = .ok (.istore_n 1, 1) := by decide +kernel
theorem dX4_suspect_64 : decode cX4_suspect 64 = .ok (.lload 5, 2) := by decide +kernel
theorem dX4_suspect_66 : decode cX4_suspect 66 = .ok (.lstore_n 2, 1) := by decide +kernel
theorem dX4_suspect_67 : decode cX4_suspect 67 = .ok (.iinc 4 1, 3) := by decide +kernel
theorem dX4_suspect_70 : decode cX4_suspect 70 = .ok (.goto (-61), 3) := by decide +kernel
theorem dX4_suspect_73 : decode cX4_suspect 73 = .ok (.iload_n 1, 1) := by decide +kernel
theorem dX4_suspect_74 : decode cX4_suspect 74 = .ok (.ifCond .ge 14, 3) := by decide +kernel
theorem dX4_suspect_77 : decode cX4_suspect 77 = .ok (.new 197, 3) := by decide +kernel
theorem dX4_suspect_80 : decode cX4_suspect 80 = .ok (.dup, 1) := by decide +kernel
theorem dX4_suspect_81 : decode cX4_suspect 81 = .ok (.ldc_w 309, 3) := by decide +kernel
theorem dX4_suspect_84 : decode cX4_suspect 84 = .ok (.invokespecial 201, 3) := by decide +kernel
theorem dX4_suspect_87 : decode cX4_suspect 87 = .ok (.athrow, 1) := by decide +kernel
theorem dX4_suspect_88 : decode cX4_suspect 88 = .ok (.iload_n 1, 1) := by decide +kernel
theorem dX4_suspect_89 : decode cX4_suspect 89 = .ok (.ireturn, 1) := by decide +kernel
theorem dX4_trial_0 : decode cX4_trial 0 = .ok (.aload_n 0, 1) := by decide +kernel
theorem dX4_trial_1 : decode cX4_trial 1 = .ok (.iload_n 1, 1) := by decide +kernel
theorem dX4_trial_2 : decode cX4_trial 2 = .ok (.invokevirtual 138, 3) := by decide +kernel
theorem dX4_trial_5 : decode cX4_trial 5 = .ok (.iload_n 2, 1) := by decide +kernel
theorem dX4_trial_6 : decode cX4_trial 6 = .ok (.sipush 200, 3) := by decide +kernel
theorem dX4_trial_9 : decode cX4_trial 9 = .ok (.sipush 600, 3) := by decide +kernel
theorem dX4_trial_12 : decode cX4_trial 12 = .ok (.invokestatic 141, 3) := by decide +kernel
theorem dX4_trial_15 : decode cX4_trial 15 = .ok (.aload_n 0, 1) := by decide +kernel
theorem dX4_trial_16 : decode cX4_trial 16 = .ok (.invokevirtual 154, 3) := by decide +kernel
theorem dX4_trial_19 : decode cX4_trial 19 = .ok (.aload_n 0, 1) := by decide +kernel
theorem dX4_trial_20 : decode cX4_trial 20 = .ok (.iload_n 1, 1) := by decide +kernel
theorem dX4_trial_21 : decode cX4_trial 21 = .ok (.iload_n 2, 1) := by decide +kernel
theorem dX4_trial_22 : decode cX4_trial 22 = .ok (.invokevirtual 311, 3) := by decide +kernel
theorem dX4_trial_25 : decode cX4_trial 25 = .ok (.aload_n 0, 1) := by decide +kernel
theorem dX4_trial_26 : decode cX4_trial 26 = .ok (.getfield 40, 3) := by decide +kernel
theorem dX4_trial_29 : decode cX4_trial 29 = .ok (.aload_n 0, 1) := by decide +kernel
theorem dX4_trial_30 : decode cX4_trial 30 = .ok (.getfield 19, 3) := by decide +kernel
theorem dX4_trial_33 : decode cX4_trial 33 = .ok (.invokevirtual 315, 3) := by decide +kernel
theorem dX4_trial_36 : decode cX4_trial 36 = .ok (.lreturn, 1) := by decide +kernel
theorem dX4_bestReturn_0 : decode cX4_bestReturn 0 = .ok (.aload_n 0, 1) := by decide +kernel
theorem dX4_bestReturn_1 : decode cX4_bestReturn 1 = .ok (.iload_n 1, 1) := by decide +kernel
theorem dX4_bestReturn_2 : decode cX4_bestReturn 2 = .ok (.invokevirtual 138, 3) := by decide +kernel
theorem dX4_bestReturn_5 : decode cX4_bestReturn 5 = .ok (.aload_n 0, 1) := by decide +kernel
theorem dX4_bestReturn_6 : decode cX4_bestReturn 6 = .ok (.invokevirtual 154, 3) := by decide +kernel
theorem dX4_bestReturn_9 : decode cX4_bestReturn 9 = .ok (.sipush 200, 3) := by decide +kernel
theorem dX4_bestReturn_12 : decode cX4_bestReturn 12 = .ok (.istore_n 2, 1) := by decide +kernel
theorem dX4_bestReturn_13 : decode cX4_bestReturn 13 = .ok (.ldc2_w 321, 3) := by decide +kernel
theorem dX4_bestReturn_16 : decode cX4_bestReturn 16 = .ok (.lstore_n 3, 1) := by decide +kernel
theorem dX4_bestReturn_17 : decode cX4_bestReturn 17 = .ok (.sipush 200, 3) := by decide +kernel
theorem dX4_bestReturn_20 : decode cX4_bestReturn 20 = .ok (.istore 5, 2) := by decide +kernel
theorem dX4_bestReturn_22 : decode cX4_bestReturn 22 = .ok (.iload 5, 2) := by decide +kernel
theorem dX4_bestReturn_24 : decode cX4_bestReturn 24 = .ok (.sipush 600, 3) := by decide +kernel
theorem dX4_bestReturn_27 : decode cX4_bestReturn 27 = .ok (.if_icmp .gt 63, 3) := by decide +kernel
theorem dX4_bestReturn_30 : decode cX4_bestReturn 30 = .ok (.aload_n 0, 1) := by decide +kernel
theorem dX4_bestReturn_31 : decode cX4_bestReturn 31 = .ok (.iload_n 1, 1) := by decide +kernel
theorem dX4_bestReturn_32 : decode cX4_bestReturn 32 = .ok (.iload 5, 2) := by decide +kernel
theorem dX4_bestReturn_34 : decode cX4_bestReturn 34 = .ok (.invokevirtual 311, 3) := by decide +kernel
theorem dX4_bestReturn_37 : decode cX4_bestReturn 37 = .ok (.aload_n 0, 1) := by decide +kernel
theorem dX4_bestReturn_38 : decode cX4_bestReturn 38 = .ok (.getfield 19, 3) := by decide +kernel
theorem dX4_bestReturn_41 : decode cX4_bestReturn 41 = .ok (.iload_n 1, 1) := by decide +kernel
theorem dX4_bestReturn_42 : decode cX4_bestReturn 42 = .ok (.aload_n 0, 1) := by decide +kernel
theorem dX4_bestReturn_43 : decode cX4_bestReturn 43 = .ok (.getfield 40, 3) := by decide +kernel
theorem dX4_bestReturn_46 : decode cX4_bestReturn 46 = .ok (.aload_n 0, 1) := by decide +kernel
theorem dX4_bestReturn_47 : decode cX4_bestReturn 47 = .ok (.getfield 19, 3) := by decide +kernel
theorem dX4_bestReturn_50 : decode cX4_bestReturn 50 = .ok (.iload_n 1, 1) := by decide +kernel
theorem dX4_bestReturn_51 : decode cX4_bestReturn 51 = .ok (.invokevirtual 243, 3) := by decide +kernel
theorem dX4_bestReturn_54 : decode cX4_bestReturn 54 = .ok (.invokevirtual 323, 3) := by decide +kernel
theorem dX4_bestReturn_57 : decode cX4_bestReturn 57 = .ok (.lstore 6, 2) := by decide +kernel
theorem dX4_bestReturn_59 : decode cX4_bestReturn 59 = .ok (.aload_n 0, 1) := by decide +kernel
theorem dX4_bestReturn_60 : decode cX4_bestReturn 60 = .ok (.getfield 19, 3) := by decide +kernel
theorem dX4_bestReturn_63 : decode cX4_bestReturn 63 = .ok (.iload_n 1, 1) := by decide +kernel
theorem dX4_bestReturn_64 : decode cX4_bestReturn 64 = .ok (.lload 6, 2) := by decide +kernel
theorem dX4_bestReturn_66 : decode cX4_bestReturn 66 = .ok (.invokevirtual 327, 3) := by decide +kernel
theorem dX4_bestReturn_69 : decode cX4_bestReturn 69 = .ok (.lstore 8, 2) := by decide +kernel
theorem dX4_bestReturn_71 : decode cX4_bestReturn 71 = .ok (.lload 8, 2) := by decide +kernel
theorem dX4_bestReturn_73 : decode cX4_bestReturn 73 = .ok (.lload_n 3, 1) := by decide +kernel
theorem dX4_bestReturn_74 : decode cX4_bestReturn 74 = .ok (.lcmp, 1) := by decide +kernel
theorem dX4_bestReturn_75 : decode cX4_bestReturn 75 = .ok (.ifCond .ge 9, 3) := by decide +kernel
theorem dX4_bestReturn_78 : decode cX4_bestReturn 78 = .ok (.iload 5, 2) := by decide +kernel
theorem dX4_bestReturn_80 : decode cX4_bestReturn 80 = .ok (.istore_n 2, 1) := by decide +kernel
theorem dX4_bestReturn_81 : decode cX4_bestReturn 81 = .ok (.lload 8, 2) := by decide +kernel
theorem dX4_bestReturn_83 : decode cX4_bestReturn 83 = .ok (.lstore_n 3, 1) := by decide +kernel
theorem dX4_bestReturn_84 : decode cX4_bestReturn 84 = .ok (.iinc 5 50, 3) := by decide +kernel
theorem dX4_bestReturn_87 : decode cX4_bestReturn 87 = .ok (.goto (-65), 3) := by decide +kernel
theorem dX4_bestReturn_90 : decode cX4_bestReturn 90 = .ok (.iload_n 2, 1) := by decide +kernel
theorem dX4_bestReturn_91 : decode cX4_bestReturn 91 = .ok (.ireturn, 1) := by decide +kernel
theorem dX4_account_0 : decode cX4_account 0 = .ok (.iload_n 1, 1) := by decide +kernel
theorem dX4_account_1 : decode cX4_account 1 = .ok (.iconst 0, 1) := by decide +kernel
theorem dX4_account_2 : decode cX4_account 2 = .ok (.bipush 7, 2) := by decide +kernel
theorem dX4_account_4 : decode cX4_account 4 = .ok (.invokestatic 141, 3) := by decide +kernel
theorem dX4_account_7 : decode cX4_account 7 = .ok (.aload_n 0, 1) := by decide +kernel
theorem dX4_account_8 : decode cX4_account 8 = .ok (.invokevirtual 154, 3) := by decide +kernel
theorem dX4_account_11 : decode cX4_account 11 = .ok (.iload_n 1, 1) := by decide +kernel
theorem dX4_account_12 : decode cX4_account 12 = .ok (.tableswitch 114 0 6 #[44, 56, 68, 79, 90, 98, 106], 44) := by decide +kernel
theorem dX4_account_56 : decode cX4_account 56 = .ok (.aload_n 0, 1) := by decide +kernel
theorem dX4_account_57 : decode cX4_account 57 = .ok (.getfield 36, 3) := by decide +kernel
theorem dX4_account_60 : decode cX4_account 60 = .ok (.aload_n 0, 1) := by decide +kernel
theorem dX4_account_61 : decode cX4_account 61 = .ok (.getfield 10, 3) := by decide +kernel
theorem dX4_account_64 : decode cX4_account 64 = .ok (.invokevirtual 315, 3) := by decide +kernel
theorem dX4_account_67 : decode cX4_account 67 = .ok (.lreturn, 1) := by decide +kernel
theorem dX4_account_68 : decode cX4_account 68 = .ok (.aload_n 0, 1) := by decide +kernel
theorem dX4_account_69 : decode cX4_account 69 = .ok (.getfield 36, 3) := by decide +kernel
theorem dX4_account_72 : decode cX4_account 72 = .ok (.aload_n 0, 1) := by decide +kernel
theorem dX4_account_73 : decode cX4_account 73 = .ok (.getfield 10, 3) := by decide +kernel
theorem dX4_account_76 : decode cX4_account 76 = .ok (.invokevirtual 330, 3) := by decide +kernel
theorem dX4_account_79 : decode cX4_account 79 = .ok (.lreturn, 1) := by decide +kernel
theorem dX4_account_80 : decode cX4_account 80 = .ok (.aload_n 0, 1) := by decide +kernel
theorem dX4_account_81 : decode cX4_account 81 = .ok (.getfield 36, 3) := by decide +kernel
theorem dX4_account_84 : decode cX4_account 84 = .ok (.getfield 259, 3) := by decide +kernel
theorem dX4_account_87 : decode cX4_account 87 = .ok (.invokestatic 333, 3) := by decide +kernel
theorem dX4_account_90 : decode cX4_account 90 = .ok (.lreturn, 1) := by decide +kernel
theorem dX4_account_91 : decode cX4_account 91 = .ok (.aload_n 0, 1) := by decide +kernel
theorem dX4_account_92 : decode cX4_account 92 = .ok (.getfield 36, 3) := by decide +kernel
theorem dX4_account_95 : decode cX4_account 95 = .ok (.getfield 262, 3) := by decide +kernel
theorem dX4_account_98 : decode cX4_account 98 = .ok (.invokestatic 333, 3) := by decide +kernel
theorem dX4_account_101 : decode cX4_account 101 = .ok (.lreturn, 1) := by decide +kernel
theorem dX4_account_102 : decode cX4_account 102 = .ok (.aload_n 0, 1) := by decide +kernel
theorem dX4_account_103 : decode cX4_account 103 = .ok (.getfield 10, 3) := by decide +kernel
theorem dX4_account_106 : decode cX4_account 106 = .ok (.getfield 163, 3) := by decide +kernel
theorem dX4_account_109 : decode cX4_account 109 = .ok (.lreturn, 1) := by decide +kernel
theorem dX4_account_110 : decode cX4_account 110 = .ok (.aload_n 0, 1) := by decide +kernel
theorem dX4_account_111 : decode cX4_account 111 = .ok (.getfield 10, 3) := by decide +kernel
theorem dX4_account_114 : decode cX4_account 114 = .ok (.getfield 337, 3) := by decide +kernel
theorem dX4_account_117 : decode cX4_account 117 = .ok (.lreturn, 1) := by decide +kernel
theorem dX4_account_118 : decode cX4_account 118 = .ok (.aload_n 0, 1) := by decide +kernel
theorem dX4_account_119 : decode cX4_account 119 = .ok (.getfield 10, 3) := by decide +kernel
theorem dX4_account_122 : decode cX4_account 122 = .ok (.getfield 340, 3) := by decide +kernel
theorem dX4_account_125 : decode cX4_account 125 = .ok (.lreturn, 1) := by decide +kernel
theorem dX4_account_126 : decode cX4_account 126 = .ok (.aload_n 0, 1) := by decide +kernel
theorem dX4_account_127 : decode cX4_account 127 = .ok (.getfield 10, 3) := by decide +kernel
theorem dX4_account_130 : decode cX4_account 130 = .ok (.getfield 343, 3) := by decide +kernel
theorem dX4_account_133 : decode cX4_account 133 = .ok (.lreturn, 1) := by decide +kernel
theorem dX4_efficiency_0 : decode cX4_efficiency 0 = .ok (.aload_n 0, 1) := by decide +kernel
theorem dX4_efficiency_1 : decode cX4_efficiency 1 = .ok (.invokevirtual 154, 3) := by decide +kernel
theorem dX4_efficiency_4 : decode cX4_efficiency 4 = .ok (.aload_n 0, 1) := by decide +kernel
theorem dX4_efficiency_5 : decode cX4_efficiency 5 = .ok (.getfield 36, 3) := by decide +kernel
theorem dX4_efficiency_8 : decode cX4_efficiency 8 = .ok (.aload_n 0, 1) := by decide +kernel
theorem dX4_efficiency_9 : decode cX4_efficiency 9 = .ok (.getfield 10, 3) := by decide +kernel
theorem dX4_efficiency_12 : decode cX4_efficiency 12 = .ok (.invokevirtual 315, 3) := by decide +kernel
theorem dX4_efficiency_15 : decode cX4_efficiency 15 = .ok (.lstore_n 1, 1) := by decide +kernel
theorem dX4_efficiency_16 : decode cX4_efficiency 16 = .ok (.lload_n 1, 1) := by decide +kernel
theorem dX4_efficiency_17 : decode cX4_efficiency 17 = .ok (.lconst 0, 1) := by decide +kernel
theorem dX4_efficiency_18 : decode cX4_efficiency 18 = .ok (.lcmp, 1) := by decide +kernel
theorem dX4_efficiency_19 : decode cX4_efficiency 19 = .ok (.ifCond .ne 14, 3) := by decide +kernel
theorem dX4_efficiency_22 : decode cX4_efficiency 22 = .ok (.new 346, 3) := by decide +kernel
theorem dX4_efficiency_25 : decode cX4_efficiency 25 = .ok (.dup, 1) := by decide +kernel
theorem dX4_efficiency_26 : decode cX4_efficiency 26 = .ok (.ldc_w 348, 3) := by decide +kernel
theorem dX4_efficiency_29 : decode cX4_efficiency 29 = .ok (.invokespecial 350, 3) := by decide +kernel
theorem dX4_efficiency_32 : decode cX4_efficiency 32 = .ok (.athrow, 1) := by decide +kernel
theorem dX4_efficiency_33 : decode cX4_efficiency 33 = .ok (.aload_n 0, 1) := by decide +kernel
theorem dX4_efficiency_34 : decode cX4_efficiency 34 = .ok (.getfield 36, 3) := by decide +kernel
theorem dX4_efficiency_37 : decode cX4_efficiency 37 = .ok (.aload_n 0, 1) := by decide +kernel
theorem dX4_efficiency_38 : decode cX4_efficiency 38 = .ok (.getfield 10, 3) := by decide +kernel
theorem dX4_efficiency_41 : decode cX4_efficiency 41 = .ok (.invokevirtual 330, 3) := by decide +kernel
theorem dX4_efficiency_44 : decode cX4_efficiency 44 = .ok (.l2d, 1) := by decide +kernel
theorem dX4_efficiency_45 : decode cX4_efficiency 45 = .ok (.lload_n 1, 1) := by decide +kernel
theorem dX4_efficiency_46 : decode cX4_efficiency 46 = .ok (.l2d, 1) := by decide +kernel
theorem dX4_efficiency_47 : decode cX4_efficiency 47 = .ok (.ddiv, 1) := by decide +kernel
theorem dX4_efficiency_48 : decode cX4_efficiency 48 = .ok (.dreturn, 1) := by decide +kernel
theorem dX4_returnDegrees_0 : decode cX4_returnDegrees 0 = .ok (.aload_n 0, 1) := by decide +kernel
theorem dX4_returnDegrees_1 : decode cX4_returnDegrees 1 = .ok (.invokevirtual 154, 3) := by decide +kernel
theorem dX4_returnDegrees_4 : decode cX4_returnDegrees 4 = .ok (.aload_n 0, 1) := by decide +kernel
theorem dX4_returnDegrees_5 : decode cX4_returnDegrees 5 = .ok (.getfield 36, 3) := by decide +kernel
theorem dX4_returnDegrees_8 : decode cX4_returnDegrees 8 = .ok (.getfield 253, 3) := by decide +kernel
theorem dX4_returnDegrees_11 : decode cX4_returnDegrees 11 = .ok (.iconst 0, 1) := by decide +kernel
theorem dX4_returnDegrees_12 : decode cX4_returnDegrees 12 = .ok (.iaload, 1) := by decide +kernel
theorem dX4_returnDegrees_13 : decode cX4_returnDegrees 13 = .ok (.i2f, 1) := by decide +kernel
theorem dX4_returnDegrees_14 : decode cX4_returnDegrees 14 = .ok (.ldc_w 351, 3) := by decide +kernel
theorem dX4_returnDegrees_17 : decode cX4_returnDegrees 17 = .ok (.fdiv, 1) := by decide +kernel
theorem dX4_returnDegrees_18 : decode cX4_returnDegrees 18 = .ok (.freturn, 1) := by decide +kernel
theorem dX4_count_0 : decode cX4_count 0 = .ok (.iload_n 1, 1) := by decide +kernel
theorem dX4_count_1 : decode cX4_count 1 = .ok (.iconst 0, 1) := by decide +kernel
theorem dX4_count_2 : decode cX4_count 2 = .ok (.iconst 5, 1) := by decide +kernel
theorem dX4_count_3 : decode cX4_count 3 = .ok (.invokestatic 141, 3) := by decide +kernel
theorem dX4_count_6 : decode cX4_count 6 = .ok (.iload_n 1, 1) := by decide +kernel
theorem dX4_count_7 : decode cX4_count 7 = .ok (.tableswitch 78 0 4 #[33, 41, 49, 61, 73], 33) := by decide +kernel
theorem dX4_count_40 : decode cX4_count 40 = .ok (.aload_n 0, 1) := by decide +kernel
theorem dX4_count_41 : decode cX4_count 41 = .ok (.getfield 10, 3) := by decide +kernel
theorem dX4_count_44 : decode cX4_count 44 = .ok (.getfield 112, 3) := by decide +kernel
theorem dX4_count_47 : decode cX4_count 47 = .ok (.ireturn, 1) := by decide +kernel
theorem dX4_count_48 : decode cX4_count 48 = .ok (.aload_n 0, 1) := by decide +kernel
theorem dX4_count_49 : decode cX4_count 49 = .ok (.getfield 10, 3) := by decide +kernel
theorem dX4_count_52 : decode cX4_count 52 = .ok (.invokevirtual 127, 3) := by decide +kernel
theorem dX4_count_55 : decode cX4_count 55 = .ok (.ireturn, 1) := by decide +kernel
theorem dX4_count_56 : decode cX4_count 56 = .ok (.aload_n 0, 1) := by decide +kernel
theorem dX4_count_57 : decode cX4_count 57 = .ok (.invokevirtual 154, 3) := by decide +kernel
theorem dX4_count_60 : decode cX4_count 60 = .ok (.aload_n 0, 1) := by decide +kernel
theorem dX4_count_61 : decode cX4_count 61 = .ok (.getfield 29, 3) := by decide +kernel
theorem dX4_count_64 : decode cX4_count 64 = .ok (.getfield 352, 3) := by decide +kernel
theorem dX4_count_67 : decode cX4_count 67 = .ok (.ireturn, 1) := by decide +kernel
theorem dX4_count_68 : decode cX4_count 68 = .ok (.aload_n 0, 1) := by decide +kernel
theorem dX4_count_69 : decode cX4_count 69 = .ok (.invokevirtual 154, 3) := by decide +kernel
theorem dX4_count_72 : decode cX4_count 72 = .ok (.aload_n 0, 1) := by decide +kernel
theorem dX4_count_73 : decode cX4_count 73 = .ok (.getfield 29, 3) := by decide +kernel
theorem dX4_count_76 : decode cX4_count 76 = .ok (.getfield 275, 3) := by decide +kernel
theorem dX4_count_79 : decode cX4_count 79 = .ok (.ireturn, 1) := by decide +kernel
theorem dX4_count_80 : decode cX4_count 80 = .ok (.aload_n 0, 1) := by decide +kernel
theorem dX4_count_81 : decode cX4_count 81 = .ok (.getfield 54, 3) := by decide +kernel
theorem dX4_count_84 : decode cX4_count 84 = .ok (.ireturn, 1) := by decide +kernel
theorem dX4_count_85 : decode cX4_count 85 = .ok (.aload_n 0, 1) := by decide +kernel
theorem dX4_count_86 : decode cX4_count 86 = .ok (.getfield 46, 3) := by decide +kernel
theorem dX4_count_89 : decode cX4_count 89 = .ok (.getfield 167, 3) := by decide +kernel
theorem dX4_count_92 : decode cX4_count 92 = .ok (.ireturn, 1) := by decide +kernel
theorem dX4_undo_0 : decode cX4_undo 0 = .ok (.aload_n 0, 1) := by decide +kernel
theorem dX4_undo_1 : decode cX4_undo 1 = .ok (.getfield 54, 3) := by decide +kernel
theorem dX4_undo_4 : decode cX4_undo 4 = .ok (.ifCond .ne 14, 3) := by decide +kernel
theorem dX4_undo_7 : decode cX4_undo 7 = .ok (.new 170, 3) := by decide +kernel
theorem dX4_undo_10 : decode cX4_undo 10 = .ok (.dup, 1) := by decide +kernel
theorem dX4_undo_11 : decode cX4_undo 11 = .ok (.ldc_w 355, 3) := by decide +kernel
theorem dX4_undo_14 : decode cX4_undo 14 = .ok (.invokespecial 174, 3) := by decide +kernel
theorem dX4_undo_17 : decode cX4_undo 17 = .ok (.athrow, 1) := by decide +kernel
theorem dX4_undo_18 : decode cX4_undo 18 = .ok (.aload_n 0, 1) := by decide +kernel
theorem dX4_undo_19 : decode cX4_undo 19 = .ok (.aload_n 0, 1) := by decide +kernel
theorem dX4_undo_20 : decode cX4_undo 20 = .ok (.getfield 50, 3) := by decide +kernel
theorem dX4_undo_23 : decode cX4_undo 23 = .ok (.ifCond .ne 8, 3) := by decide +kernel
theorem dX4_undo_26 : decode cX4_undo 26 = .ok (.bipush 8, 2) := by decide +kernel
theorem dX4_undo_28 : decode cX4_undo 28 = .ok (.goto 9, 3) := by decide +kernel
theorem dX4_undo_31 : decode cX4_undo 31 = .ok (.aload_n 0, 1) := by decide +kernel
theorem dX4_undo_32 : decode cX4_undo 32 = .ok (.getfield 50, 3) := by decide +kernel
theorem dX4_undo_35 : decode cX4_undo 35 = .ok (.iconst 1, 1) := by decide +kernel
theorem dX4_undo_36 : decode cX4_undo 36 = .ok (.isub, 1) := by decide +kernel
theorem dX4_undo_37 : decode cX4_undo 37 = .ok (.putfield 50, 3) := by decide +kernel
theorem dX4_undo_40 : decode cX4_undo 40 = .ok (.aload_n 0, 1) := by decide +kernel
theorem dX4_undo_41 : decode cX4_undo 41 = .ok (.getfield 10, 3) := by decide +kernel
theorem dX4_undo_44 : decode cX4_undo 44 = .ok (.aload_n 0, 1) := by decide +kernel
theorem dX4_undo_45 : decode cX4_undo 45 = .ok (.getfield 22, 3) := by decide +kernel
theorem dX4_undo_48 : decode cX4_undo 48 = .ok (.aload_n 0, 1) := by decide +kernel
theorem dX4_undo_49 : decode cX4_undo 49 = .ok (.getfield 50, 3) := by decide +kernel
theorem dX4_undo_52 : decode cX4_undo 52 = .ok (.aaload, 1) := by decide +kernel
theorem dX4_undo_53 : decode cX4_undo 53 = .ok (.invokevirtual 193, 3) := by decide +kernel
theorem dX4_undo_56 : decode cX4_undo 56 = .ok (.aload_n 0, 1) := by decide +kernel
theorem dX4_undo_57 : decode cX4_undo 57 = .ok (.iconst 0, 1) := by decide +kernel
theorem dX4_undo_58 : decode cX4_undo 58 = .ok (.putfield 61, 3) := by decide +kernel
theorem dX4_undo_61 : decode cX4_undo 61 = .ok (.aload_n 0, 1) := by decide +kernel
theorem dX4_undo_62 : decode cX4_undo 62 = .ok (.dup, 1) := by decide +kernel
theorem dX4_undo_63 : decode cX4_undo 63 = .ok (.getfield 54, 3) := by decide +kernel
theorem dX4_undo_66 : decode cX4_undo 66 = .ok (.iconst 1, 1) := by decide +kernel
theorem dX4_undo_67 : decode cX4_undo 67 = .ok (.isub, 1) := by decide +kernel
theorem dX4_undo_68 : decode cX4_undo 68 = .ok (.putfield 54, 3) := by decide +kernel
theorem dX4_undo_71 : decode cX4_undo 71 = .ok (.aload_n 0, 1) := by decide +kernel
theorem dX4_undo_72 : decode cX4_undo 72 = .ok (.getfield 54, 3) := by decide +kernel
theorem dX4_undo_75 : decode cX4_undo 75 = .ok (.ireturn, 1) := by decide +kernel
theorem dX4_save_0 : decode cX4_save 0 = .ok (.aload_n 0, 1) := by decide +kernel
theorem dX4_save_1 : decode cX4_save 1 = .ok (.getfield 16, 3) := by decide +kernel
theorem dX4_save_4 : decode cX4_save 4 = .ok (.aload_n 0, 1) := by decide +kernel
theorem dX4_save_5 : decode cX4_save 5 = .ok (.getfield 10, 3) := by decide +kernel
theorem dX4_save_8 : decode cX4_save 8 = .ok (.invokevirtual 193, 3) := by decide +kernel
theorem dX4_save_11 : decode cX4_save 11 = .ok (.aload_n 0, 1) := by decide +kernel
theorem dX4_save_12 : decode cX4_save 12 = .ok (.iconst 1, 1) := by decide +kernel
theorem dX4_save_13 : decode cX4_save 13 = .ok (.putfield 57, 3) := by decide +kernel
theorem dX4_save_16 : decode cX4_save 16 = .ok (.aload_n 0, 1) := by decide +kernel
theorem dX4_save_17 : decode cX4_save 17 = .ok (.getfield 10, 3) := by decide +kernel
theorem dX4_save_20 : decode cX4_save 20 = .ok (.getfield 112, 3) := by decide +kernel
theorem dX4_save_23 : decode cX4_save 23 = .ok (.ireturn, 1) := by decide +kernel
theorem dX4_restore_0 : decode cX4_restore 0 = .ok (.aload_n 0, 1) := by decide +kernel
theorem dX4_restore_1 : decode cX4_restore 1 = .ok (.getfield 57, 3) := by decide +kernel
theorem dX4_restore_4 : decode cX4_restore 4 = .ok (.ifCond .ne 14, 3) := by decide +kernel
theorem dX4_restore_7 : decode cX4_restore 7 = .ok (.new 170, 3) := by decide +kernel
theorem dX4_restore_10 : decode cX4_restore 10 = .ok (.dup, 1) := by decide +kernel
theorem dX4_restore_11 : decode cX4_restore 11 = .ok (.ldc_w 357, 3) := by decide +kernel
theorem dX4_restore_14 : decode cX4_restore 14 = .ok (.invokespecial 174, 3) := by decide +kernel
theorem dX4_restore_17 : decode cX4_restore 17 = .ok (.athrow, 1) := by decide +kernel
theorem dX4_restore_18 : decode cX4_restore 18 = .ok (.aload_n 0, 1) := by decide +kernel
theorem dX4_restore_19 : decode cX4_restore 19 = .ok (.getfield 10, 3) := by decide +kernel
theorem dX4_restore_22 : decode cX4_restore 22 = .ok (.aload_n 0, 1) := by decide +kernel
theorem dX4_restore_23 : decode cX4_restore 23 = .ok (.getfield 16, 3) := by decide +kernel
theorem dX4_restore_26 : decode cX4_restore 26 = .ok (.invokevirtual 193, 3) := by decide +kernel
theorem dX4_restore_29 : decode cX4_restore 29 = .ok (.aload_n 0, 1) := by decide +kernel
theorem dX4_restore_30 : decode cX4_restore 30 = .ok (.iconst 0, 1) := by decide +kernel
theorem dX4_restore_31 : decode cX4_restore 31 = .ok (.putfield 61, 3) := by decide +kernel
theorem dX4_restore_34 : decode cX4_restore 34 = .ok (.aload_n 0, 1) := by decide +kernel
theorem dX4_restore_35 : decode cX4_restore 35 = .ok (.iconst 0, 1) := by decide +kernel
theorem dX4_restore_36 : decode cX4_restore 36 = .ok (.putfield 54, 3) := by decide +kernel
theorem dX4_restore_39 : decode cX4_restore 39 = .ok (.aload_n 0, 1) := by decide +kernel
theorem dX4_restore_40 : decode cX4_restore 40 = .ok (.getfield 10, 3) := by decide +kernel
theorem dX4_restore_43 : decode cX4_restore 43 = .ok (.getfield 112, 3) := by decide +kernel
theorem dX4_restore_46 : decode cX4_restore 46 = .ok (.ireturn, 1) := by decide +kernel
theorem dX4_beginChange_0 : decode cX4_beginChange 0 = .ok (.aload_n 0, 1) := by decide +kernel
theorem dX4_beginChange_1 : decode cX4_beginChange 1 = .ok (.getfield 22, 3) := by decide +kernel
theorem dX4_beginChange_4 : decode cX4_beginChange 4 = .ok (.aload_n 0, 1) := by decide +kernel
theorem dX4_beginChange_5 : decode cX4_beginChange 5 = .ok (.getfield 50, 3) := by decide +kernel
theorem dX4_beginChange_8 : decode cX4_beginChange 8 = .ok (.aaload, 1) := by decide +kernel
theorem dX4_beginChange_9 : decode cX4_beginChange 9 = .ok (.aload_n 0, 1) := by decide +kernel
theorem dX4_beginChange_10 : decode cX4_beginChange 10 = .ok (.getfield 10, 3) := by decide +kernel
theorem dX4_beginChange_13 : decode cX4_beginChange 13 = .ok (.invokevirtual 193, 3) := by decide +kernel
theorem dX4_beginChange_16 : decode cX4_beginChange 16 = .ok (.return_, 1) := by decide +kernel
theorem dX4_endChange_0 : decode cX4_endChange 0 = .ok (.aload_n 0, 1) := by decide +kernel
theorem dX4_endChange_1 : decode cX4_endChange 1 = .ok (.aload_n 0, 1) := by decide +kernel
theorem dX4_endChange_2 : decode cX4_endChange 2 = .ok (.getfield 50, 3) := by decide +kernel
theorem dX4_endChange_5 : decode cX4_endChange 5 = .ok (.bipush 8, 2) := by decide +kernel
theorem dX4_endChange_7 : decode cX4_endChange 7 = .ok (.if_icmp .ne 7, 3) := by decide +kernel
theorem dX4_endChange_10 : decode cX4_endChange 10 = .ok (.iconst 0, 1) := by decide +kernel
theorem dX4_endChange_11 : decode cX4_endChange 11 = .ok (.goto 9, 3) := by decide +kernel
theorem dX4_endChange_14 : decode cX4_endChange 14 = .ok (.aload_n 0, 1) := by decide +kernel
theorem dX4_endChange_15 : decode cX4_endChange 15 = .ok (.getfield 50, 3) := by decide +kernel
theorem dX4_endChange_18 : decode cX4_endChange 18 = .ok (.iconst 1, 1) := by decide +kernel
theorem dX4_endChange_19 : decode cX4_endChange 19 = .ok (.iadd, 1) := by decide +kernel
theorem dX4_endChange_20 : decode cX4_endChange 20 = .ok (.putfield 50, 3) := by decide +kernel
theorem dX4_endChange_23 : decode cX4_endChange 23 = .ok (.aload_n 0, 1) := by decide +kernel
theorem dX4_endChange_24 : decode cX4_endChange 24 = .ok (.aload_n 0, 1) := by decide +kernel
theorem dX4_endChange_25 : decode cX4_endChange 25 = .ok (.getfield 54, 3) := by decide +kernel
theorem dX4_endChange_28 : decode cX4_endChange 28 = .ok (.iconst 1, 1) := by decide +kernel
theorem dX4_endChange_29 : decode cX4_endChange 29 = .ok (.iadd, 1) := by decide +kernel
theorem dX4_endChange_30 : decode cX4_endChange 30 = .ok (.bipush 8, 2) := by decide +kernel
theorem dX4_endChange_32 : decode cX4_endChange 32 = .ok (.invokestatic 359, 3) := by decide +kernel
theorem dX4_endChange_35 : decode cX4_endChange 35 = .ok (.putfield 54, 3) := by decide +kernel
theorem dX4_endChange_38 : decode cX4_endChange 38 = .ok (.aload_n 0, 1) := by decide +kernel
theorem dX4_endChange_39 : decode cX4_endChange 39 = .ok (.iconst 0, 1) := by decide +kernel
theorem dX4_endChange_40 : decode cX4_endChange 40 = .ok (.putfield 61, 3) := by decide +kernel
theorem dX4_endChange_43 : decode cX4_endChange 43 = .ok (.return_, 1) := by decide +kernel
theorem dX4_settle_0 : decode cX4_settle 0 = .ok (.aload_n 0, 1) := by decide +kernel
theorem dX4_settle_1 : decode cX4_settle 1 = .ok (.getfield 61, 3) := by decide +kernel
theorem dX4_settle_4 : decode cX4_settle 4 = .ok (.ifCond .ne 34, 3) := by decide +kernel
theorem dX4_settle_7 : decode cX4_settle 7 = .ok (.aload_n 0, 1) := by decide +kernel
theorem dX4_settle_8 : decode cX4_settle 8 = .ok (.getfield 29, 3) := by decide +kernel
theorem dX4_settle_11 : decode cX4_settle 11 = .ok (.aload_n 0, 1) := by decide +kernel
theorem dX4_settle_12 : decode cX4_settle 12 = .ok (.getfield 10, 3) := by decide +kernel
theorem dX4_settle_15 : decode cX4_settle 15 = .ok (.invokevirtual 362, 3) := by decide +kernel
theorem dX4_settle_18 : decode cX4_settle 18 = .ok (.aload_n 0, 1) := by decide +kernel
theorem dX4_settle_19 : decode cX4_settle 19 = .ok (.getfield 36, 3) := by decide +kernel
theorem dX4_settle_22 : decode cX4_settle 22 = .ok (.aload_n 0, 1) := by decide +kernel
theorem dX4_settle_23 : decode cX4_settle 23 = .ok (.getfield 10, 3) := by decide +kernel
theorem dX4_settle_26 : decode cX4_settle 26 = .ok (.aload_n 0, 1) := by decide +kernel
theorem dX4_settle_27 : decode cX4_settle 27 = .ok (.getfield 29, 3) := by decide +kernel
theorem dX4_settle_30 : decode cX4_settle 30 = .ok (.invokevirtual 365, 3) := by decide +kernel
theorem dX4_settle_33 : decode cX4_settle 33 = .ok (.aload_n 0, 1) := by decide +kernel
theorem dX4_settle_34 : decode cX4_settle 34 = .ok (.iconst 1, 1) := by decide +kernel
theorem dX4_settle_35 : decode cX4_settle 35 = .ok (.putfield 61, 3) := by decide +kernel
theorem dX4_settle_38 : decode cX4_settle 38 = .ok (.return_, 1) := by decide +kernel
theorem dX4_tryReturn_0 : decode cX4_tryReturn 0 = .ok (.aload_n 0, 1) := by decide +kernel
theorem dX4_tryReturn_1 : decode cX4_tryReturn 1 = .ok (.getfield 19, 3) := by decide +kernel
theorem dX4_tryReturn_4 : decode cX4_tryReturn 4 = .ok (.aload_n 0, 1) := by decide +kernel
theorem dX4_tryReturn_5 : decode cX4_tryReturn 5 = .ok (.getfield 10, 3) := by decide +kernel
theorem dX4_tryReturn_8 : decode cX4_tryReturn 8 = .ok (.invokevirtual 193, 3) := by decide +kernel
theorem dX4_tryReturn_11 : decode cX4_tryReturn 11 = .ok (.aload_n 0, 1) := by decide +kernel
theorem dX4_tryReturn_12 : decode cX4_tryReturn 12 = .ok (.getfield 19, 3) := by decide +kernel
theorem dX4_tryReturn_15 : decode cX4_tryReturn 15 = .ok (.getfield 145, 3) := by decide +kernel
theorem dX4_tryReturn_18 : decode cX4_tryReturn 18 = .ok (.iload_n 1, 1) := by decide +kernel
theorem dX4_tryReturn_19 : decode cX4_tryReturn 19 = .ok (.iload_n 2, 1) := by decide +kernel
theorem dX4_tryReturn_20 : decode cX4_tryReturn 20 = .ok (.iastore, 1) := by decide +kernel
theorem dX4_tryReturn_21 : decode cX4_tryReturn 21 = .ok (.aload_n 0, 1) := by decide +kernel
theorem dX4_tryReturn_22 : decode cX4_tryReturn 22 = .ok (.getfield 40, 3) := by decide +kernel
theorem dX4_tryReturn_25 : decode cX4_tryReturn 25 = .ok (.aload_n 0, 1) := by decide +kernel
theorem dX4_tryReturn_26 : decode cX4_tryReturn 26 = .ok (.getfield 19, 3) := by decide +kernel
theorem dX4_tryReturn_29 : decode cX4_tryReturn 29 = .ok (.aload_n 0, 1) := by decide +kernel
theorem dX4_tryReturn_30 : decode cX4_tryReturn 30 = .ok (.getfield 29, 3) := by decide +kernel
theorem dX4_tryReturn_33 : decode cX4_tryReturn 33 = .ok (.invokevirtual 365, 3) := by decide +kernel
theorem dX4_tryReturn_36 : decode cX4_tryReturn 36 = .ok (.return_, 1) := by decide +kernel
theorem dX4_carryOut_0 : decode cX4_carryOut 0 = .ok (.aload_n 0, 1) := by decide +kernel
theorem dX4_carryOut_1 : decode cX4_carryOut 1 = .ok (.getfield 46, 3) := by decide +kernel
theorem dX4_carryOut_4 : decode cX4_carryOut 4 = .ok (.iload_n 1, 1) := by decide +kernel
theorem dX4_carryOut_5 : decode cX4_carryOut 5 = .ok (.iconst 0, 1) := by decide +kernel
theorem dX4_carryOut_6 : decode cX4_carryOut 6 = .ok (.invokevirtual 369, 3) := by decide +kernel
theorem dX4_carryOut_9 : decode cX4_carryOut 9 = .ok (.istore_n 2, 1) := by decide +kernel
theorem dX4_carryOut_10 : decode cX4_carryOut 10 = .ok (.aload_n 0, 1) := by decide +kernel
theorem dX4_carryOut_11 : decode cX4_carryOut 11 = .ok (.getfield 46, 3) := by decide +kernel
theorem dX4_carryOut_14 : decode cX4_carryOut 14 = .ok (.iload_n 1, 1) := by decide +kernel
theorem dX4_carryOut_15 : decode cX4_carryOut 15 = .ok (.iconst 1, 1) := by decide +kernel
theorem dX4_carryOut_16 : decode cX4_carryOut 16 = .ok (.invokevirtual 369, 3) := by decide +kernel
theorem dX4_carryOut_19 : decode cX4_carryOut 19 = .ok (.istore_n 3, 1) := by decide +kernel
theorem dX4_carryOut_20 : decode cX4_carryOut 20 = .ok (.aload_n 0, 1) := by decide +kernel
theorem dX4_carryOut_21 : decode cX4_carryOut 21 = .ok (.getfield 46, 3) := by decide +kernel
theorem dX4_carryOut_24 : decode cX4_carryOut 24 = .ok (.iload_n 1, 1) := by decide +kernel
theorem dX4_carryOut_25 : decode cX4_carryOut 25 = .ok (.iconst 2, 1) := by decide +kernel
theorem dX4_carryOut_26 : decode cX4_carryOut 26 = .ok (.invokevirtual 369, 3) := by decide +kernel
theorem dX4_carryOut_29 : decode cX4_carryOut 29 = .ok (.istore 4, 2) := by decide +kernel
theorem dX4_carryOut_31 : decode cX4_carryOut 31 = .ok (.aload_n 0, 1) := by decide +kernel
theorem dX4_carryOut_32 : decode cX4_carryOut 32 = .ok (.getfield 46, 3) := by decide +kernel
theorem dX4_carryOut_35 : decode cX4_carryOut 35 = .ok (.iload_n 1, 1) := by decide +kernel
theorem dX4_carryOut_36 : decode cX4_carryOut 36 = .ok (.iconst 3, 1) := by decide +kernel
theorem dX4_carryOut_37 : decode cX4_carryOut 37 = .ok (.invokevirtual 369, 3) := by decide +kernel
theorem dX4_carryOut_40 : decode cX4_carryOut 40 = .ok (.istore 5, 2) := by decide +kernel
theorem dX4_carryOut_42 : decode cX4_carryOut 42 = .ok (.aload_n 0, 1) := by decide +kernel
theorem dX4_carryOut_43 : decode cX4_carryOut 43 = .ok (.aload_n 0, 1) := by decide +kernel
theorem dX4_carryOut_44 : decode cX4_carryOut 44 = .ok (.getfield 46, 3) := by decide +kernel
theorem dX4_carryOut_47 : decode cX4_carryOut 47 = .ok (.getfield 187, 3) := by decide +kernel
theorem dX4_carryOut_50 : decode cX4_carryOut 50 = .ok (.iload_n 1, 1) := by decide +kernel
theorem dX4_carryOut_51 : decode cX4_carryOut 51 = .ok (.caload, 1) := by decide +kernel
theorem dX4_carryOut_52 : decode cX4_carryOut 52 = .ok (.iload_n 2, 1) := by decide +kernel
theorem dX4_carryOut_53 : decode cX4_carryOut 53 = .ok (.iload_n 3, 1) := by decide +kernel
theorem dX4_carryOut_54 : decode cX4_carryOut 54 = .ok (.iload 4, 2) := by decide +kernel
theorem dX4_carryOut_56 : decode cX4_carryOut 56 = .ok (.iload 5, 2) := by decide +kernel
theorem dX4_carryOut_58 : decode cX4_carryOut 58 = .ok (.invokevirtual 372, 3) := by decide +kernel
theorem dX4_carryOut_61 : decode cX4_carryOut 61 = .ok (.istore 6, 2) := by decide +kernel
theorem dX4_carryOut_63 : decode cX4_carryOut 63 = .ok (.iload 6, 2) := by decide +kernel
theorem dX4_carryOut_65 : decode cX4_carryOut 65 = .ok (.ifCond .eq 6, 3) := by decide +kernel
theorem dX4_carryOut_68 : decode cX4_carryOut 68 = .ok (.iload 6, 2) := by decide +kernel
theorem dX4_carryOut_70 : decode cX4_carryOut 70 = .ok (.ireturn, 1) := by decide +kernel
theorem dX4_carryOut_71 : decode cX4_carryOut 71 = .ok (.aload_n 0, 1) := by decide +kernel
theorem dX4_carryOut_72 : decode cX4_carryOut 72 = .ok (.getfield 46, 3) := by decide +kernel
theorem dX4_carryOut_75 : decode cX4_carryOut 75 = .ok (.getfield 187, 3) := by decide +kernel
theorem dX4_carryOut_78 : decode cX4_carryOut 78 = .ok (.iload_n 1, 1) := by decide +kernel
theorem dX4_carryOut_79 : decode cX4_carryOut 79 = .ok (.caload, 1) := by decide +kernel
theorem dX4_carryOut_80 : decode cX4_carryOut 80 = .ok (.tableswitch 108 112 120 #[52, 108, 108, 68, 95, 108, 108, 108, 84], 52) := by decide +kernel
theorem dX4_carryOut_132 : decode cX4_carryOut 132 = .ok (.aload_n 0, 1) := by decide +kernel
theorem dX4_carryOut_133 : decode cX4_carryOut 133 = .ok (.getfield 10, 3) := by decide +kernel
theorem dX4_carryOut_136 : decode cX4_carryOut 136 = .ok (.iload_n 2, 1) := by decide +kernel
theorem dX4_carryOut_137 : decode cX4_carryOut 137 = .ok (.iload_n 3, 1) := by decide +kernel
theorem dX4_carryOut_138 : decode cX4_carryOut 138 = .ok (.iload 4, 2) := by decide +kernel
theorem dX4_carryOut_140 : decode cX4_carryOut 140 = .ok (.iload 5, 2) := by decide +kernel
theorem dX4_carryOut_142 : decode cX4_carryOut 142 = .ok (.invokevirtual 108, 3) := by decide +kernel
theorem dX4_carryOut_145 : decode cX4_carryOut 145 = .ok (.goto 50, 3) := by decide +kernel
theorem dX4_carryOut_148 : decode cX4_carryOut 148 = .ok (.aload_n 0, 1) := by decide +kernel
theorem dX4_carryOut_149 : decode cX4_carryOut 149 = .ok (.getfield 10, 3) := by decide +kernel
theorem dX4_carryOut_152 : decode cX4_carryOut 152 = .ok (.iload_n 2, 1) := by decide +kernel
theorem dX4_carryOut_153 : decode cX4_carryOut 153 = .ok (.iload_n 3, 1) := by decide +kernel
theorem dX4_carryOut_154 : decode cX4_carryOut 154 = .ok (.iload 4, 2) := by decide +kernel
theorem dX4_carryOut_156 : decode cX4_carryOut 156 = .ok (.iload 5, 2) := by decide +kernel
theorem dX4_carryOut_158 : decode cX4_carryOut 158 = .ok (.invokevirtual 124, 3) := by decide +kernel
theorem dX4_carryOut_161 : decode cX4_carryOut 161 = .ok (.goto 34, 3) := by decide +kernel
theorem dX4_carryOut_164 : decode cX4_carryOut 164 = .ok (.aload_n 0, 1) := by decide +kernel
theorem dX4_carryOut_165 : decode cX4_carryOut 165 = .ok (.getfield 10, 3) := by decide +kernel
theorem dX4_carryOut_168 : decode cX4_carryOut 168 = .ok (.iload_n 2, 1) := by decide +kernel
theorem dX4_carryOut_169 : decode cX4_carryOut 169 = .ok (.invokevirtual 135, 3) := by decide +kernel
theorem dX4_carryOut_172 : decode cX4_carryOut 172 = .ok (.goto 23, 3) := by decide +kernel
theorem dX4_carryOut_175 : decode cX4_carryOut 175 = .ok (.aload_n 0, 1) := by decide +kernel
theorem dX4_carryOut_176 : decode cX4_carryOut 176 = .ok (.getfield 10, 3) := by decide +kernel
theorem dX4_carryOut_179 : decode cX4_carryOut 179 = .ok (.getfield 86, 3) := by decide +kernel
theorem dX4_carryOut_182 : decode cX4_carryOut 182 = .ok (.iload_n 2, 1) := by decide +kernel
theorem dX4_carryOut_183 : decode cX4_carryOut 183 = .ok (.iload_n 3, 1) := by decide +kernel
theorem dX4_carryOut_184 : decode cX4_carryOut 184 = .ok (.iastore, 1) := by decide +kernel
theorem dX4_carryOut_185 : decode cX4_carryOut 185 = .ok (.goto 10, 3) := by decide +kernel
theorem dX4_carryOut_188 : decode cX4_carryOut 188 = .ok (.aload_n 0, 1) := by decide +kernel
theorem dX4_carryOut_189 : decode cX4_carryOut 189 = .ok (.iload_n 2, 1) := by decide +kernel
theorem dX4_carryOut_190 : decode cX4_carryOut 190 = .ok (.invokevirtual 160, 3) := by decide +kernel
theorem dX4_carryOut_193 : decode cX4_carryOut 193 = .ok (.iconst 0, 1) := by decide +kernel
theorem dX4_carryOut_194 : decode cX4_carryOut 194 = .ok (.ireturn, 1) := by decide +kernel
theorem dX4_carryOut_195 : decode cX4_carryOut 195 = .ok (.aload_n 0, 1) := by decide +kernel
theorem dX4_carryOut_196 : decode cX4_carryOut 196 = .ok (.iconst 0, 1) := by decide +kernel
theorem dX4_carryOut_197 : decode cX4_carryOut 197 = .ok (.putfield 61, 3) := by decide +kernel
theorem dX4_carryOut_200 : decode cX4_carryOut 200 = .ok (.iconst 0, 1) := by decide +kernel
theorem dX4_carryOut_201 : decode cX4_carryOut 201 = .ok (.ireturn, 1) := by decide +kernel
theorem dX4_definitionReason_0 : decode cX4_definitionReason 0 = .ok (.iload_n 1, 1) := by decide +kernel
theorem dX4_definitionReason_1 : decode cX4_definitionReason 1 = .ok (.tableswitch 94 112 120 #[51, 94, 94, 65, 88, 94, 94, 94, 79], 51) := by decide +kernel
theorem dX4_definitionReason_52 : decode cX4_definitionReason 52 = .ok (.aload_n 0, 1) := by decide +kernel
theorem dX4_definitionReason_53 : decode cX4_definitionReason 53 = .ok (.getfield 10, 3) := by decide +kernel
theorem dX4_definitionReason_56 : decode cX4_definitionReason 56 = .ok (.iload_n 2, 1) := by decide +kernel
theorem dX4_definitionReason_57 : decode cX4_definitionReason 57 = .ok (.iload_n 3, 1) := by decide +kernel
theorem dX4_definitionReason_58 : decode cX4_definitionReason 58 = .ok (.iload 4, 2) := by decide +kernel
theorem dX4_definitionReason_60 : decode cX4_definitionReason 60 = .ok (.iload 5, 2) := by decide +kernel
theorem dX4_definitionReason_62 : decode cX4_definitionReason 62 = .ok (.invokevirtual 100, 3) := by decide +kernel
theorem dX4_definitionReason_65 : decode cX4_definitionReason 65 = .ok (.ireturn, 1) := by decide +kernel
theorem dX4_definitionReason_66 : decode cX4_definitionReason 66 = .ok (.aload_n 0, 1) := by decide +kernel
theorem dX4_definitionReason_67 : decode cX4_definitionReason 67 = .ok (.getfield 10, 3) := by decide +kernel
theorem dX4_definitionReason_70 : decode cX4_definitionReason 70 = .ok (.iload_n 2, 1) := by decide +kernel
theorem dX4_definitionReason_71 : decode cX4_definitionReason 71 = .ok (.iload_n 3, 1) := by decide +kernel
theorem dX4_definitionReason_72 : decode cX4_definitionReason 72 = .ok (.iload 4, 2) := by decide +kernel
theorem dX4_definitionReason_74 : decode cX4_definitionReason 74 = .ok (.iload 5, 2) := by decide +kernel
theorem dX4_definitionReason_76 : decode cX4_definitionReason 76 = .ok (.invokevirtual 121, 3) := by decide +kernel
theorem dX4_definitionReason_79 : decode cX4_definitionReason 79 = .ok (.ireturn, 1) := by decide +kernel
theorem dX4_definitionReason_80 : decode cX4_definitionReason 80 = .ok (.aload_n 0, 1) := by decide +kernel
theorem dX4_definitionReason_81 : decode cX4_definitionReason 81 = .ok (.getfield 10, 3) := by decide +kernel
theorem dX4_definitionReason_84 : decode cX4_definitionReason 84 = .ok (.iload_n 2, 1) := by decide +kernel
theorem dX4_definitionReason_85 : decode cX4_definitionReason 85 = .ok (.invokevirtual 131, 3) := by decide +kernel
theorem dX4_definitionReason_88 : decode cX4_definitionReason 88 = .ok (.ireturn, 1) := by decide +kernel
theorem dX4_definitionReason_89 : decode cX4_definitionReason 89 = .ok (.iload_n 2, 1) := by decide +kernel
theorem dX4_definitionReason_90 : decode cX4_definitionReason 90 = .ok (.iload_n 3, 1) := by decide +kernel
theorem dX4_definitionReason_91 : decode cX4_definitionReason 91 = .ok (.invokestatic 70, 3) := by decide +kernel
theorem dX4_definitionReason_94 : decode cX4_definitionReason 94 = .ok (.ireturn, 1) := by decide +kernel
theorem dX4_definitionReason_95 : decode cX4_definitionReason 95 = .ok (.iload_n 2, 1) := by decide +kernel
theorem dX4_definitionReason_96 : decode cX4_definitionReason 96 = .ok (.iconst 1, 1) := by decide +kernel
theorem dX4_definitionReason_97 : decode cX4_definitionReason 97 = .ok (.bipush 24, 2) := by decide +kernel
theorem dX4_definitionReason_99 : decode cX4_definitionReason 99 = .ok (.invokestatic 96, 3) := by decide +kernel
theorem dX4_definitionReason_102 : decode cX4_definitionReason 102 = .ok (.ifCond .eq 10, 3) := by decide +kernel
theorem dX4_definitionReason_105 : decode cX4_definitionReason 105 = .ok (.aload_n 0, 1) := by decide +kernel
theorem dX4_definitionReason_106 : decode cX4_definitionReason 106 = .ok (.invokevirtual 157, 3) := by decide +kernel
theorem dX4_definitionReason_109 : decode cX4_definitionReason 109 = .ok (.goto 4, 3) := by decide +kernel
theorem dX4_definitionReason_112 : decode cX4_definitionReason 112 = .ok (.iconst 2, 1) := by decide +kernel
theorem dX4_definitionReason_113 : decode cX4_definitionReason 113 = .ok (.ireturn, 1) := by decide +kernel
theorem dX4_hoursReason_0 : decode cX4_hoursReason 0 = .ok (.aload_n 0, 1) := by decide +kernel
theorem dX4_hoursReason_1 : decode cX4_hoursReason 1 = .ok (.getfield 36, 3) := by decide +kernel
theorem dX4_hoursReason_4 : decode cX4_hoursReason 4 = .ok (.aload_n 0, 1) := by decide +kernel
theorem dX4_hoursReason_5 : decode cX4_hoursReason 5 = .ok (.getfield 29, 3) := by decide +kernel
theorem dX4_hoursReason_8 : decode cX4_hoursReason 8 = .ok (.invokevirtual 271, 3) := by decide +kernel
theorem dX4_hoursReason_11 : decode cX4_hoursReason 11 = .ok (.aload_n 0, 1) := by decide +kernel
theorem dX4_hoursReason_12 : decode cX4_hoursReason 12 = .ok (.getfield 10, 3) := by decide +kernel
theorem dX4_hoursReason_15 : decode cX4_hoursReason 15 = .ok (.getfield 86, 3) := by decide +kernel
theorem dX4_hoursReason_18 : decode cX4_hoursReason 18 = .ok (.iconst 4, 1) := by decide +kernel
theorem dX4_hoursReason_19 : decode cX4_hoursReason 19 = .ok (.iaload, 1) := by decide +kernel
theorem dX4_hoursReason_20 : decode cX4_hoursReason 20 = .ok (.i2l, 1) := by decide +kernel
theorem dX4_hoursReason_21 : decode cX4_hoursReason 21 = .ok (.lcmp, 1) := by decide +kernel
theorem dX4_hoursReason_22 : decode cX4_hoursReason 22 = .ok (.ifCond .le 8, 3) := by decide +kernel
theorem dX4_hoursReason_25 : decode cX4_hoursReason 25 = .ok (.bipush 7, 2) := by decide +kernel
theorem dX4_hoursReason_27 : decode cX4_hoursReason 27 = .ok (.goto 4, 3) := by decide +kernel
theorem dX4_hoursReason_30 : decode cX4_hoursReason 30 = .ok (.iconst 0, 1) := by decide +kernel
theorem dX4_hoursReason_31 : decode cX4_hoursReason 31 = .ok (.ireturn, 1) := by decide +kernel
theorem dX4_passHours_0 : decode cX4_passHours 0 = .ok (.iconst 0, 1) := by decide +kernel
theorem dX4_passHours_1 : decode cX4_passHours 1 = .ok (.istore_n 2, 1) := by decide +kernel
theorem dX4_passHours_2 : decode cX4_passHours 2 = .ok (.iload_n 2, 1) := by decide +kernel
theorem dX4_passHours_3 : decode cX4_passHours 3 = .ok (.bipush 10, 2) := by decide +kernel
theorem dX4_passHours_5 : decode cX4_passHours 5 = .ok (.if_icmp .ge 123, 3) := by decide +kernel
theorem dX4_passHours_8 : decode cX4_passHours 8 = .ok (.aload_n 0, 1) := by decide +kernel
theorem dX4_passHours_9 : decode cX4_passHours 9 = .ok (.getfield 10, 3) := by decide +kernel
theorem dX4_passHours_12 : decode cX4_passHours 12 = .ok (.iload_n 2, 1) := by decide +kernel
theorem dX4_passHours_13 : decode cX4_passHours 13 = .ok (.invokevirtual 305, 3) := by decide +kernel
theorem dX4_passHours_16 : decode cX4_passHours 16 = .ok (.ifCond .eq 106, 3) := by decide +kernel
theorem dX4_passHours_19 : decode cX4_passHours 19 = .ok (.aload_n 0, 1) := by decide +kernel
theorem dX4_passHours_20 : decode cX4_passHours 20 = .ok (.getfield 36, 3) := by decide +kernel
theorem dX4_passHours_23 : decode cX4_passHours 23 = .ok (.aload_n 0, 1) := by decide +kernel
theorem dX4_passHours_24 : decode cX4_passHours 24 = .ok (.getfield 10, 3) := by decide +kernel
theorem dX4_passHours_27 : decode cX4_passHours 27 = .ok (.iload_n 2, 1) := by decide +kernel
theorem dX4_passHours_28 : decode cX4_passHours 28 = .ok (.invokevirtual 243, 3) := by decide +kernel
theorem dX4_passHours_31 : decode cX4_passHours 31 = .ok (.lstore_n 3, 1) := by decide +kernel
theorem dX4_passHours_32 : decode cX4_passHours 32 = .ok (.aload_n 0, 1) := by decide +kernel
theorem dX4_passHours_33 : decode cX4_passHours 33 = .ok (.getfield 10, 3) := by decide +kernel
theorem dX4_passHours_36 : decode cX4_passHours 36 = .ok (.iload_n 2, 1) := by decide +kernel
theorem dX4_passHours_37 : decode cX4_passHours 37 = .ok (.lload_n 3, 1) := by decide +kernel
theorem dX4_passHours_38 : decode cX4_passHours 38 = .ok (.invokevirtual 323, 3) := by decide +kernel
theorem dX4_passHours_41 : decode cX4_passHours 41 = .ok (.lstore 5, 2) := by decide +kernel
theorem dX4_passHours_43 : decode cX4_passHours 43 = .ok (.aload_n 0, 1) := by decide +kernel
theorem dX4_passHours_44 : decode cX4_passHours 44 = .ok (.getfield 10, 3) := by decide +kernel
theorem dX4_passHours_47 : decode cX4_passHours 47 = .ok (.iload_n 2, 1) := by decide +kernel
theorem dX4_passHours_48 : decode cX4_passHours 48 = .ok (.lload 5, 2) := by decide +kernel
theorem dX4_passHours_50 : decode cX4_passHours 50 = .ok (.invokevirtual 327, 3) := by decide +kernel
theorem dX4_passHours_53 : decode cX4_passHours 53 = .ok (.lstore 7, 2) := by decide +kernel
theorem dX4_passHours_55 : decode cX4_passHours 55 = .ok (.aload_n 0, 1) := by decide +kernel
theorem dX4_passHours_56 : decode cX4_passHours 56 = .ok (.getfield 10, 3) := by decide +kernel
theorem dX4_passHours_59 : decode cX4_passHours 59 = .ok (.getfield 233, 3) := by decide +kernel
theorem dX4_passHours_62 : decode cX4_passHours 62 = .ok (.iload_n 2, 1) := by decide +kernel
theorem dX4_passHours_63 : decode cX4_passHours 63 = .ok (.dup2, 1) := by decide +kernel
theorem dX4_passHours_64 : decode cX4_passHours 64 = .ok (.laload, 1) := by decide +kernel
theorem dX4_passHours_65 : decode cX4_passHours 65 = .ok (.lload 5, 2) := by decide +kernel
theorem dX4_passHours_67 : decode cX4_passHours 67 = .ok (.iload_n 1, 1) := by decide +kernel
theorem dX4_passHours_68 : decode cX4_passHours 68 = .ok (.i2l, 1) := by decide +kernel
theorem dX4_passHours_69 : decode cX4_passHours 69 = .ok (.lmul, 1) := by decide +kernel
theorem dX4_passHours_70 : decode cX4_passHours 70 = .ok (.ladd, 1) := by decide +kernel
theorem dX4_passHours_71 : decode cX4_passHours 71 = .ok (.lastore, 1) := by decide +kernel
theorem dX4_passHours_72 : decode cX4_passHours 72 = .ok (.aload_n 0, 1) := by decide +kernel
theorem dX4_passHours_73 : decode cX4_passHours 73 = .ok (.getfield 10, 3) := by decide +kernel
theorem dX4_passHours_76 : decode cX4_passHours 76 = .ok (.getfield 237, 3) := by decide +kernel
theorem dX4_passHours_79 : decode cX4_passHours 79 = .ok (.iload_n 2, 1) := by decide +kernel
theorem dX4_passHours_80 : decode cX4_passHours 80 = .ok (.dup2, 1) := by decide +kernel
theorem dX4_passHours_81 : decode cX4_passHours 81 = .ok (.laload, 1) := by decide +kernel
theorem dX4_passHours_82 : decode cX4_passHours 82 = .ok (.lload_n 3, 1) := by decide +kernel
theorem dX4_passHours_83 : decode cX4_passHours 83 = .ok (.iload_n 1, 1) := by decide +kernel
theorem dX4_passHours_84 : decode cX4_passHours 84 = .ok (.i2l, 1) := by decide +kernel
theorem dX4_passHours_85 : decode cX4_passHours 85 = .ok (.lmul, 1) := by decide +kernel
theorem dX4_passHours_86 : decode cX4_passHours 86 = .ok (.ladd, 1) := by decide +kernel
theorem dX4_passHours_87 : decode cX4_passHours 87 = .ok (.lastore, 1) := by decide +kernel
theorem dX4_passHours_88 : decode cX4_passHours 88 = .ok (.aload_n 0, 1) := by decide +kernel
theorem dX4_passHours_89 : decode cX4_passHours 89 = .ok (.getfield 10, 3) := by decide +kernel
theorem dX4_passHours_92 : decode cX4_passHours 92 = .ok (.getfield 240, 3) := by decide +kernel
theorem dX4_passHours_95 : decode cX4_passHours 95 = .ok (.iload_n 2, 1) := by decide +kernel
theorem dX4_passHours_96 : decode cX4_passHours 96 = .ok (.dup2, 1) := by decide +kernel
theorem dX4_passHours_97 : decode cX4_passHours 97 = .ok (.laload, 1) := by decide +kernel
theorem dX4_passHours_98 : decode cX4_passHours 98 = .ok (.lload 7, 2) := by decide +kernel
theorem dX4_passHours_100 : decode cX4_passHours 100 = .ok (.iload_n 1, 1) := by decide +kernel
theorem dX4_passHours_101 : decode cX4_passHours 101 = .ok (.i2l, 1) := by decide +kernel
theorem dX4_passHours_102 : decode cX4_passHours 102 = .ok (.lmul, 1) := by decide +kernel
theorem dX4_passHours_103 : decode cX4_passHours 103 = .ok (.ladd, 1) := by decide +kernel
theorem dX4_passHours_104 : decode cX4_passHours 104 = .ok (.lastore, 1) := by decide +kernel
theorem dX4_passHours_105 : decode cX4_passHours 105 = .ok (.aload_n 0, 1) := by decide +kernel
theorem dX4_passHours_106 : decode cX4_passHours 106 = .ok (.getfield 10, 3) := by decide +kernel
theorem dX4_passHours_109 : decode cX4_passHours 109 = .ok (.dup, 1) := by decide +kernel
theorem dX4_passHours_110 : decode cX4_passHours 110 = .ok (.getfield 343, 3) := by decide +kernel
theorem dX4_passHours_113 : decode cX4_passHours 113 = .ok (.lload 7, 2) := by decide +kernel
theorem dX4_passHours_115 : decode cX4_passHours 115 = .ok (.iload_n 1, 1) := by decide +kernel
theorem dX4_passHours_116 : decode cX4_passHours 116 = .ok (.i2l, 1) := by decide +kernel
theorem dX4_passHours_117 : decode cX4_passHours 117 = .ok (.lmul, 1) := by decide +kernel
theorem dX4_passHours_118 : decode cX4_passHours 118 = .ok (.ladd, 1) := by decide +kernel
theorem dX4_passHours_119 : decode cX4_passHours 119 = .ok (.putfield 343, 3) := by decide +kernel
theorem dX4_passHours_122 : decode cX4_passHours 122 = .ok (.iinc 2 1, 3) := by decide +kernel
theorem dX4_passHours_125 : decode cX4_passHours 125 = .ok (.goto (-123), 3) := by decide +kernel
theorem dX4_passHours_128 : decode cX4_passHours 128 = .ok (.aload_n 0, 1) := by decide +kernel
theorem dX4_passHours_129 : decode cX4_passHours 129 = .ok (.getfield 10, 3) := by decide +kernel
theorem dX4_passHours_132 : decode cX4_passHours 132 = .ok (.dup, 1) := by decide +kernel
theorem dX4_passHours_133 : decode cX4_passHours 133 = .ok (.getfield 163, 3) := by decide +kernel
theorem dX4_passHours_136 : decode cX4_passHours 136 = .ok (.iload_n 1, 1) := by decide +kernel
theorem dX4_passHours_137 : decode cX4_passHours 137 = .ok (.i2l, 1) := by decide +kernel
theorem dX4_passHours_138 : decode cX4_passHours 138 = .ok (.ladd, 1) := by decide +kernel
theorem dX4_passHours_139 : decode cX4_passHours 139 = .ok (.putfield 163, 3) := by decide +kernel
theorem dX4_passHours_142 : decode cX4_passHours 142 = .ok (.aload_n 0, 1) := by decide +kernel
theorem dX4_passHours_143 : decode cX4_passHours 143 = .ok (.getfield 10, 3) := by decide +kernel
theorem dX4_passHours_146 : decode cX4_passHours 146 = .ok (.dup, 1) := by decide +kernel
theorem dX4_passHours_147 : decode cX4_passHours 147 = .ok (.getfield 337, 3) := by decide +kernel
theorem dX4_passHours_150 : decode cX4_passHours 150 = .ok (.aload_n 0, 1) := by decide +kernel
theorem dX4_passHours_151 : decode cX4_passHours 151 = .ok (.getfield 36, 3) := by decide +kernel
theorem dX4_passHours_154 : decode cX4_passHours 154 = .ok (.aload_n 0, 1) := by decide +kernel
theorem dX4_passHours_155 : decode cX4_passHours 155 = .ok (.getfield 10, 3) := by decide +kernel
theorem dX4_passHours_158 : decode cX4_passHours 158 = .ok (.invokevirtual 315, 3) := by decide +kernel
theorem dX4_passHours_161 : decode cX4_passHours 161 = .ok (.iload_n 1, 1) := by decide +kernel
theorem dX4_passHours_162 : decode cX4_passHours 162 = .ok (.i2l, 1) := by decide +kernel
theorem dX4_passHours_163 : decode cX4_passHours 163 = .ok (.lmul, 1) := by decide +kernel
theorem dX4_passHours_164 : decode cX4_passHours 164 = .ok (.ladd, 1) := by decide +kernel
theorem dX4_passHours_165 : decode cX4_passHours 165 = .ok (.putfield 337, 3) := by decide +kernel
theorem dX4_passHours_168 : decode cX4_passHours 168 = .ok (.aload_n 0, 1) := by decide +kernel
theorem dX4_passHours_169 : decode cX4_passHours 169 = .ok (.getfield 10, 3) := by decide +kernel
theorem dX4_passHours_172 : decode cX4_passHours 172 = .ok (.dup, 1) := by decide +kernel
theorem dX4_passHours_173 : decode cX4_passHours 173 = .ok (.getfield 340, 3) := by decide +kernel
theorem dX4_passHours_176 : decode cX4_passHours 176 = .ok (.aload_n 0, 1) := by decide +kernel
theorem dX4_passHours_177 : decode cX4_passHours 177 = .ok (.getfield 36, 3) := by decide +kernel
theorem dX4_passHours_180 : decode cX4_passHours 180 = .ok (.aload_n 0, 1) := by decide +kernel
theorem dX4_passHours_181 : decode cX4_passHours 181 = .ok (.getfield 10, 3) := by decide +kernel
theorem dX4_passHours_184 : decode cX4_passHours 184 = .ok (.invokevirtual 330, 3) := by decide +kernel
theorem dX4_passHours_187 : decode cX4_passHours 187 = .ok (.iload_n 1, 1) := by decide +kernel
theorem dX4_passHours_188 : decode cX4_passHours 188 = .ok (.i2l, 1) := by decide +kernel
theorem dX4_passHours_189 : decode cX4_passHours 189 = .ok (.lmul, 1) := by decide +kernel
theorem dX4_passHours_190 : decode cX4_passHours 190 = .ok (.ladd, 1) := by decide +kernel
theorem dX4_passHours_191 : decode cX4_passHours 191 = .ok (.putfield 340, 3) := by decide +kernel
theorem dX4_passHours_194 : decode cX4_passHours 194 = .ok (.return_, 1) := by decide +kernel
theorem dX4_refuseFor_0 : decode cX4_refuseFor 0 = .ok (.iload_n 1, 1) := by decide +kernel
theorem dX4_refuseFor_1 : decode cX4_refuseFor 1 = .ok (.ifCond .eq 19, 3) := by decide +kernel
theorem dX4_refuseFor_4 : decode cX4_refuseFor 4 = .ok (.aload_n 0, 1) := by decide +kernel
theorem dX4_refuseFor_5 : decode cX4_refuseFor 5 = .ok (.iload_n 1, 1) := by decide +kernel
theorem dX4_refuseFor_6 : decode cX4_refuseFor 6 = .ok (.putfield 67, 3) := by decide +kernel
theorem dX4_refuseFor_9 : decode cX4_refuseFor 9 = .ok (.new 376, 3) := by decide +kernel
theorem dX4_refuseFor_12 : decode cX4_refuseFor 12 = .ok (.dup, 1) := by decide +kernel
theorem dX4_refuseFor_13 : decode cX4_refuseFor 13 = .ok (.ldc_w 378, 3) := by decide +kernel
theorem dX4_refuseFor_16 : decode cX4_refuseFor 16 = .ok (.invokespecial 380, 3) := by decide +kernel
theorem dX4_refuseFor_19 : decode cX4_refuseFor 19 = .ok (.athrow, 1) := by decide +kernel
theorem dX4_refuseFor_20 : decode cX4_refuseFor 20 = .ok (.return_, 1) := by decide +kernel
theorem dX4_needPipe_0 : decode cX4_needPipe 0 = .ok (.iload_n 1, 1) := by decide +kernel
theorem dX4_needPipe_1 : decode cX4_needPipe 1 = .ok (.ifCond .lt 14, 3) := by decide +kernel
theorem dX4_needPipe_4 : decode cX4_needPipe 4 = .ok (.iload_n 1, 1) := by decide +kernel
theorem dX4_needPipe_5 : decode cX4_needPipe 5 = .ok (.aload_n 0, 1) := by decide +kernel
theorem dX4_needPipe_6 : decode cX4_needPipe 6 = .ok (.getfield 10, 3) := by decide +kernel
theorem dX4_needPipe_9 : decode cX4_needPipe 9 = .ok (.getfield 112, 3) := by decide +kernel
theorem dX4_needPipe_12 : decode cX4_needPipe 12 = .ok (.if_icmp .lt 14, 3) := by decide +kernel
theorem dX4_needPipe_15 : decode cX4_needPipe 15 = .ok (.new 74, 3) := by decide +kernel
theorem dX4_needPipe_18 : decode cX4_needPipe 18 = .ok (.dup, 1) := by decide +kernel
theorem dX4_needPipe_19 : decode cX4_needPipe 19 = .ok (.ldc_w 381, 3) := by decide +kernel
theorem dX4_needPipe_22 : decode cX4_needPipe 22 = .ok (.invokespecial 78, 3) := by decide +kernel
theorem dX4_needPipe_25 : decode cX4_needPipe 25 = .ok (.athrow, 1) := by decide +kernel
theorem dX4_needPipe_26 : decode cX4_needPipe 26 = .ok (.return_, 1) := by decide +kernel
theorem dX4_needStation_0 : decode cX4_needStation 0 = .ok (.aload_n 0, 1) := by decide +kernel
theorem dX4_needStation_1 : decode cX4_needStation 1 = .ok (.getfield 10, 3) := by decide +kernel
theorem dX4_needStation_4 : decode cX4_needStation 4 = .ok (.iload_n 1, 1) := by decide +kernel
theorem dX4_needStation_5 : decode cX4_needStation 5 = .ok (.invokevirtual 305, 3) := by decide +kernel
theorem dX4_needStation_8 : decode cX4_needStation 8 = .ok (.ifCond .ne 14, 3) := by decide +kernel
theorem dX4_needStation_11 : decode cX4_needStation 11 = .ok (.new 197, 3) := by decide +kernel
theorem dX4_needStation_14 : decode cX4_needStation 14 = .ok (.dup, 1) := by decide +kernel
theorem dX4_needStation_15 : decode cX4_needStation 15 = .ok (.ldc_w 383, 3) := by decide +kernel
theorem dX4_needStation_18 : decode cX4_needStation 18 = .ok (.invokespecial 201, 3) := by decide +kernel
theorem dX4_needStation_21 : decode cX4_needStation 21 = .ok (.athrow, 1) := by decide +kernel
theorem dX4_needStation_22 : decode cX4_needStation 22 = .ok (.return_, 1) := by decide +kernel
theorem dX4_needConnected_0 : decode cX4_needConnected 0 = .ok (.iload_n 1, 1) := by decide +kernel
theorem dX4_needConnected_1 : decode cX4_needConnected 1 = .ok (.invokestatic 385, 3) := by decide +kernel
theorem dX4_needConnected_4 : decode cX4_needConnected 4 = .ok (.ifCond .eq 15, 3) := by decide +kernel
theorem dX4_needConnected_7 : decode cX4_needConnected 7 = .ok (.aload_n 0, 1) := by decide +kernel
theorem dX4_needConnected_8 : decode cX4_needConnected 8 = .ok (.getfield 29, 3) := by decide +kernel
theorem dX4_needConnected_11 : decode cX4_needConnected 11 = .ok (.getfield 291, 3) := by decide +kernel
theorem dX4_needConnected_14 : decode cX4_needConnected 14 = .ok (.iload_n 1, 1) := by decide +kernel
theorem dX4_needConnected_15 : decode cX4_needConnected 15 = .ok (.iaload, 1) := by decide +kernel
theorem dX4_needConnected_16 : decode cX4_needConnected 16 = .ok (.ifCond .ge 14, 3) := by decide +kernel
theorem dX4_needConnected_19 : decode cX4_needConnected 19 = .ok (.new 197, 3) := by decide +kernel
theorem dX4_needConnected_22 : decode cX4_needConnected 22 = .ok (.dup, 1) := by decide +kernel
theorem dX4_needConnected_23 : decode cX4_needConnected 23 = .ok (.ldc_w 388, 3) := by decide +kernel
theorem dX4_needConnected_26 : decode cX4_needConnected 26 = .ok (.invokespecial 201, 3) := by decide +kernel
theorem dX4_needConnected_29 : decode cX4_needConnected 29 = .ok (.athrow, 1) := by decide +kernel
theorem dX4_needConnected_30 : decode cX4_needConnected 30 = .ok (.return_, 1) := by decide +kernel
theorem dX4_needNode_0 : decode cX4_needNode 0 = .ok (.iload_n 0, 1) := by decide +kernel
theorem dX4_needNode_1 : decode cX4_needNode 1 = .ok (.invokestatic 385, 3) := by decide +kernel
theorem dX4_needNode_4 : decode cX4_needNode 4 = .ok (.ifCond .ne 14, 3) := by decide +kernel
theorem dX4_needNode_7 : decode cX4_needNode 7 = .ok (.new 74, 3) := by decide +kernel
theorem dX4_needNode_10 : decode cX4_needNode 10 = .ok (.dup, 1) := by decide +kernel
theorem dX4_needNode_11 : decode cX4_needNode 11 = .ok (.ldc_w 390, 3) := by decide +kernel
theorem dX4_needNode_14 : decode cX4_needNode 14 = .ok (.invokespecial 78, 3) := by decide +kernel
theorem dX4_needNode_17 : decode cX4_needNode 17 = .ok (.athrow, 1) := by decide +kernel
theorem dX4_needNode_18 : decode cX4_needNode 18 = .ok (.return_, 1) := by decide +kernel
theorem dX4_needRange_0 : decode cX4_needRange 0 = .ok (.iload_n 0, 1) := by decide +kernel
theorem dX4_needRange_1 : decode cX4_needRange 1 = .ok (.iload_n 1, 1) := by decide +kernel
theorem dX4_needRange_2 : decode cX4_needRange 2 = .ok (.iload_n 2, 1) := by decide +kernel
theorem dX4_needRange_3 : decode cX4_needRange 3 = .ok (.invokestatic 96, 3) := by decide +kernel
theorem dX4_needRange_6 : decode cX4_needRange 6 = .ok (.ifCond .ne 14, 3) := by decide +kernel
theorem dX4_needRange_9 : decode cX4_needRange 9 = .ok (.new 81, 3) := by decide +kernel
theorem dX4_needRange_12 : decode cX4_needRange 12 = .ok (.dup, 1) := by decide +kernel
theorem dX4_needRange_13 : decode cX4_needRange 13 = .ok (.ldc_w 392, 3) := by decide +kernel
theorem dX4_needRange_16 : decode cX4_needRange 16 = .ok (.invokespecial 85, 3) := by decide +kernel
theorem dX4_needRange_19 : decode cX4_needRange 19 = .ok (.athrow, 1) := by decide +kernel
theorem dX4_needRange_20 : decode cX4_needRange 20 = .ok (.return_, 1) := by decide +kernel
theorem dX4_isNode_0 : decode cX4_isNode 0 = .ok (.iload_n 0, 1) := by decide +kernel
theorem dX4_isNode_1 : decode cX4_isNode 1 = .ok (.iconst 0, 1) := by decide +kernel
theorem dX4_isNode_2 : decode cX4_isNode 2 = .ok (.bipush 9, 2) := by decide +kernel
theorem dX4_isNode_4 : decode cX4_isNode 4 = .ok (.invokestatic 96, 3) := by decide +kernel
theorem dX4_isNode_7 : decode cX4_isNode 7 = .ok (.ireturn, 1) := by decide +kernel
theorem dX4_isPipe_0 : decode cX4_isPipe 0 = .ok (.iload_n 0, 1) := by decide +kernel
theorem dX4_isPipe_1 : decode cX4_isPipe 1 = .ok (.ifCond .lt 13, 3) := by decide +kernel
theorem dX4_isPipe_4 : decode cX4_isPipe 4 = .ok (.iload_n 0, 1) := by decide +kernel
theorem dX4_isPipe_5 : decode cX4_isPipe 5 = .ok (.bipush 10, 2) := by decide +kernel
theorem dX4_isPipe_7 : decode cX4_isPipe 7 = .ok (.if_icmp .ge 7, 3) := by decide +kernel
theorem dX4_isPipe_10 : decode cX4_isPipe 10 = .ok (.iconst 1, 1) := by decide +kernel
theorem dX4_isPipe_11 : decode cX4_isPipe 11 = .ok (.goto 4, 3) := by decide +kernel
theorem dX4_isPipe_14 : decode cX4_isPipe 14 = .ok (.iconst 0, 1) := by decide +kernel
theorem dX4_isPipe_15 : decode cX4_isPipe 15 = .ok (.ireturn, 1) := by decide +kernel
theorem dX4_isWithin_0 : decode cX4_isWithin 0 = .ok (.iload_n 0, 1) := by decide +kernel
theorem dX4_isWithin_1 : decode cX4_isWithin 1 = .ok (.iload_n 1, 1) := by decide +kernel
theorem dX4_isWithin_2 : decode cX4_isWithin 2 = .ok (.if_icmp .lt 12, 3) := by decide +kernel
theorem dX4_isWithin_5 : decode cX4_isWithin 5 = .ok (.iload_n 0, 1) := by decide +kernel
theorem dX4_isWithin_6 : decode cX4_isWithin 6 = .ok (.iload_n 2, 1) := by decide +kernel
theorem dX4_isWithin_7 : decode cX4_isWithin 7 = .ok (.if_icmp .gt 7, 3) := by decide +kernel
theorem dX4_isWithin_10 : decode cX4_isWithin 10 = .ok (.iconst 1, 1) := by decide +kernel
theorem dX4_isWithin_11 : decode cX4_isWithin 11 = .ok (.goto 4, 3) := by decide +kernel
theorem dX4_isWithin_14 : decode cX4_isWithin 14 = .ok (.iconst 0, 1) := by decide +kernel
theorem dX4_isWithin_15 : decode cX4_isWithin 15 = .ok (.ireturn, 1) := by decide +kernel
theorem dX4_settingReason_0 : decode cX4_settingReason 0 = .ok (.iload_n 0, 1) := by decide +kernel
theorem dX4_settingReason_1 : decode cX4_settingReason 1 = .ok (.iconst 0, 1) := by decide +kernel
theorem dX4_settingReason_2 : decode cX4_settingReason 2 = .ok (.bipush 6, 2) := by decide +kernel
theorem dX4_settingReason_4 : decode cX4_settingReason 4 = .ok (.invokestatic 96, 3) := by decide +kernel
theorem dX4_settingReason_7 : decode cX4_settingReason 7 = .ok (.ifCond .ne 5, 3) := by decide +kernel
theorem dX4_settingReason_10 : decode cX4_settingReason 10 = .ok (.iconst 1, 1) := by decide +kernel
theorem dX4_settingReason_11 : decode cX4_settingReason 11 = .ok (.ireturn, 1) := by decide +kernel
theorem dX4_settingReason_12 : decode cX4_settingReason 12 = .ok (.iload_n 1, 1) := by decide +kernel
theorem dX4_settingReason_13 : decode cX4_settingReason 13 = .ok (.getstatic 394, 3) := by decide +kernel
theorem dX4_settingReason_16 : decode cX4_settingReason 16 = .ok (.iload_n 0, 1) := by decide +kernel
theorem dX4_settingReason_17 : decode cX4_settingReason 17 = .ok (.iaload, 1) := by decide +kernel
theorem dX4_settingReason_18 : decode cX4_settingReason 18 = .ok (.getstatic 397, 3) := by decide +kernel
theorem dX4_settingReason_21 : decode cX4_settingReason 21 = .ok (.iload_n 0, 1) := by decide +kernel
theorem dX4_settingReason_22 : decode cX4_settingReason 22 = .ok (.iaload, 1) := by decide +kernel
theorem dX4_settingReason_23 : decode cX4_settingReason 23 = .ok (.invokestatic 96, 3) := by decide +kernel
theorem dX4_settingReason_26 : decode cX4_settingReason 26 = .ok (.ifCond .eq 7, 3) := by decide +kernel
theorem dX4_settingReason_29 : decode cX4_settingReason 29 = .ok (.iconst 0, 1) := by decide +kernel
theorem dX4_settingReason_30 : decode cX4_settingReason 30 = .ok (.goto 4, 3) := by decide +kernel
theorem dX4_settingReason_33 : decode cX4_settingReason 33 = .ok (.iconst 2, 1) := by decide +kernel
theorem dX4_settingReason_34 : decode cX4_settingReason 34 = .ok (.ireturn, 1) := by decide +kernel
theorem dX4_sumOf_0 : decode cX4_sumOf 0 = .ok (.lconst 0, 1) := by decide +kernel
theorem dX4_sumOf_1 : decode cX4_sumOf 1 = .ok (.lstore_n 1, 1) := by decide +kernel
theorem dX4_sumOf_2 : decode cX4_sumOf 2 = .ok (.iconst 0, 1) := by decide +kernel
theorem dX4_sumOf_3 : decode cX4_sumOf 3 = .ok (.istore_n 3, 1) := by decide +kernel
theorem dX4_sumOf_4 : decode cX4_sumOf 4 = .ok (.iload_n 3, 1) := by decide +kernel
theorem dX4_sumOf_5 : decode cX4_sumOf 5 = .ok (.aload_n 0, 1) := by decide +kernel
theorem dX4_sumOf_6 : decode cX4_sumOf 6 = .ok (.arraylength, 1) := by decide +kernel
theorem dX4_sumOf_7 : decode cX4_sumOf 7 = .ok (.if_icmp .ge 15, 3) := by decide +kernel
theorem dX4_sumOf_10 : decode cX4_sumOf 10 = .ok (.lload_n 1, 1) := by decide +kernel
theorem dX4_sumOf_11 : decode cX4_sumOf 11 = .ok (.aload_n 0, 1) := by decide +kernel
theorem dX4_sumOf_12 : decode cX4_sumOf 12 = .ok (.iload_n 3, 1) := by decide +kernel
theorem dX4_sumOf_13 : decode cX4_sumOf 13 = .ok (.laload, 1) := by decide +kernel
theorem dX4_sumOf_14 : decode cX4_sumOf 14 = .ok (.ladd, 1) := by decide +kernel
theorem dX4_sumOf_15 : decode cX4_sumOf 15 = .ok (.lstore_n 1, 1) := by decide +kernel
theorem dX4_sumOf_16 : decode cX4_sumOf 16 = .ok (.iinc 3 1, 3) := by decide +kernel
theorem dX4_sumOf_19 : decode cX4_sumOf 19 = .ok (.goto (-15), 3) := by decide +kernel
theorem dX4_sumOf_22 : decode cX4_sumOf 22 = .ok (.lload_n 1, 1) := by decide +kernel
theorem dX4_sumOf_23 : decode cX4_sumOf 23 = .ok (.lreturn, 1) := by decide +kernel
